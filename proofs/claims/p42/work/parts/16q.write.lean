/-! WRITE, WRITELOG, WRITTEN: the line's text -/
def cupT (c : Nat) : List Nat := if 0 < c then [42] ++ iT (c : Int) else []
def tailT (a : mA) (s : Nat) : List Nat := [64] ++ (iT (a 3 s : Int) ++ ([62] ++ iT (ang a s)))
def lineT (a : mA) (s : Nat) : List Nat := hT (a 1 s) ++ (cupT (a 2 s) ++ tailT a s)
theorem iT_d {z : Int} (h1 : 0 ≤ z) (h2 : z < 10) : (iT z).length = 1 := by
  rw [iT, if_neg (by omega), List.nil_append, dT_lt (by omega)]; rfl
theorem iT_2 {z : Int} (h1 : -99 ≤ z) (h2 : z < 100) : 1 ≤ (iT z).length ∧ (iT z).length ≤ 3 := by
  rw [iT, List.length_append]
  have h3 : (dT z.natAbs).length = 1 ∨ (dT z.natAbs).length = 2 := by
    by_cases h : z.natAbs < 10
    · left; rw [dT_lt h]; rfl
    · right; rw [dT_99 (by omega) (by omega)]; rfl
  split <;> (simp; omega)
theorem cupT_len {c : Nat} (h : c ≤ 9) : (cupT c).length ≤ 2 := by
  unfold cupT
  split
  · rw [List.length_append, iT_d (by omega) (by omega)]; exact Nat.le_refl 2
  · exact Nat.zero_le 2
section
variable {B : Nat} {a : mA} {u : vZ}
theorem tailT_len (w : WF B a) {s : Nat} (hs : s < a 0 0) : 4 ≤ (tailT a s).length ∧ (tailT a s).length ≤ 6 := by
  have h1 := wf_s w s hs
  have h2 := ang_b w hs
  have h3 := iT_2 (z := ang a s) (by omega) (by omega)
  unfold tailT
  rw [List.length_append, List.length_append, List.length_append, iT_d (by omega) (by omega), List.length_singleton, List.length_singleton]
  omega
theorem lineT_len (w : WF B a) {s : Nat} (hs : s < a 0 0) : 8 ≤ (lineT a s).length ∧ (lineT a s).length ≤ 12 := by
  have h1 := wf_s w s hs
  have h2 := tailT_len w hs
  have h3 := cupT_len h1.2.1
  unfold lineT
  rw [List.length_append, List.length_append]
  have h4 : (hT (a 1 s)).length = 4 := rfl
  omega
theorem z_tail (w : WF B a) {T : List Nat} {l : vS} (r : RX a u.2.1.1) {s : Nat} (hs : s < a 0 0) (h : lnT l T) (hL : T.length ≤ 60) (hu : u.2.2.2.2.2.2 = l) : ∃ l', fX7_write_74 (nI s) u = some (nI (T ++ tailT a s).length, wLine u l') ∧ lnT l' (T ++ tailT a s) := by
  have hn := wf_n w
  have h1 := wf_s w s hs
  have h2 := ang_b w hs
  have h3 := iT_2 (z := ang a s) (by omega) (by omega)
  have hd := iT_d (z := (a 3 s : Int)) (by omega) (by omega)
  subst hu
  obtain ⟨l1, f1, g1⟩ := ln_put (c := 64) h (by omega) (by omega)
  obtain ⟨l2, f2, g2⟩ := ln_int (z := (a 3 s : Int)) (by omega) (by omega) g1 (by rw [List.length_append, List.length_singleton]; omega)
  obtain ⟨l3, f3, g3⟩ := ln_put (c := 62) g2 (by omega) (by rw [List.length_append, List.length_append, List.length_singleton]; omega)
  obtain ⟨l4, f4, g4⟩ := ln_int (z := ang a s) (by omega) (by omega) g3 (by rw [List.length_append, List.length_append, List.length_append, List.length_singleton, List.length_singleton]; omega)
  have e : T ++ [64] ++ iT (a 3 s : Int) ++ [62] ++ iT (ang a s) = T ++ tailT a s := by
    unfold tailT
    simp only [List.append_assoc]
  rw [e] at g4
  refine ⟨l4, ?_, g4⟩
  have ha := xq_angle0 w r hs
  have hin : ¬ (nI s < 0 ∨ 8 ≤ Int32.toNatClampNeg (nI s)) := nI_in (by omega) (by omega)
  have hw : u.2.1.1.1 3 s = iI (a 3 s : Int) := by rw [rx_w r s hs]; exact nI_iI _
  unfold fX7_write_74
  rw [show (64 : Int32) = nI 64 from rfl, f1]
  simp only [Option.bind_some, bdE]
  rw [if_neg hin, nI_clamp (n := s) (by omega)]
  rw [hw, f2]
  simp only [Option.bind_some]
  rw [show (62 : Int32) = nI 62 from rfl, f3]
  simp only [Option.bind_some]
  rw [show (0 : Int32) = nI 0 from rfl, ha]
  simp only [obp_some]
  rw [f4]
  simp only [Option.bind_some]
  rw [g4.1]
  rfl
theorem z_write (w : WF B a) (r : RX a u.2.1.1) {s : Nat} (hs : s < a 0 0) : ∃ l', fX7_write (nI s) u = some (nI (lineT a s).length, wLine u l') ∧ lnT l' (lineT a s) := by
  have hn := wf_n w
  have h1 := wf_s w s hs
  have g0 := xq_has w r hs
  have hin : ¬ (nI s < 0 ∨ 8 ≤ Int32.toNatClampNeg (nI s)) := nI_in (by omega) (by omega)
  have h4 : (hT (a 1 s)).length = 4 := rfl
  have hc := cupT_len h1.2.1
  obtain ⟨l0, f0, b0⟩ := ln_clear u.2.2.2.2.2.2
  obtain ⟨l1, f1, b1⟩ := ln_hex (m := a 1 s) h1.1 b0 (by show 0 + 4 ≤ 140; omega)
  rw [List.nil_append] at b1
  have hm : u.2.1.1.1 1 s = nI (a 1 s) := rx_m r s hs
  have hcc : u.2.1.1.1 2 s = nI (a 2 s) := rx_c r s hs
  unfold fX7_write
  rw [g0]
  simp only [obp_some, bdE]
  rw [if_neg (by decide), f0]
  simp only [Option.bind_some]
  rw [if_neg hin, nI_clamp (n := s) (by omega), hm, f1]
  simp only [Option.bind_some]
  have hin2 : ¬ (nI s < 0 ∨ 8 ≤ s) := fun z => by
    rcases z with z | z
    · exact nI_neg0 (a := s) (by omega) z
    · omega
  rw [hcc, if_neg hin2]
  by_cases h : 0 < a 2 s
  · have ec : cupT (a 2 s) = [42] ++ iT (a 2 s : Int) := by rw [cupT, if_pos h]
    have hd := iT_d (z := (a 2 s : Int)) (by omega) (by omega)
    obtain ⟨l2, f2, b2⟩ := ln_put (c := 42) b1 (by omega) (by omega)
    obtain ⟨l3, f3, b3⟩ := ln_int (z := (a 2 s : Int)) (by omega) (by omega) b2 (by rw [List.length_append, List.length_singleton]; omega)
    rw [if_neg (nI_nle h (by omega)), show (42 : Int32) = nI 42 from rfl, f2]
    simp only [Option.bind_some]
    rw [if_neg hin2, nI_iI (a 2 s), f3]
    simp only [Option.bind_some]
    obtain ⟨l', e1, e2⟩ := z_tail (u := wLine u l3) w r hs b3 (by rw [List.length_append, List.length_append, List.length_singleton]; omega) rfl
    have e : hT (a 1 s) ++ [42] ++ iT (a 2 s : Int) ++ tailT a s = lineT a s := by
      unfold lineT
      rw [ec]
      simp only [List.append_assoc]
    rw [e] at e1 e2
    exact ⟨l', e1, e2⟩
  · have ec : cupT (a 2 s) = [] := by rw [cupT, if_neg h]
    rw [if_pos (show nI (a 2 s) ≤ 0 by rw [show a 2 s = 0 by omega]; decide)]
    obtain ⟨l', e1, e2⟩ := z_tail (u := wLine u l1) w r hs b1 (by omega) rfl
    have e : hT (a 1 s) ++ tailT a s = lineT a s := by
      unfold lineT
      rw [ec, List.nil_append]
    rw [e] at e1 e2
    exact ⟨l', e1, e2⟩
theorem z_writeN (w : WF B a) (r : RX a u.2.1.1) : fX7_write (nI (a 0 0)) u = some (-100001, u) := (by rw [fX7_write, xq_hasnt w r (z_out w), obp_some]; (try dsimp only [bd]); exact if_pos l32_0.symm)
theorem z_written {l : vS} {T : List Nat} (h : lnT l T) (hu : u.2.2.2.2.2.2 = l) {i : Nat} (hi : i < T.length) : fX7_written (nI i) u = some (nI (T.getD i 0), u) := by
  subst hu
  obtain ⟨h1, h2, h3⟩ := h
  unfold fX7_written
  rw [if_neg (show ¬ nI i < 0 from nI_neg0 (by omega)), h1, if_neg (nI_ge hi (by omega)), if_neg (nI_in (by omega) (by omega)), nI_clamp (by omega), h3 i hi]
/-- the log's text -/
def logT (a : mA) : Nat → List Nat
  | 0 => []
  | k + 1 => logT a k ++ ((if k = 0 then [] else [32]) ++ (iT (a 5 k : Int) ++ ([58] ++ iT (a 6 k : Int))))
end

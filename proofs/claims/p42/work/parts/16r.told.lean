/-! LINE AND TOLD: the law's texts -/
def chs (W : List Nat) : Prop := ∀ x ∈ W, x < 256
theorem chs_at {W : List Nat} (h : chs W) {i : Nat} (hi : i < W.length) : W.getD i 0 < 256 := by
  rw [gD_e hi]
  exact h _ (List.getElem_mem hi)
theorem chs_app {V W : List Nat} (h1 : chs V) (h2 : chs W) : chs (V ++ W) := fun x hx => by
  rcases List.mem_append.mp hx with h | h
  · exact h1 x h
  · exact h2 x h
theorem chs_nil : chs [] := fun x hx => absurd hx List.not_mem_nil
theorem chs_one {c : Nat} (h : c < 256) : chs [c] := fun x hx => by rw [List.mem_singleton.mp hx]; exact h
theorem chs_iT (z : Int) : chs (iT z) := fun x hx => by
  obtain ⟨i, hi, rfl⟩ := List.getElem_of_mem hx
  have := iT_lt z i hi
  rw [gD_e hi] at this
  exact this
theorem chs_hT (m : Nat) : chs (hT m) := by
  have h : ∀ k, hD (k % 16) < 256 := fun k => (hD_dig _ (Nat.mod_lt _ (by decide))).2
  intro x hx
  simp only [hT, List.mem_cons, List.not_mem_nil, or_false] at hx
  rcases hx with h1 | h1 | h1 | h1 <;> (rw [h1]; exact h _)
theorem chs_cup (c : Nat) : chs (cupT c) := by
  unfold cupT
  split
  · exact chs_app (chs_one (by decide)) (chs_iT _)
  · exact chs_nil
theorem chs_line (a : mA) (s : Nat) : chs (lineT a s) := chs_app (chs_hT _) (chs_app (chs_cup _) (chs_app (chs_one (by decide)) (chs_app (chs_iT _) (chs_app (chs_one (by decide)) (chs_iT _)))))
theorem take_snoc {W : List Nat} {i : Nat} (h : i < W.length) : W.take (i + 1) = W.take i ++ [W.getD i 0] := by
  rw [List.take_succ, List.getElem?_eq_getElem h, gD_e h]; rfl
theorem li_loop {u : vZ} {W : List Nat} {l : vS} {mc ms : Nat} (hl : lnT l W) (hu : u.2.2.2.2.2.2 = l) (hW : chs W) (hL : W.length ≤ 110) (hm : 17 ≤ mc) (hs : 5 * W.length + 36 ≤ ms) : ∀ (d i n n4 kc ks : Nat) (g : Nat → Int32) (T : List Nat), i + d = W.length → d < n → T = W.take i → sbT T n4 g → bOk 0 0 kc ks n4 → ∃ f, hf_L_line_10 mc ms n (nI W.length) (nI i) (nI T.length) n4 g u kc ks = some (W.length, f, u) ∧ stT W W.length f := by
  intro d
  induction d with
  | zero =>
    intro i n n4 kc ks g T hi hn hT h hb
    obtain ⟨n, rfl⟩ : ∃ k, n = k + 1 := ⟨n - 1, by omega⟩
    have e : T = W := by rw [hT, List.take_of_length_le (by omega)]
    rw [hf_L_line_10, if_pos (nI_le (by omega) (by omega))]
    simp only [bdE]
    subst e
    obtain ⟨f, e1, e2⟩ := c_ts (mc := mc) (ms := ms) h hb (by omega) (by omega) (by omega)
    exact ⟨f, e1 _, e2⟩
  | succ d ih =>
    intro i n n4 kc ks g T hi hn hT h hb
    obtain ⟨n, rfl⟩ : ∃ k, n = k + 1 := ⟨n - 1, by omega⟩
    have hTl : T.length = i := by rw [hT, List.length_take]; omega
    rw [hf_L_line_10, if_neg (nI_ge (by omega) (by omega)), z_written hl hu (by omega)]
    simp only [obp_some, bdE]
    rw [(sb_byte _ (chs_at hW (i := i) (by omega))).2.1]
    obtain ⟨n', g', e1, e2, e3⟩ := c_char (mc := mc) (ms := ms) (c := W.getD i 0) h (chs_at hW (by omega)) hb (by omega) (by omega) (by omega)
    rw [e1]
    obtain ⟨f, f1, f2⟩ := ih (i + 1) n n' _ _ g' (T ++ [W.getD i 0]) (by omega) (by omega) (by rw [hT, take_snoc (by omega)]) e2 e3
    refine ⟨f, ?_, f2⟩
    rw [← f1, nI_1]
theorem li_spec {u : vZ} {W : List Nat} {l : vS} {mc ms : Nat} (hl : lnT l W) (hu : u.2.2.2.2.2.2 = l) (hW : chs W) (hL : W.length ≤ 110) (hm : 17 ≤ mc) (hs : 5 * W.length + 36 ≤ ms) : ∃ f, hf_L_line mc ms (nI W.length) u = some (W.length, f, u) ∧ stT W W.length f := by
  obtain ⟨i1, i2⟩ := in_0
  obtain ⟨f, f1, f2⟩ := li_loop (mc := mc) (ms := ms) hl hu hW hL hm hs W.length 0 vF 16 2 20 (fun _ => 0) [] (by omega) (by unfold vF; omega) rfl i2 ⟨by decide, by decide⟩
  refine ⟨f, ?_, f2⟩
  unfold hf_L_line
  simp only [bdE]
  rw [if_pos (by omega), if_pos (by omega), i1]
  simp only [Option.bind_some]
  exact f1
def acI (a : mA) (i : Nat) : Int := match i with
  | 0 => a 0 0 | 1 => a 0 1 | 2 => (a 0 2 : Int) - 3 | 3 => a 0 3 | 4 => a 0 4 | 5 => sumN (a 0 0) (a 2) | 6 => a 0 5 | 7 => a 0 6 | _ => a 0 7
def accT (a : mA) : Nat → List Nat
  | 0 => []
  | k + 1 => accT a k ++ iT (acI a k) ++ [44]
def linT (a : mA) (P : List Nat) : Nat → List Nat
  | 0 => P
  | k + 1 => linT a P k ++ lineT a k ++ [59]
def watT (a : mA) (P : List Nat) : Nat → List Nat
  | 0 => P
  | k + 1 => watT a P k ++ iT (a 4 k : Int) ++ [44]
def sgI (a : mA) (k : Nat) : Int := (UInt32.toInt32 (fe (a 7 k))).toInt
def sigT (a : mA) (P : List Nat) : Nat → List Nat
  | 0 => P
  | k + 1 => sigT a P k ++ iT (a 5 k : Int) ++ [44] ++ iT (a 6 k : Int) ++ [44] ++ iT (sgI a k) ++ [59]
def toldT (a : mA) : List Nat := sigT a (watT a (linT a (accT a 9) (a 0 0)) 4) (a 0 3)
theorem iT_11 {z : Int} (h1 : -2147483648 ≤ z) (h2 : z < 2147483648) : (iT z).length ≤ 11 := by
  obtain ⟨p, q1, q2, q3⟩ := top_p z.natAbs 9 (by
    have e : (10 : Nat) ^ (9 + 1) = 10000000000 := by decide
    omega)
  rw [iT, List.length_append, dT_len p z.natAbs q3 q2 (by omega)]
  split <;> (simp; omega)
theorem iI_ofI (x : Int32) : iI x.toInt = x := Int32.ofInt_toInt x
section
variable {B : Nat} {a : mA} {u : vZ}
theorem acI_b (w : WF B a) (c : CI B a) (hB : B < 100000000) {i : Nat} : -2147483648 ≤ acI a i ∧ acI a i < 2147483648 := by
  have h1 := wf_n w
  have h2 := w.1
  obtain ⟨c1, c2, c3, c4⟩ := c
  unfold acI
  split <;> omega
theorem z_ac (w : WF B a) (r : RX a u.2.1.1) {i : Nat} (hi : i < 9) : fX7_account (nI i) u = some (iI (acI a i), u) := by
  match i, hi with
  | 0, _ => exact (z_ac0 r).trans (by rw [nI_iI]; rfl)
  | 1, _ => exact (z_ac1 r).trans (by rw [nI_iI]; rfl)
  | 2, _ => exact z_ac2 r
  | 3, _ => exact (z_ac3 r).trans (by rw [nI_iI]; rfl)
  | 4, _ => exact (z_ac4 r).trans (by rw [nI_iI]; rfl)
  | 5, _ => exact (z_ac5 w r).trans (by rw [nI_iI]; rfl)
  | 6, _ => exact (z_ac6 r).trans (by rw [nI_iI]; rfl)
  | 7, _ => exact (z_ac7 r).trans (by rw [nI_iI]; rfl)
  | 8, _ => exact (z_ac8 r).trans (by rw [nI_iI]; rfl)
  | i + 9, hi => exact absurd hi (by omega)
theorem si_b (k : Nat) : -2147483648 ≤ sgI a k ∧ sgI a k < 2147483648 := ⟨Int32.le_toInt _, Int32.toInt_lt _⟩
theorem sigT_len (w : WF B a) (hB : B < 100000000) (P : List Nat) : ∀ k, k ≤ a 0 3 → (sigT a P k).length ≤ P.length + 36 * k
  | 0, _ => by rw [sigT]; omega
  | k + 1, hk => by
    have h1 := sigT_len w hB P k (by omega)
    have h2 := (w.2.2.2.1) k (by omega)
    have h3 := w.1
    have l1 := iT_11 (z := (a 5 k : Int)) (by omega) (by omega)
    have l2 := iT_11 (z := (a 6 k : Int)) (by omega) (by omega)
    have l3 := iT_11 (z := sgI a k) (si_b k).1 (si_b k).2
    rw [sigT]
    simp only [List.length_append, List.length_singleton]
    omega
theorem to_sig (w : WF B a) (r : RX a u.2.1.1) (hB : B < 100000000) {mc ms kb sb : Nat} {P : List Nat} (hP : P.length ≤ 400) (hm : kb + 17 ≤ mc) (hs : sb + 3836 ≤ ms) : ∀ (d k n n3 kc ks : Nat) (g : Nat → Int32) (T : List Nat), k + d = a 0 3 → d < n → T = sigT a P k → sbT T n3 g → bOk kb sb kc ks n3 → ∃ f, hf_L_told_104 mc ms n (nI k) (nI T.length) n3 g u kc ks = some ((sigT a P (a 0 3)).length, f, u) ∧ stT (sigT a P (a 0 3)) (sigT a P (a 0 3)).length f := by
  have hn := wf_n w
  have h3 := w.1
  intro d
  induction d with
  | zero =>
    intro k n n3 kc ks g T hk hn hT h hb
    obtain ⟨n, rfl⟩ : ∃ j, n = j + 1 := ⟨n - 1, by omega⟩
    have hl := sigT_len w hB P k (by omega)
    have e : k = a 0 3 := by omega
    rw [hf_L_told_104, z_ac3 r]
    simp only [obp_some, bdE]
    rw [if_pos (nI_le (by omega) (by omega)), ← e, ← hT]
    rw [← hT] at hl
    obtain ⟨f, e1, e2⟩ := c_ts (mc := mc) (ms := ms) h hb (by omega) (by omega) (by omega)
    exact ⟨f, e1 _, e2⟩
  | succ d ih =>
    intro k n n3 kc ks g T hk hn hT h hb
    obtain ⟨n, rfl⟩ : ∃ j, n = j + 1 := ⟨n - 1, by omega⟩
    have hl := sigT_len w hB P k (by omega)
    rw [← hT] at hl
    have h2 := (w.2.2.2.1) k (by omega)
    have l1 := iT_11 (z := (a 5 k : Int)) (by omega) (by omega)
    have l2 := iT_11 (z := (a 6 k : Int)) (by omega) (by omega)
    have l3 := iT_11 (z := sgI a k) (si_b k).1 (si_b k).2
    obtain ⟨n1, g1, e1, s1, b1⟩ := c_int (mc := mc) (ms := ms) (z := (a 5 k : Int)) h (by omega) (by omega) hb (by omega) (by omega) (by omega)
    obtain ⟨n2, g2, e2, s2, b2⟩ := c_char (mc := mc) (ms := ms) (c := 44) s1 (by omega) b1 (by simp only [List.length_append]; omega) (by omega) (by simp only [List.length_append]; omega)
    obtain ⟨n4, g4, e4, s4, b4⟩ := c_int (mc := mc) (ms := ms) (z := (a 6 k : Int)) s2 (by omega) (by omega) b2 (by simp only [List.length_append, List.length_singleton]; omega) (by omega) (by simp only [List.length_append, List.length_singleton]; omega)
    obtain ⟨n5, g5, e5, s5, b5⟩ := c_char (mc := mc) (ms := ms) (c := 44) s4 (by omega) b4 (by simp only [List.length_append, List.length_singleton]; omega) (by omega) (by simp only [List.length_append, List.length_singleton]; omega)
    obtain ⟨n6, g6, e6, s6, b6⟩ := c_int (mc := mc) (ms := ms) (z := sgI a k) s5 (si_b k).1 (si_b k).2 b5 (by simp only [List.length_append, List.length_singleton]; omega) (by omega) (by simp only [List.length_append, List.length_singleton]; omega)
    obtain ⟨n7, g7, e7, s7, b7⟩ := c_char (mc := mc) (ms := ms) (c := 59) s6 (by omega) b6 (by simp only [List.length_append, List.length_singleton]; omega) (by omega) (by simp only [List.length_append, List.length_singleton]; omega)
    obtain ⟨f, f1, f2⟩ := ih (k + 1) n n7 _ _ g7 _ (by omega) (by omega) (by rw [hT]; rfl) s7 b7
    refine ⟨f, ?_, f2⟩
    rw [← f1, hf_L_told_104, z_ac3 r]
    simp only [obp_some, bdE]
    rw [if_neg (nI_ge (by omega) (by omega)), z_si0 w r (by omega)]
    simp only [obp_some]
    rw [nI_iI (a 5 k), e1]
    dsimp only
    rw [show (44 : Int32) = nI 44 from rfl, e2]
    dsimp only
    rw [z_si1 w r (by omega)]
    simp only [obp_some]
    rw [nI_iI (a 6 k), e4]
    dsimp only
    rw [e5]
    dsimp only
    rw [z_si2 w r (by omega)]
    simp only [obp_some]
    rw [← iI_ofI (UInt32.toInt32 (fe (a 7 k))), show iI (UInt32.toInt32 (fe (a 7 k))).toInt = iI (sgI a k) from rfl, e6]
    dsimp only
    rw [show (59 : Int32) = nI 59 from rfl, e7]
    dsimp only
    rw [nI_1]
end

theorem oc_up {B B' : Nat} {a : mA} {f : Nat} {y x : Int32} {c : vS → Option (Int32 × vS)} {g : vZ → Option (Int32 × vZ)} {o : Oc} (h : OC B a f y x c g o) (hB : B ≤ B') (hB' : B' < 1000000000) : OC B' a f y x c g o := by
  cases o using Oc.cs with
  | bad k => exact h
  | no w d => exact h
  | ok r a' =>
    obtain ⟨h1, h2⟩ := h
    exact ⟨wf_up h1 hB hB', h2⟩
theorem oc_all {B : Nat} {a : mA} (w : WF B a) (hB : B + 1 < 1000000000) (c : Nat → Nat) {f : Nat} (hf : f < 10) (p : Nat) : ∃ g o, OC (B + 1) a (fmF f) (whoF c f p) (valF c f p) (dR (fmF f) (whoF c f p) (valF c f p)) g o := by
  have up : ∀ {f y x d g}, (∃ o, OC B a f y x d g o) → ∃ g o, OC (B + 1) a f y x d g o := fun ⟨o, h⟩ => ⟨_, o, oc_up h (Nat.le_succ B) hB⟩
  have : f = 0 ∨ f = 1 ∨ f = 2 ∨ f = 3 ∨ f = 4 ∨ f = 5 ∨ f = 6 ∨ f = 7 ∨ f = 8 ∨ f = 9 := by omega
  rcases this with e | e | e | e | e | e | e | e | e | e <;> subst e
  · exact up (cm_0 w (valF c 0 p))
  · exact up (cm_1 w (whoF c 1 p))
  · exact up (cm_2 w (whoF c 2 p))
  · exact up (cm_3 w (whoF c 3 p) (valF c 3 p))
  · exact up (cm_4 w (whoF c 4 p) (valF c 4 p))
  · exact up (cm_5 w (whoF c 5 p) (valF c 5 p))
  · exact up (cm_6 w (whoF c 6 p) (valF c 6 p))
  · exact up (cm_7 w (valF c 7 p))
  · exact up (cm_7 w (valF c 8 p))
  · exact ⟨_, cm_9 w hB⟩
def setT (u : vZ) (z : vH) : vZ := (u.1, (u.2.1, (z, u.2.2.2)))
def endNo (u : vZ) (j : Nat) (w d : Int32) : vZ := (u.1, (u.2.1, (u.2.2.1, (u.2.2.2.1, (up2 (up2 (up2 (zKeep u 5 (nI j)).2.2.2.2.1 1 1 w) 2 1 d) 0 2 2, u.2.2.2.2.2)))))
/-- what the reference's second pass leaves as it was -/
def QF (v v' : vS) : Prop := (∀ b, b ≠ 0 → b ≠ 1 → b ≠ 8 → v' b = v b) ∧ ∀ k, k ≠ 0 → k ≠ 2 → k ≠ 3 → k ≠ 4 → k ≠ 19 → k ≠ 22 → v' 0 k = v 0 k
def QK (v v' : vS) : Prop := (∀ b, b ≠ 0 → b ≠ 1 → b ≠ 8 → v' b = v b) ∧ ∀ k, k ≠ 19 → k ≠ 22 → v' 0 k = v 0 k
theorem qk_trans {v1 v2 v3 : vS} (h : QK v1 v2) (g : QK v2 v3) : QK v1 v3 := ⟨fun b h0 h1 h8 => (g.1 b h0 h1 h8).trans (h.1 b h0 h1 h8), fun k h1 h2 => (g.2 k h1 h2).trans (h.2 k h1 h2)⟩
theorem qf_trans {v1 v2 v3 : vS} (h : QK v1 v2) (g : QF v2 v3) : QF v1 v3 := ⟨fun b h0 h1 h8 => (g.1 b h0 h1 h8).trans (h.1 b h0 h1 h8), fun k h0 h2 h3 h4 h19 h22 => (g.2 k h0 h2 h3 h4 h19 h22).trans (h.2 k h19 h22)⟩
theorem qk_pf {v v' : vS} (h : PF v v') : QK v v' := ⟨fun b h0 _ h8 => h.1 b h0 h8, h.2⟩
theorem qk_op {v v' : vS} (h : ∀ b, b ≠ 1 → v' b = v b) : QK v v' := ⟨fun b _ h1 _ => h b h1, fun k _ _ => by rw [h 0 (by omega)]⟩
theorem ct_qk {c : Nat → Nat} {n : Nat} {v v' : vS} (C : CT c n v) (f : QK v v') : CT c n v' := by
  obtain ⟨h1, h2, h3, h4⟩ := C
  refine ⟨h1, by rw [f.2 20 (by omega) (by omega)]; exact h2, fun i hi => by rw [f.1 6 (by omega) (by omega) (by omega)]; exact h3 i hi, ?_⟩
  unfold RC at h4 ⊢
  rw [f.1 9 (by omega) (by omega) (by omega), f.1 10 (by omega) (by omega) (by omega)]
  exact h4
section
variable {c : Nat → Nat} {n : Nat}
/-- the class's part of a command on the trial -/
theorem x_step {B : Nat} {a : mA} {f j m : Nat} {y x : Int32} {d : vS → Option (Int32 × vS)} {g : vZ → Option (Int32 × vZ)} {o : Oc} (hf : f < 10) (O : OC B a f y x d g o) {u : vZ} {z : vH} (r : RX a z) (M : Nat) (hj : j < m) (hm : m ≤ 15) (h5 : u.2.2.2.2.2.1.1 0 5 = nI m) (k2 : u.2.2.2.2.2.1.2 j = some f) (k3 : u.2.2.2.2.2.1.1 3 j = y) (k4 : u.2.2.2.2.2.1.1 4 j = x) : match o with
    | .inl _ => fX7_isTextDone_13 (M + 1) (nI j) (setT u z) = some (0, setT (zKeep u 5 (nI j)) z)
    | .inr (.inl (w, e)) => fX7_isTextDone_13 (M + 1) (nI j) (setT u z) = some (0, setT (endNo u j w e) z)
    | .inr (.inr (_, a')) => ∃ z', fX7_isTextDone_13 (M + 1) (nI j) (setT u z) = fX7_isTextDone_13 M (nI (j + 1)) (setT u z') ∧ RX a' z' := by
  have i15 : ¬ (nI j < 0 ∨ 15 ≤ j) := by
    have := (nJ_in (a := j) (n := 15) (by omega) (by omega)).mp
    rw [nJ_clamp (by omega)] at this
    exact this
  have c5 : ¬ (setT u z).2.2.2.2.2.1.1 0 5 ≤ nI j := by
    show ¬ u.2.2.2.2.2.1.1 0 5 ≤ nI j
    rw [h5, nJ_le (by omega) (by omega)]
    omega
  have start : fX7_isTextDone_13 (M + 1) (nI j) (setT u z) = obp (fX5_isInRange f y x z) fun y11 u10b => (if y11 = 0 then (some (0, setT (zKeep u 5 (nI j)) u10b)) else obp (fX5_reasonAgainst f y x u10b) fun y14 u13b => (if y14 = 0 then (fX5_carryOut f y x u13b).bind fun u16b => fX7_isTextDone_13 M (nI (j + 1)) (setT u u16b) else obp (fX5_detailOf y14 y x u13b) fun y20 u19b => some (0, setT (endNo u j y14 y20) u19b))) := by
    rw [fX7_isTextDone_13, if_neg c5, nJ_clamp (by omega), if_neg i15]
    show (u.2.2.2.2.2.1.2 j).bind _ = _
    rw [k2, Option.bind_some, if_neg i15]
    dsimp only [bd]
    rw [if_neg i15, l32_1, nJ_add]
    have k3' : (setT u z).2.2.2.2.2.1.1 3 j = y := k3
    have k4' : (setT u z).2.2.2.2.2.1.1 4 j = x := k4
    simp only [k3', k4']
    rfl
  rw [start]
  cases o using Oc.cs with
  | bad k =>
    obtain ⟨h1, h2, h3, h4⟩ := O
    show _ = _
    rw [h2 z r, obp_some, if_pos l32_0.symm]
  | no w e =>
    obtain ⟨h1, h2, h3, h4⟩ := O
    obtain ⟨g1, g2, g3⟩ := h2 z r
    show _ = _
    rw [g1, obp_some, if_neg (by decide), g2, obp_some, if_neg h1, g3, obp_some]
  | ok r0 a' =>
    obtain ⟨h1, h2, h3, h4⟩ := O
    obtain ⟨g1, g2, z', g3, g4⟩ := h2 z r
    refine ⟨z', ?_, g4⟩
    rw [g1, obp_some, if_neg (by decide), g2, obp_some, if_pos l32_0.symm, g3, Option.bind_some]
/-- the reference's part -/
theorem r_step {B : Nat} {a : mA} {f p : Nat} {g : vZ → Option (Int32 × vZ)} {o : Oc} (hf : f < 10) (h : Mf c n f p = ln f) (O : OC B a (fmF f) (whoF c f p) (valF c f p) (dR (fmF f) (whoF c f p) (valF c f p)) g o) {v : vS} (C : CT c n v) (S : ST v p 0) (h23 : v 0 23 = nI 1) (q : RR a (v 1)) : match o with
    | .inl k => ∃ v', fX8_command v = some v' ∧ QF v v' ∧ v' 0 0 = k ∧ v' 0 22 = 0
    | .inr (.inl (w, e)) => ∃ v', fX8_command v = some v' ∧ QF v v' ∧ v' 0 0 = -100005 ∧ v' 0 2 = w ∧ v' 0 3 = e ∧ v' 0 22 = 0
    | .inr (.inr (_, a')) => ∃ v', fX8_command v = some v' ∧ QK v v' ∧ ST v' (p + ln f) 0 ∧ RR a' (v' 1) := by
  obtain ⟨v1, f1, S1, e1⟩ := cmd_ok C hf h S
  have c23 : ¬ v1 0 23 = 0 := by rw [f1.2 23 (by omega) (by omega), h23]; decide
  rw [if_neg c23] at e1
  have q1 : RR a (v1 1) := by rw [f1.1 1 (by omega) (by omega)]; exact q
  cases o using Oc.cs with
  | bad k =>
    obtain ⟨h1, h2, h3, h4⟩ := O
    refine ⟨up2 v1 0 0 k, ?_, qf_trans (qk_pf f1) ⟨fun b h0 _ _ => up2_o h0, fun j h0 _ _ _ _ _ => upd_ne h0⟩, rfl, S1.2⟩
    rw [e1, h3 v1 q1, obp_some]
  | no w e =>
    obtain ⟨h1, h2, h3, h4⟩ := O
    refine ⟨rfS v1 w e, ?_, qf_trans (qk_pf f1) ⟨fun b h0 _ _ => ?_, fun j h0 h2 h3 h4 _ _ => ?_⟩, rfl, rfl, rfl, S1.2⟩
    · rw [e1, h3 v1 q1, obp_some]
    · unfold rfS
      rw [up2_o h0, up2_o h0, up2_o h0, up2_o h0]
    · show upd (upd (upd (upd (v1 0) 2 w) 3 e) 4 0) 0 (-100005) j = _
      rw [upd_ne h0, upd_ne h4, upd_ne h3, upd_ne h2]
  | ok r0 a' =>
    obtain ⟨h1, h2, h3, h4⟩ := O
    obtain ⟨v2, e2, q2, o2⟩ := h3 v1 q1
    refine ⟨v2, ?_, qk_trans (qk_pf f1) (qk_op o2), ⟨?_, ?_⟩, q2⟩
    · rw [e1, e2, obp_some]
    · rw [o2 0 (by omega)]; exact S1.1
    · rw [o2 0 (by omega)]; exact S1.2
/-- both do the commands of a text -/
def P2 (B : Nat) (u : vZ) (z : vH) (v : vS) (j m M N : Nat) : Prop :=
  (∃ a' z' v' M', 0 < M' ∧ WF (B + (m - j)) a' ∧ fX7_isTextDone_13 M (nI j) (setT u z) = fX7_isTextDone_13 M' (nI m) (setT u z') ∧ RX a' z' ∧ runC N (nI (j + 1)) v = some (nI m, v') ∧ RR a' (v' 1) ∧ QK v v') ∨
  (∃ i z' v', i < m ∧ fX7_isTextDone_13 M (nI j) (setT u z) = some (0, setT (zKeep u 5 (nI i)) z') ∧ runC N (nI (j + 1)) v = some (nI (i + 1), v') ∧ QF v v' ∧ v' 0 0 ≠ 0 ∧ v' 0 0 ≠ -100005) ∨
  (∃ i w d z' v', i < m ∧ w ≠ 0 ∧ fX7_isTextDone_13 M (nI j) (setT u z) = some (0, setT (endNo u i w d) z') ∧ runC N (nI (j + 1)) v = some (nI (i + 1), v') ∧ QF v v' ∧ v' 0 0 = -100005 ∧ v' 0 2 = w ∧ v' 0 3 = d)
theorem pass2 {p : Nat} {cs : List (Nat × Nat)} {out : Option Nat} (P : PR c n p cs out) : out = none → ∀ j m a B u z v M N, m = j + cs.length → m ≤ 15 → B + cs.length < 1000000000 → n + 2 ≤ p + N → cs.length + 1 ≤ M → p ≤ n → WF B a → RX a z → RR a (v 1) → CT c n v → ST v p 0 → v 0 0 = 0 → v 0 23 = nI 1 → u.2.2.2.2.2.1.1 0 5 = nI m → (∀ i (hi : i < cs.length), kept c u.2.2.2.2.2.1 (j + i) cs[i]) → P2 B u z v j m M N := by
  have fm : ∀ f, f < 10 → fmF f < 10 := by decide
  induction P using PR.ind with
  | bad p hp h => intro ho; cases ho
  | semi p f hf h hq hc => intro ho; cases ho
  | last p f hf h hq =>
    intro _ j m a B u z v M N hm hm15 hB hN hM hp w r q C S h0 h23 h5 hk
    have hm1 : m = j + 1 := hm
    obtain ⟨M, rfl⟩ : ∃ x, M = x + 1 := ⟨M - 1, by omega⟩
    obtain ⟨N, rfl⟩ : ∃ x, N = x + 1 := ⟨N - 1, by omega⟩
    have hB1 : B + 1 < 1000000000 := hB
    obtain ⟨g, o, O⟩ := oc_all w hB1 c hf p
    obtain ⟨k2, k3, k4⟩ := hk 0 (by show 0 < 1; omega)
    rw [Nat.add_zero] at k2 k3 k4
    have X := x_step (fm f hf) O r M (by omega : j < m) hm15 h5 k2 k3 k4
    have R := r_step hf h O C S h23 q
    cases o using Oc.cs with
    | bad k =>
      obtain ⟨v', e, f1, g1, g2⟩ := R
      obtain ⟨hk0, _⟩ := O
      refine Or.inr (Or.inl ⟨j, z, v', by omega, X, ?_, f1, by rw [g1]; exact hk0.1, by rw [g1]; exact hk0.2⟩)
      rw [runC, e, Option.bind_some, fX8_commands_16, if_pos g2, if_neg (by rw [g1]; exact hk0.1)]
    | no y d =>
      obtain ⟨v', e, f1, g1, g2, g3, g4⟩ := R
      refine Or.inr (Or.inr ⟨j, y, d, z, v', by omega, O.1, X, ?_, f1, g1, g2, g3⟩)
      rw [runC, e, Option.bind_some, fX8_commands_16, if_pos g4, if_neg (by rw [g1]; decide)]
    | ok r0 a' =>
      obtain ⟨v', e, f1, S1, q1⟩ := R
      obtain ⟨z', X1, X2⟩ := X
      have C1 := ct_qk C f1
      rw [hq] at S1
      refine Or.inl ⟨a', z', v', M, by omega, ?_, ?_, X2, ?_, q1, f1⟩
      · rw [hm1, Nat.add_sub_cancel_left]
        exact O.1
      · rw [X1, hm1]
      · rw [runC, e, Option.bind_some, fX8_commands_16, if_pos (show v' 0 22 = 0 from S1.2), if_pos (by rw [f1.2 0 (by omega) (by omega)]; exact h0), if_pos (by rw [C1.2.1, S1.1]; exact Int32.le_refl _), hm1]
  | next p f cs out hf h hq hc hr ih =>
    intro ho j m a B u z v M N hm hm15 hB hN hM hp w r q C S h0 h23 h5 hk
    have hl := ln_b f hf
    rw [List.length_cons] at hm hB hM
    obtain ⟨M, rfl⟩ : ∃ x, M = x + 1 := ⟨M - 1, by omega⟩
    obtain ⟨N, rfl⟩ : ∃ x, N = x + 1 := ⟨N - 1, by omega⟩
    have hB1 : B + 1 < 1000000000 := by omega
    obtain ⟨g, o, O⟩ := oc_all w hB1 c hf p
    obtain ⟨k2, k3, k4⟩ := hk 0 (by rw [List.length_cons]; omega)
    rw [Nat.add_zero] at k2 k3 k4
    have X := x_step (fm f hf) O r M (by omega : j < m) hm15 h5 k2 k3 k4
    have R := r_step hf h O C S h23 q
    cases o using Oc.cs with
    | bad k =>
      obtain ⟨v', e, f1, g1, g2⟩ := R
      obtain ⟨hk0, _⟩ := O
      refine Or.inr (Or.inl ⟨j, z, v', by omega, X, ?_, f1, by rw [g1]; exact hk0.1, by rw [g1]; exact hk0.2⟩)
      rw [runC, e, Option.bind_some, fX8_commands_16, if_pos g2, if_neg (by rw [g1]; exact hk0.1)]
    | no y d =>
      obtain ⟨v', e, f1, g1, g2, g3, g4⟩ := R
      refine Or.inr (Or.inr ⟨j, y, d, z, v', by omega, O.1, X, ?_, f1, g1, g2, g3⟩)
      rw [runC, e, Option.bind_some, fX8_commands_16, if_pos g4, if_neg (by rw [g1]; decide)]
    | ok r0 a' =>
      obtain ⟨v', e, f1, S1, q1⟩ := R
      obtain ⟨z', X1, X2⟩ := X
      have C1 := ct_qk C f1
      have c0 : v' 0 0 = 0 := by rw [f1.2 0 (by omega) (by omega)]; exact h0
      obtain ⟨v2, e2, f2, F2⟩ := mark_ok C1 (y := 59) (by omega) (by decide) S1 (by omega)
      have hmm : mm c n [59] (p + ln f) = 1 := by
        rw [mm_one, if_pos ⟨hq, (okc_let (by decide)).mpr hc⟩]
      have S2 := fins_go (S := [59]) hmm F2
      have c2 : v2 0 22 = 0 := S2.2
      have er : runC (N + 1) (nI (j + 1)) v = runC N (nI (j + 1 + 1)) v2 := by
        rw [runC, e, Option.bind_some, fX8_commands_16, if_pos (show v' 0 22 = 0 from S1.2), if_pos c0, if_neg (by rw [C1.2.1, S1.1, nJ_le (by have := C.1; omega) (by have := C.1; omega)]; omega), show (59 : Int32) = nI 59 from rfl, e2, Option.bind_some, if_pos c2, l32_1, nJ_add]
        rfl
      have fk := qk_trans f1 (qk_pf f2)
      have q2 : RR a' (v2 1) := by rw [f2.1 1 (by omega) (by omega)]; exact q1
      have recu := ih ho (j + 1) m a' (B + 1) u z' v2 M N (by omega) hm15 (by omega) (by omega) (by omega) (by omega) O.1 X2 q2 (ct_pf C1 f2) S2 (by rw [f2.2 0 (by omega) (by omega)]; exact c0) (by rw [fk.2 23 (by omega) (by omega)]; exact h23) h5 (fun i hi => by
        have := hk (i + 1) (by rw [List.length_cons]; omega)
        rw [show j + (i + 1) = j + 1 + i from by omega] at this
        exact this)
      rcases recu with ⟨a2, z2, v3, M', h1, h2, h3, h4, h5, h6, h7⟩ | ⟨i, z2, v3, h1, h2, h3, h4, h5, h6⟩ | ⟨i, y, d, z2, v3, h1, h2, h3, h4, h5, h6, h7, h8⟩
      · refine Or.inl ⟨a2, z2, v3, M', h1, ?_, X1.trans h3, h4, er.trans h5, h6, qk_trans fk h7⟩
        rw [show B + (m - j) = B + 1 + (m - (j + 1)) from by omega]
        exact h2
      · exact Or.inr (Or.inl ⟨i, z2, v3, h1, X1.trans h2, er.trans h3, qf_trans fk h4, h5, h6⟩)
      · exact Or.inr (Or.inr ⟨i, y, d, z2, v3, h1, h2, X1.trans h3, er.trans h4, qf_trans fk h5, h6, h7, h8⟩)
end

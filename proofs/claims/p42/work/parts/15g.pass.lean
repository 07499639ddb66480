theorem up2_r {u : Nat → Nat → Int32} {b i : Nat} {x : Int32} : up2 u b i x b = upd (u b) i x := if_pos rfl
theorem up2_o {u : Nat → Nat → Int32} {a b i : Nat} {x : Int32} (h : b ≠ a) : up2 u a i x b = u b := if_neg h
theorem upd_self {f : Nat → Int32} {k : Nat} {x : Int32} (h : f k = x) : upd f k x = f := by
  funext j
  unfold upd
  split
  · rename_i e
    rw [e, h]
  · rfl
def psM (a : mA) (n : Nat) : mA := fun r => if r = 0 then (fun k => if k = 1 then a 0 1 + 1 else if k = 6 then a 0 6 + sumN n (fun i => if 0 < a 2 i then 1 else 0) else a 0 k) else if r = 1 then (fun k => if k < n then rot1 (a 1 k) else a 1 k) else if r = 2 then (fun k => if k < n then a 2 k - 1 else a 2 k) else if r = 3 then (fun k => if k < n then (if (a 0 1 + 1) % 4 = 0 then (a 3 k + 1) % 4 else a 3 k) else a 3 k) else a r
def passM (a : mA) : mA := psM a (a 0 0)
theorem wf_pass {B : Nat} {a : mA} (w : WF B a) (hB : B + 1 < 1000000000) : WF (B + 1) (passM a) := by
  refine ⟨⟨w.1.1, w.1.2.1, Nat.succ_le_succ w.1.2.2.1, w.1.2.2.2.1, hB⟩, fun i hi => ?_, w.2.2.1, fun k hk => ?_, w.2.2.2.2⟩
  · have h := wf_s w i hi
    have hi2 : i < a 0 0 := hi
    show (if i < a 0 0 then rot1 (a 1 i) else a 1 i) < 65536 ∧ (if i < a 0 0 then a 2 i - 1 else a 2 i) ≤ 9 ∧ (if i < a 0 0 then (if (a 0 1 + 1) % 4 = 0 then (a 3 i + 1) % 4 else a 3 i) else a 3 i) < 4
    rw [if_pos hi2, if_pos hi2, if_pos hi2]
    refine ⟨rot1_lt h.1, by omega, ?_⟩
    split <;> omega
  · have h := wf_g w k hk
    exact ⟨h.1, Nat.le_succ_of_le h.2.1, h.2.2⟩
theorem ps_row {f : Nat → Int32} {g g' : Nat → Nat} {N i : Nat} (h : ∀ k, k < N → f k = nI (if k < i then g' k else g k)) : ∀ k, k < N → upd f i (nI (g' i)) k = nI (if k < i + 1 then g' k else g k) := by
  intro k hk
  by_cases e : k = i
  · rw [upd_eq e, e, if_pos (by omega)]
  · rw [upd_ne e, h k hk]
    by_cases e2 : k < i
    · rw [if_pos e2, if_pos (by omega)]
    · rw [if_neg e2, if_neg (by omega)]
section
variable {B : Nat} {a : mA}
theorem xq_passStep (w : WF B a) {st : vH} {i : Nat} (hi : i < a 0 0) (r : RX (psM a i) st) (n : Nat) : ∃ st', fX5_passHour_12 (n + 1) (nI i) st = fX5_passHour_12 n (nI (i + 1)) st' ∧ RX (psM a (i + 1)) st' := by
  have hn := wf_n w
  have hh := wf_h w
  have h1 := wf_s w i hi
  have v1 : st.1 1 i = nI (a 1 i) := by
    rw [rx_m r i hi]
    show nI (if i < i then _ else _) = _
    rw [if_neg (Nat.lt_irrefl i)]
  have v2 : st.1 2 i = nI (a 2 i) := by
    rw [rx_c r i hi]
    show nI (if i < i then _ else _) = _
    rw [if_neg (Nat.lt_irrefl i)]
  have v3 : st.1 3 i = nI (a 3 i) := by
    rw [rx_w r i hi]
    show nI (if i < i then _ else _) = _
    rw [if_neg (Nat.lt_irrefl i)]
  have v0 : st.1 0 0 = nI (a 0 0) := (rx_n r :)
  have v6 : st.1 0 6 = nI (a 0 1 + 1) := (rx_h r :)
  have v13 : st.1 0 13 = nI (a 0 6 + sumN i (fun i => if 0 < a 2 i then 1 else 0)) := (rx_k6 r :)
  have fin : ∀ st' : vH, st'.1 0 = upd (st.1 0) 13 (nI (a 0 6 + sumN (i + 1) (fun i => if 0 < a 2 i then 1 else 0))) → st'.1 1 = upd (st.1 1) i (nI (rot1 (a 1 i))) → st'.1 2 = upd (st.1 2) i (nI (a 2 i - 1)) → st'.1 3 = upd (st.1 3) i (nI (if (a 0 1 + 1) % 4 = 0 then (a 3 i + 1) % 4 else a 3 i)) → (∀ b, 4 ≤ b → st'.1 b = st.1 b) → st'.2 = st.2 → RX (psM a (i + 1)) st' := by
    intro st' h0 h1 h2 h3 h4 h5
    have k0 : ∀ j, j ≠ 13 → st'.1 0 j = st.1 0 j := fun j hj => by rw [h0, upd_ne hj]
    refine ⟨⟨?_, ?_, ?_, ?_⟩, ⟨?_, ?_, ?_, ?_⟩, ?_, ?_, ?_, ?_, ?_, ?_, ?_⟩
    · rw [k0 _ (by omega)]; exact (rx_n r :)
    · rw [k0 _ (by omega)]; exact (rx_e r :)
    · rw [k0 _ (by omega)]; exact (rx_h r :)
    · rw [k0 _ (by omega)]; exact (rx_l r :)
    · rw [k0 _ (by omega)]; exact (rx_k4 r :)
    · rw [k0 _ (by omega)]; exact (rx_k5 r :)
    · rw [h0, upd_eq rfl]; rfl
    · rw [k0 _ (by omega)]; exact (rx_k7 r :)
    · rw [h1]; exact ps_row (g := a 1) (g' := fun k => rot1 (a 1 k)) (rx_m r)
    · rw [h2]; exact ps_row (g := a 2) (g' := fun k => a 2 k - 1) (rx_c r)
    · rw [h3]; exact ps_row (g := a 3) (g' := fun k => if (a 0 1 + 1) % 4 = 0 then (a 3 k + 1) % 4 else a 3 k) (rx_w r)
    · rw [h4 4 (by omega)]; exact (rx_z r :)
    · rw [h4 5 (by omega)]; exact (rx_s r :)
    · rw [h4 6 (by omega)]; exact (rx_t r :)
    · rw [h5]; exact (rx_f r :)
  have et : fX5_turned (nI (a 1 i)) (nI 1) = some (nI (rot1 (a 1 i))) := xq_turned h1.1 (by omega)
  have hm : (a 0 1 + 1) % 4 < 4 := Nat.mod_lt _ (by omega)
  have eS : sumN (i + 1) (fun i => if 0 < a 2 i then 1 else 0) = sumN i (fun i => if 0 < a 2 i then 1 else 0) + (if 0 < a 2 i then 1 else 0) := rfl
  by_cases c0 : 0 < a 2 i
  · rw [if_pos c0] at eS
    by_cases w0 : (a 0 1 + 1) % 4 = 0
    · refine ⟨(up2 (up2 (up2 (up2 st.1 1 i (nI (rot1 (a 1 i)))) 2 i (nI (a 2 i - 1))) 0 13 (nI (a 0 6 + sumN i (fun i => if 0 < a 2 i then 1 else 0) + 1))) 3 i (nI ((a 3 i + 1) % 4)), st.2), ?_, fin _ ?_ rfl rfl ?_ (fun b hb => ?_) rfl⟩
      · simp (disch := omega) only [fX5_passHour_12, fX5_passHour_65, v0, v1, v2, v3, v6, v13, et, up2_r, up2_o, upd_ne, nI_mod, w0, lits, nJ_le, nJ_lt, nJ_eq, nJ_clamp, nJ_add, nI_mul, nI_sub, nI_and, nI_or, nI_xor, Nat.add_zero, Nat.not_lt_zero, leF, leT, ltF, ltT, eqF, eqT, bd, obp_some, Option.bind_some, reduceIte, reduceCtorEq, or_self, or_true, true_or, or_false, false_or]
      · rw [eS, ← Nat.add_assoc]; rfl
      · rw [if_pos w0]; rfl
      · dsimp only
        rw [up2_o (by omega), up2_o (by omega), up2_o (by omega), up2_o (by omega)]
    · refine ⟨(up2 (up2 (up2 st.1 1 i (nI (rot1 (a 1 i)))) 2 i (nI (a 2 i - 1))) 0 13 (nI (a 0 6 + sumN i (fun i => if 0 < a 2 i then 1 else 0) + 1)), st.2), ?_, fin _ ?_ rfl rfl ?_ (fun b hb => ?_) rfl⟩
      · simp (disch := omega) only [fX5_passHour_12, fX5_passHour_65, v0, v1, v2, v3, v6, v13, et, up2_r, up2_o, upd_ne, nI_mod, w0, lits, nJ_le, nJ_lt, nJ_eq, nJ_clamp, nJ_add, nI_mul, nI_sub, nI_and, nI_or, nI_xor, Nat.add_zero, Nat.not_lt_zero, leF, leT, ltF, ltT, eqF, eqT, bd, obp_some, Option.bind_some, reduceIte, reduceCtorEq, or_self, or_true, true_or, or_false, false_or]
      · rw [eS, ← Nat.add_assoc]; rfl
      · rw [if_neg w0]; exact (upd_self v3).symm
      · dsimp only
        rw [up2_o (by omega), up2_o (by omega), up2_o (by omega)]
  · have c1 : a 2 i = 0 := by omega
    rw [if_neg c0] at eS
    by_cases w0 : (a 0 1 + 1) % 4 = 0
    · refine ⟨(up2 (up2 st.1 1 i (nI (rot1 (a 1 i)))) 3 i (nI ((a 3 i + 1) % 4)), st.2), ?_, fin _ ?_ rfl ?_ ?_ (fun b hb => ?_) rfl⟩
      · simp (disch := omega) only [fX5_passHour_12, fX5_passHour_65, v0, v1, v2, v3, v6, v13, et, up2_r, up2_o, upd_ne, nI_mod, w0, lits, nJ_le, nJ_lt, nJ_eq, nJ_clamp, nJ_add, nI_mul, nI_sub, nI_and, nI_or, nI_xor, Nat.add_zero, Nat.not_lt_zero, leF, leT, ltF, ltT, eqF, eqT, bd, obp_some, Option.bind_some, reduceIte, reduceCtorEq, or_self, or_true, true_or, or_false, false_or]
      · rw [eS, Nat.add_zero]; exact (upd_self v13).symm
      · rw [c1]
        refine (upd_self (f := st.1 2) ?_).symm
        rw [v2, c1]
      · rw [if_pos w0]; rfl
      · dsimp only
        rw [up2_o (by omega), up2_o (by omega)]
    · refine ⟨(up2 st.1 1 i (nI (rot1 (a 1 i))), st.2), ?_, fin _ ?_ rfl ?_ ?_ (fun b hb => ?_) rfl⟩
      · simp (disch := omega) only [fX5_passHour_12, fX5_passHour_65, v0, v1, v2, v3, v6, v13, et, up2_r, up2_o, upd_ne, nI_mod, w0, lits, nJ_le, nJ_lt, nJ_eq, nJ_clamp, nJ_add, nI_mul, nI_sub, nI_and, nI_or, nI_xor, Nat.add_zero, Nat.not_lt_zero, leF, leT, ltF, ltT, eqF, eqT, bd, obp_some, Option.bind_some, reduceIte, reduceCtorEq, or_self, or_true, true_or, or_false, false_or]
      · rw [eS, Nat.add_zero]; exact (upd_self v13).symm
      · rw [c1]
        refine (upd_self (f := st.1 2) ?_).symm
        rw [v2, c1]
      · rw [if_neg w0]; exact (upd_self v3).symm
      · dsimp only
        rw [up2_o (by omega)]
theorem xq_pass (w : WF B a) {u : vH} (r : RX a u) : ∃ u', fX5_passHour u = some u' ∧ RX (passM a) u' := by
  have hn := wf_n w
  have r0 : RX (psM a 0) (up2 u.1 0 6 (nI (a 0 1 + 1)), u.2) := by
    refine ⟨⟨(rx_n r :), (rx_e r :), rfl, (rx_l r :)⟩, ⟨(rx_k4 r :), (rx_k5 r :), (rx_k6 r :), (rx_k7 r :)⟩, ?_, ?_, ?_, (rx_z r :), (rx_s r :), (rx_t r :), (rx_f r :)⟩
    · intro i hi
      show u.1 1 i = nI (if i < 0 then rot1 (a 1 i) else a 1 i)
      rw [if_neg (Nat.not_lt_zero i)]
      exact rx_m r i hi
    · intro i hi
      show u.1 2 i = nI (if i < 0 then a 2 i - 1 else a 2 i)
      rw [if_neg (Nat.not_lt_zero i)]
      exact rx_c r i hi
    · intro i hi
      show u.1 3 i = nI (if i < 0 then (if (a 0 1 + 1) % 4 = 0 then (a 3 i + 1) % 4 else a 3 i) else a 3 i)
      rw [if_neg (Nat.not_lt_zero i)]
      exact rx_w r i hi
  rw [fX5_passHour]
  dsimp only [bd]
  rw [rx_h r, l32_1, nJ_add]
  exact loop_rel (F := fun n i st => fX5_passHour_12 n (nI i) st) (fun i st => RX (psM a i) st) (fun u' => RX (passM a) u') (a 0 0) 1 (fun n i st hi hP => xq_passStep w hi hP n) (fun n st hn2 hP => by
    obtain ⟨n, rfl⟩ : ∃ m, n = m + 1 := ⟨n - 1, by omega⟩
    have v0 : st.1 0 0 = nI (a 0 0) := (rx_n hP :)
    refine ⟨st, ?_, hP⟩
    show fX5_passHour_12 (n + 1) (nI (a 0 0)) st = some st
    rw [fX5_passHour_12, v0]
    exact if_pos (Int32.le_refl _)) vF 0 _ (by omega) (by unfold vF; omega) r0
end


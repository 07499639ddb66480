/-! WHO STANDS WITH WHOM: the mess as the least set that is closed under mates; the law's own way to it -/
theorem tb_iff (m k : Nat) : (m >>> k) &&& 1 = 1 ↔ m.testBit k = true := by
  rw [Nat.testBit_eq_decide_div_mod_eq, decide_eq_true_iff, Nat.shiftRight_eq_div_pow, Nat.and_one_is_mod]
theorem tb_one (s t : Nat) : (1 <<< s).testBit t = true ↔ t = s := by
  rw [Nat.one_shiftLeft, Nat.testBit_two_pow, decide_eq_true_iff]
  omega
theorem tb_or (x y t : Nat) : (x ||| y).testBit t = true ↔ (x.testBit t = true ∨ y.testBit t = true) := by
  rw [Nat.testBit_or, Bool.or_eq_true]
theorem tb_lt {x n t : Nat} (h : x < 2 ^ n) (ht : x.testBit t = true) : t < n := by
  by_cases c : t < n
  · exact c
  · have h2 : x < 2 ^ t := Nat.lt_of_lt_of_le h (Nat.pow_le_pow_right (by omega) (by omega))
    rw [Nat.testBit_lt_two_pow h2] at ht
    exact absurd ht (by decide)
section
variable {B : Nat} {a : mA}
theorem mts_tb {s : Nat} : ∀ k t, (mts a s k).testBit t = true ↔ (t < k ∧ t ≠ s ∧ pc (a 1 s ^^^ a 1 t) ≤ 4)
  | 0, t => by
    rw [mts, Nat.zero_testBit]
    constructor
    · intro h
      exact absurd h (by decide)
    · intro h
      omega
  | k + 1, t => by
    have ih := mts_tb (s := s) k t
    rw [mts]
    by_cases e : s = k
    · rw [if_pos e, ih]
      constructor
      · intro h
        exact ⟨by omega, h.2⟩
      · intro h
        exact ⟨by have := h.2.1; omega, h.2⟩
    · by_cases c : 4 < pc (a 1 s ^^^ a 1 k)
      · rw [if_neg e, if_pos c, ih]
        constructor
        · intro h
          exact ⟨by omega, h.2⟩
        · intro h
          refine ⟨?_, h.2⟩
          by_cases z : t = k
          · rw [z] at h
            omega
          · omega
      · rw [if_neg e, if_neg c, tb_or, tb_one, ih]
        constructor
        · intro h
          rcases h with h | h
          · exact ⟨by omega, h.2⟩
          · rw [h]
            exact ⟨by omega, fun z => e z.symm, by omega⟩
        · intro h
          by_cases z : t = k
          · exact Or.inr z
          · exact Or.inl ⟨by omega, h.2⟩
theorem fld_tb {m : Nat} : ∀ k t, (fld a m k).testBit t = true ↔ (m.testBit t = true ∨ ∃ i, i < k ∧ m.testBit i = true ∧ (mts a i (a 0 0)).testBit t = true)
  | 0, t => by
    rw [fld]
    constructor
    · intro h
      exact Or.inl h
    · intro h
      rcases h with h | ⟨i, hi, -⟩
      · exact h
      · omega
  | k + 1, t => by
    have ih := fld_tb (m := m) k t
    rw [fld]
    by_cases c : (m >>> k) &&& 1 = 1
    · rw [if_pos c, tb_or, ih]
      have hb := (tb_iff m k).mp c
      constructor
      · intro h
        rcases h with (h | ⟨i, h1, h2, h3⟩) | h
        · exact Or.inl h
        · exact Or.inr ⟨i, by omega, h2, h3⟩
        · exact Or.inr ⟨k, by omega, hb, h⟩
      · intro h
        rcases h with h | ⟨i, h1, h2, h3⟩
        · exact Or.inl (Or.inl h)
        · by_cases z : i = k
          · rw [z] at h3
            exact Or.inr h3
          · exact Or.inl (Or.inr ⟨i, by omega, h2, h3⟩)
    · rw [if_neg c, ih]
      have hb : ¬ m.testBit k = true := fun z => c ((tb_iff m k).mpr z)
      constructor
      · intro h
        rcases h with h | ⟨i, h1, h2, h3⟩
        · exact Or.inl h
        · exact Or.inr ⟨i, by omega, h2, h3⟩
      · intro h
        rcases h with h | ⟨i, h1, h2, h3⟩
        · exact Or.inl h
        · by_cases z : i = k
          · rw [z] at h2
            exact absurd h2 hb
          · exact Or.inr ⟨i, by omega, h2, h3⟩
theorem itF_ind {P : Nat → Prop} (hP : ∀ i j, i < a 0 0 → j < a 0 0 → P i → pc (a 1 i ^^^ a 1 j) ≤ 4 → P j) {m : Nat} (hm : ∀ t, m.testBit t = true → P t) : ∀ k t, (itF a k m).testBit t = true → P t
  | 0, t, h => hm t h
  | k + 1, t, h => by
    have ih := itF_ind hP hm k
    rw [itF, fld_tb] at h
    rcases h with h | ⟨i, h1, h2, h3⟩
    · exact ih t h
    · have h4 := (mts_tb (a 0 0) t).mp h3
      exact hP i t h1 h4.1 (ih i h2) h4.2.2
theorem itF_sub {m t : Nat} (h : m.testBit t = true) : ∀ k, (itF a k m).testBit t = true
  | 0 => h
  | k + 1 => by
    rw [itF, fld_tb]
    exact Or.inl (itF_sub h k)
theorem mss_self (s : Nat) : (mss a s).testBit s = true := itF_sub ((tb_one s s).mpr rfl) _
theorem mss_in (w : WF B a) {s t : Nat} (hs : s < a 0 0) (h : (mss a s).testBit t = true) : t < a 0 0 := tb_lt (itF_lt (one_shl hs) (Nat.le_refl _) _) h
theorem mss_cl (w : WF B a) {s i j : Nat} (hs : s < a 0 0) (hj : j < a 0 0) (hi : (mss a s).testBit i = true) (hm : pc (a 1 i ^^^ a 1 j) ≤ 4) : (mss a s).testBit j = true := by
  have hi2 := mss_in w hs hi
  obtain ⟨k, h1, h2, -⟩ := itF_fix w hs
  have h3 := itF_stop h2
  have h4 : mss a s = itF a k (1 <<< s) := h3 (a 0 0 - 1) (by omega)
  have h5 : fld a (mss a s) (a 0 0) = mss a s := by
    rw [h4]
    exact h2
  by_cases e : j = i
  · rw [e]; exact hi
  · rw [← h5, fld_tb]
    exact Or.inr ⟨i, hi2, hi, (mts_tb (a 0 0) j).mpr ⟨hj, e, hm⟩⟩
theorem mss_sub (w : WF B a) {s t : Nat} (hs : s < a 0 0) (h : (mss a s).testBit t = true) : ∀ x, (mss a t).testBit x = true → (mss a s).testBit x = true := by
  refine itF_ind (P := fun x => (mss a s).testBit x = true) (fun i j hi hj hp hm => mss_cl w hs hj hp hm) (fun x hx => ?_) _
  rw [(tb_one t x).mp hx]
  exact h
theorem mss_sym (w : WF B a) {s t : Nat} (hs : s < a 0 0) (h : (mss a s).testBit t = true) : (mss a t).testBit s = true := by
  refine itF_ind (a := a) (m := 1 <<< s) (P := fun x => (mss a x).testBit s = true) (fun i j hi hj hp hm => ?_) (fun x hx => ?_) _ t h
  · have h1 : (mss a j).testBit i = true := mss_cl w hj hi (mss_self j) (by rw [Nat.xor_comm]; exact hm)
    exact mss_sub w hj h1 s hp
  · rw [(tb_one s x).mp hx]
    exact mss_self s
/-- the law's blocks after its first K pairs -/
def UFx (a : mA) (K : Nat) (M : Nat → Nat) : Prop := (∀ s, s < a 0 0 → (M s).testBit s = true) ∧ (∀ s t, s < a 0 0 → (M s).testBit t = true → (mss a s).testBit t = true ∧ M t = M s) ∧ (∀ k, k < K → pc (a 1 (k / a 0 0) ^^^ a 1 (k % a 0 0)) ≤ 4 → M (k / a 0 0) = M (k % a 0 0))
theorem uf_0 (a : mA) : UFx a 0 (fun s => 1 <<< s) := by
  refine ⟨fun s _ => (tb_one s s).mpr rfl, fun s t _ h => ?_, fun k hk => absurd hk (Nat.not_lt_zero k)⟩
  have e := (tb_one s t).mp h
  rw [e]
  exact ⟨mss_self s, rfl⟩
theorem uf_lt (w : WF B a) {K : Nat} {M : Nat → Nat} (U : UFx a K M) {s : Nat} (hs : s < a 0 0) : M s < 2 ^ a 0 0 := by
  refine Nat.lt_pow_two_of_testBit _ (fun i hi => ?_)
  cases c : (M s).testBit i with
  | false => rfl
  | true =>
    have h := mss_in w hs (U.2.1 s i hs c).1
    omega
theorem uf_no {K : Nat} {M : Nat → Nat} (U : UFx a K M) (h : ¬ pc (a 1 (K / a 0 0) ^^^ a 1 (K % a 0 0)) ≤ 4) : UFx a (K + 1) M := by
  refine ⟨U.1, U.2.1, fun k hk hm => ?_⟩
  by_cases e : k = K
  · rw [e] at hm
    exact absurd hm h
  · exact U.2.2 k (by omega) hm
theorem uf_yes (w : WF B a) {K : Nat} {M : Nat → Nat} (U : UFx a K M) (ho : K / a 0 0 < a 0 0) (hp : K % a 0 0 < a 0 0) (h : pc (a 1 (K / a 0 0) ^^^ a 1 (K % a 0 0)) ≤ 4) : UFx a (K + 1) (fun t => if (M (K / a 0 0) ||| M (K % a 0 0)).testBit t = true then M (K / a 0 0) ||| M (K % a 0 0) else M t) := by
  obtain ⟨u1, u2, u3⟩ := U
  generalize ho2 : K / a 0 0 = o at ho h ⊢
  generalize hp2 : K % a 0 0 = p at hp h ⊢
  have hJ : ∀ t, (M o ||| M p).testBit t = true → (mss a o).testBit t = true := fun t ht => by
    rcases (tb_or _ _ _).mp ht with z | z
    · exact (u2 o t ho z).1
    · exact mss_sub w ho (mss_cl w ho hp (mss_self o) h) t (u2 p t hp z).1
  -- one that is joined with a block's, joins it
  have hB : ∀ x y, x < a 0 0 → y < a 0 0 → M x = M y → (M o ||| M p).testBit x = true → (M o ||| M p).testBit y = true := fun x y hx hy hxy hj => by
    rcases (tb_or _ _ _).mp hj with z | z
    · have e := (u2 o x ho z).2
      have e2 := u1 y hy
      rw [← hxy, e] at e2
      exact (tb_or _ _ _).mpr (Or.inl e2)
    · have e := (u2 p x hp z).2
      have e2 := u1 y hy
      rw [← hxy, e] at e2
      exact (tb_or _ _ _).mpr (Or.inr e2)
  refine ⟨fun s hs => ?_, fun s t hs ht => ?_, fun k hk hm => ?_⟩
  · show (if (M o ||| M p).testBit s = true then M o ||| M p else M s).testBit s = true
    by_cases c : (M o ||| M p).testBit s = true
    · rw [if_pos c]; exact c
    · rw [if_neg c]; exact u1 s hs
  · show _ ∧ (if (M o ||| M p).testBit t = true then M o ||| M p else M t) = (if (M o ||| M p).testBit s = true then M o ||| M p else M s)
    have ht2 : (if (M o ||| M p).testBit s = true then M o ||| M p else M s).testBit t = true := ht
    by_cases c : (M o ||| M p).testBit s = true
    · rw [if_pos c] at ht2 ⊢
      rw [if_pos ht2]
      have h1 := mss_sym w ho (hJ s c)
      exact ⟨mss_sub w hs h1 t (hJ t ht2), rfl⟩
    · rw [if_neg c] at ht2 ⊢
      obtain ⟨h1, h2⟩ := u2 s t hs ht2
      have ht3 := mss_in w hs h1
      have c2 : ¬ (M o ||| M p).testBit t = true := fun z => c (hB t s ht3 hs h2 z)
      rw [if_neg c2]
      exact ⟨h1, h2⟩
  · show (if (M o ||| M p).testBit (k / a 0 0) = true then M o ||| M p else M (k / a 0 0)) = (if (M o ||| M p).testBit (k % a 0 0) = true then M o ||| M p else M (k % a 0 0))
    by_cases e : k = K
    · rw [e, ho2, hp2, if_pos ((tb_or _ _ _).mpr (Or.inl (u1 o ho))), if_pos ((tb_or _ _ _).mpr (Or.inr (u1 p hp)))]
    · have hk2 : k < K := by omega
      have h3 := u3 k hk2 hm
      have hpos : 0 < a 0 0 := by omega
      have hm2 : k % a 0 0 < a 0 0 := Nat.mod_lt _ hpos
      have hd2 : k / a 0 0 < a 0 0 := by
        have : k / a 0 0 ≤ K / a 0 0 := Nat.div_le_div_right (by omega)
        omega
      by_cases c : (M o ||| M p).testBit (k / a 0 0) = true
      · rw [if_pos c, if_pos (hB _ _ hd2 hm2 h3 c)]
      · rw [if_neg c, if_neg (fun z => c (hB _ _ hm2 hd2 h3.symm z))]
        exact h3
theorem uf_end (w : WF B a) {M : Nat → Nat} (U : UFx a (a 0 0 * a 0 0) M) {s : Nat} (hs : s < a 0 0) : M s = mss a s := by
  obtain ⟨u1, u2, u3⟩ := U
  have hpair : ∀ i j, i < a 0 0 → j < a 0 0 → pc (a 1 i ^^^ a 1 j) ≤ 4 → M i = M j := fun i j hi hj hm => by
    have hd : (i * a 0 0 + j) / a 0 0 = i := by
      rw [Nat.mul_comm, Nat.mul_add_div (by omega), Nat.div_eq_of_lt hj, Nat.add_zero]
    have hr : (i * a 0 0 + j) % a 0 0 = j := by
      rw [Nat.mul_comm, Nat.mul_add_mod, Nat.mod_eq_of_lt hj]
    have hk : i * a 0 0 + j < a 0 0 * a 0 0 := by
      have h1 : (i + 1) * a 0 0 ≤ a 0 0 * a 0 0 := Nat.mul_le_mul_right _ hi
      rw [Nat.add_mul, Nat.one_mul] at h1
      omega
    have h := u3 _ hk
    rw [hd, hr] at h
    exact h hm
  refine Nat.eq_of_testBit_eq (fun t => ?_)
  have h1 : (M s).testBit t = true → (mss a s).testBit t = true := fun z => (u2 s t hs z).1
  have h2 : (mss a s).testBit t = true → (M s).testBit t = true := by
    refine itF_ind (a := a) (m := 1 <<< s) (P := fun x => (M s).testBit x = true) (fun i j hi hj hp hm => ?_) (fun x hx => ?_) _ t
    · have e1 := (u2 s i hs hp).2
      have e2 := hpair i j hi hj hm
      have e3 := u1 j hj
      rw [← e2, e1] at e3
      exact e3
    · rw [(tb_one s x).mp hx]
      exact u1 s hs
  cases c : (M s).testBit t with
  | true => exact (h1 c).symm
  | false =>
    cases c2 : (mss a s).testBit t with
    | false => rfl
    | true =>
      have := h2 c2
      rw [c] at this
      exact this
end

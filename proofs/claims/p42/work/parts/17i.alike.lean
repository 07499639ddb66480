/-! ALIKE: the law's walk over all pairs -/
theorem ntz_all : ∀ m, m < 256 → ∀ s, s < 8 → m.testBit s = true → fJ6_numberOfTrailingZeros_0f7a4 (nI m) = some ((fJ6_numberOfTrailingZeros_0f7a4 (nI m)).getD 0) ∧ ((fJ6_numberOfTrailingZeros_0f7a4 (nI m)).getD 0 = nI s ↔ m &&& (1 <<< s - 1) = 0) := by decide +kernel
theorem pc_or1 : ∀ k, k < 8 → ∀ m, m < 256 → m < 2 ^ k → pc (m ||| (1 <<< k)) = pc m + 1 := by decide +kernel
theorem min_nI {x y : Nat} (hx : x < 2147483648) (hy : y < 2147483648) : fJ9_min_7cf53 (nI x) (nI y) = some (nI (if y < x then y else x)) := by
  unfold fJ9_min_7cf53
  by_cases c : y < x
  · rw [if_pos ((nJ_lt hy hx).mpr c), if_pos c]
  · rw [if_neg (fun z => c ((nJ_lt hy hx).mp z)), if_neg c]
/-- the best turn of the first t -/
def BT (x y t few : Nat) : Prop := (t = 0 ∧ few = 17) ∨ (0 < t ∧ few = clG x y (bst (clG x y) t))
section
variable {B : Nat} {a : mA} {u : vZ} {mc ms : Nat}
/-- what is joined is laid at each of its sailors -/
theorem al_220 (w : WF B a) {J : Nat} (hJ : J < 256) {M : Nat → Nat} (rec : Int32 → Int32 → Nat → (Nat → Int32) → vZ → Nat → Nat → Option (Int32 × vZ)) (k kc ks : Nat) : ∀ d s n g, s + d = a 0 0 → d < n → (∀ t, t < a 0 0 → g t = nI (if t < s ∧ J.testBit t = true then J else M t)) → ∃ g', (∀ t, t < a 0 0 → g' t = nI (if J.testBit t = true then J else M t)) ∧ hf_L_alike_220 mc ms n rec (nI (a 0 0)) (nI k) (nI J) (nI s) (a 0 0) g u kc ks = rec (nI (a 0 0)) (nI (k + 1)) (a 0 0) g' u kc ks := by
  have hn := wf_n w
  intro d
  induction d with
  | zero =>
    intro s n g hs hd h
    obtain ⟨n, rfl⟩ : ∃ i, n = i + 1 := ⟨n - 1, by omega⟩
    refine ⟨g, fun t ht => ?_, ?_⟩
    · rw [h t ht]
      congr 1
      by_cases c : J.testBit t = true
      · rw [if_pos ⟨by omega, c⟩, if_pos c]
      · rw [if_neg (fun z => c z.2), if_neg c]
    · rw [hf_L_alike_220, if_pos (nI_le (by omega) (by omega)), bdE, nI_1]
  | succ d ih =>
    intro s n g hs hd h
    obtain ⟨n, rfl⟩ : ∃ i, n = i + 1 := ⟨n - 1, by omega⟩
    have hs2 : s < a 0 0 := by omega
    have hin : ¬ (nI s < 0 ∨ a 0 0 ≤ Int32.toNatClampNeg (nI s)) := nI_in hs2 (by omega)
    have hcs : Int32.toNatClampNeg (nI s) = s := nI_clamp (by omega)
    have hin2 : ¬ (nI s < 0 ∨ a 0 0 ≤ s) := fun z => hin (by rw [hcs]; exact z)
    have hsr : J >>> s ≤ J := Nat.shiftRight_le J s
    have hbit : ((nI J >>> (nI s &&& 31)) &&& (1 : Int32) = (1 : Int32)) ↔ J.testBit s = true := by
      have e : (nI J >>> (nI s &&& 31)) &&& (1 : Int32) = nI ((J >>> s) &&& 1) := by
        rw [nI_shr (by omega) (by omega), l32_1, nI_and]
      have h1 : (J >>> s) &&& 1 ≤ 1 := Nat.and_le_right
      rw [e, l32_1, nJ_eq (by omega) (by omega)]
      exact tb_iff J s
    by_cases c : J.testBit s = true
    · obtain ⟨g', h1, h2⟩ := ih (s + 1) n (upd g s (nI J)) (by omega) (by omega) (fun t ht => by
        by_cases e : t = s
        · rw [e, pk_us, if_pos ⟨by omega, c⟩]
        · rw [pk_un e, h t ht]
          congr 1
          by_cases c2 : t < s ∧ J.testBit t = true
          · rw [if_pos c2, if_pos ⟨by omega, c2.2⟩]
          · rw [if_neg c2, if_neg (fun z => c2 ⟨by have := z.1; omega, z.2⟩)])
      refine ⟨g', h1, ?_⟩
      rw [hf_L_alike_220, if_neg (nI_ge hs2 (by omega)), if_pos (hbit.mpr c), if_neg hin, bdE, bdE, hcs, nI_1]
      exact h2
    · obtain ⟨g', h1, h2⟩ := ih (s + 1) n (upd g s (g s)) (by omega) (by omega) (fun t ht => by
        by_cases e : t = s
        · rw [e, pk_us, h s hs2, if_neg (fun z => c z.2), if_neg (fun z => c z.2)]
        · rw [pk_un e, h t ht]
          congr 1
          by_cases c2 : t < s ∧ J.testBit t = true
          · rw [if_pos c2, if_pos ⟨by omega, c2.2⟩]
          · rw [if_neg c2, if_neg (fun z => c2 ⟨by have := z.1; omega, z.2⟩)])
      refine ⟨g', h1, ?_⟩
      rw [hf_L_alike_220, if_neg (nI_ge hs2 (by omega)), if_neg (fun z => c (hbit.mp z)), if_neg hin, if_neg hin, bdE, bdE, hcs, nI_1]
      exact h2
/-- the turns of a pair: at their end the rest of the pair's round -/
theorem al_87 (w : WF B a) (r : RX a u.2.1.1) {o p : Nat} (ho : o < a 0 0) (hp : p < a 0 0) (rec : Int32 → Int32 → Nat → (Nat → Int32) → vZ → Nat → Nat → Option (Int32 × vZ)) (x1 x2 x5 : Int32) (n10 : Nat) (g11 : Nat → Int32) (kc ks : Nat) : ∀ d t n few, t + d = 16 → d < n → BT (a 1 o) (a 1 p) t few → ∃ m few' md', hf_L_alike_87 mc ms n rec x1 x2 (nI o) (nI p) x5 (nI (bst (clG (a 1 o) (a 1 p)) t)) (nI few) (nI (rotN t (a 1 o))) (nI t) n10 g11 u kc ks = hf_L_alike_87 mc ms (m + 1) rec x1 x2 (nI o) (nI p) x5 (nI (bst (clG (a 1 o) (a 1 p)) 16)) few' md' (nI 16) n10 g11 u kc ks := by
  have hn := wf_n w
  have h1 := (wf_s w o ho).1
  have h2 := (wf_s w p hp).1
  intro d
  induction d with
  | zero =>
    intro t n few ht hd h
    obtain ⟨n, rfl⟩ : ∃ i, n = i + 1 := ⟨n - 1, by omega⟩
    have e : t = 16 := by omega
    subst e
    exact ⟨n, _, _, rfl⟩
  | succ d ih =>
    intro t n few ht hd h
    obtain ⟨n, rfl⟩ : ∃ i, n = i + 1 := ⟨n - 1, by omega⟩
    have hr := rotN_lt h1 t
    have hx := xor_lt16 hr h2
    have hg : clG (a 1 o) (a 1 p) t = pc (rotN t (a 1 o) ^^^ a 1 p) := rfl
    have hg16 : clG (a 1 o) (a 1 p) t ≤ 16 := pc_le _
    have hg17 : clG (a 1 o) (a 1 p) (bst (clG (a 1 o) (a 1 p)) t) ≤ 16 := pc_le _
    have hbl := bst_le (clG (a 1 o) (a 1 p)) t
    have hfew : few ≤ 17 := by
      rcases h with ⟨-, z⟩ | ⟨-, z⟩ <;> omega
    have hrot : ((nI (rotN t (a 1 o)) <<< ((1 : Int32) &&& 31)) ||| (nI (rotN t (a 1 o)) >>> ((15 : Int32) &&& 31))) &&& (65535 : Int32) = nI (rotN (t + 1) (a 1 o)) := by
      rw [show (1 : Int32) = nI 1 from rfl, show (15 : Int32) = nI 15 from rfl, show (65535 : Int32) = nI 65535 from rfl, nI_shl (by omega), nI_shr (by omega) (by omega), nI_or, nI_and]
      exact congrArg nI (rot_or (t := 1) hr (by omega))
    have hb1 : bst (clG (a 1 o) (a 1 p)) (t + 1) = if clG (a 1 o) (a 1 p) t < clG (a 1 o) (a 1 p) (bst (clG (a 1 o) (a 1 p)) t) then t else bst (clG (a 1 o) (a 1 p)) t := rfl
    by_cases c : few ≤ clG (a 1 o) (a 1 p) t
    · have hc2 : 0 < t ∧ few = clG (a 1 o) (a 1 p) (bst (clG (a 1 o) (a 1 p)) t) := by
        rcases h with ⟨z1, z2⟩ | z
        · omega
        · exact z
      rw [if_neg (by omega)] at hb1
      obtain ⟨m, few', md', h3⟩ := ih (t + 1) n few (by omega) (by omega) (Or.inr ⟨by omega, by rw [hb1]; exact hc2.2⟩)
      rw [hb1] at h3
      refine ⟨m, few', md', Eq.trans ?_ h3⟩
      rw [hf_L_alike_87, if_neg (show ¬ (16 : Int32) ≤ nI t from nI_ge (b := 16) (by omega) (by omega)), z_so0 w r hp, obp_some, nI_xor, jbits _ hx, Option.bind_some, ← hg, if_pos (nI_le c (by omega))]
      unfold hf_L_alike_123
      rw [min_nI (by omega) (by omega), Option.bind_some, bdE, bdE, hrot, nI_1, if_neg (by omega)]
    · have hb2 : bst (clG (a 1 o) (a 1 p)) (t + 1) = t := by
        rcases h with ⟨z1, z2⟩ | ⟨z1, z2⟩
        · rw [hb1, z1]
          split <;> rfl
        · rw [hb1, if_pos (by omega)]
      obtain ⟨m, few', md', h3⟩ := ih (t + 1) n (clG (a 1 o) (a 1 p) t) (by omega) (by omega) (Or.inr ⟨by omega, by rw [hb2]⟩)
      rw [hb2] at h3
      refine ⟨m, few', md', Eq.trans ?_ h3⟩
      rw [hf_L_alike_87, if_neg (show ¬ (16 : Int32) ≤ nI t from nI_ge (b := 16) (by omega) (by omega)), z_so0 w r hp, obp_some, nI_xor, jbits _ hx, Option.bind_some, ← hg, if_neg (nI_ge (by omega) (by omega))]
      unfold hf_L_alike_123
      rw [min_nI (by omega) (by omega), Option.bind_some, bdE, bdE, hrot, nI_1, if_pos (by omega)]
theorem al_pair (w : WF B a) (r : RX a u.2.1.1) {K : Nat} (hK : K < a 0 0 * a 0 0) {M : Nat → Nat} (U : UFx a K M) {g : Nat → Int32} (hg : ∀ t, t < a 0 0 → g t = nI (M t)) (kc ks n : Nat) : ∃ M' g', UFx a (K + 1) M' ∧ (∀ t, t < a 0 0 → g' t = nI (M' t)) ∧ hf_L_alike_31 mc ms (n + 1) (nI (a 0 0)) (nI K) (a 0 0) g u kc ks = hf_L_alike_31 mc ms n (nI (a 0 0)) (nI (K + 1)) (a 0 0) g' u kc ks := by
  have hn := wf_n w
  have h64 : a 0 0 * a 0 0 ≤ 64 := Nat.mul_le_mul hn hn
  have hpos : 0 < a 0 0 := by
    rcases Nat.eq_zero_or_pos (a 0 0) with z | z
    · rw [z] at hK; omega
    · exact z
  have ho : K / a 0 0 < a 0 0 := Nat.div_lt_of_lt_mul hK
  have hp : K % a 0 0 < a 0 0 := Nat.mod_lt _ hpos
  have hn0 : ¬ nI (a 0 0) = 0 := fun z => by
    have := (nJ_eq (b := 0) (by omega) (by omega)).mp z
    omega
  have uyes := uf_yes w U ho hp
  have uno := uf_no (a := a) U
  have hMo := uf_lt w U ho
  have hMp := uf_lt w U hp
  have h8 := pow_le8 hn
  have hJ : M (K / a 0 0) ||| M (K % a 0 0) < 256 := Nat.lt_of_lt_of_le (Nat.or_lt_two_pow hMo hMp) h8
  have hgo := hg _ ho
  have hgp := hg _ hp
  generalize ho2 : K / a 0 0 = o at ho uyes uno hJ hgo
  generalize hp2 : K % a 0 0 = p at hp uyes uno hJ hgp
  have hmo := (wf_s w o ho).1
  have hmp := (wf_s w p hp).1
  have hx := xor_lt16 hmo hmp
  have hpc := pc_le (a 1 o ^^^ a 1 p)
  obtain ⟨v1, v2, v3⟩ := z_un w r ho hp
  have io : ¬ (nI o < 0 ∨ a 0 0 ≤ Int32.toNatClampNeg (nI o)) := nI_in ho (by omega)
  have ip : ¬ (nI p < 0 ∨ a 0 0 ≤ Int32.toNatClampNeg (nI p)) := nI_in hp (by omega)
  have co : Int32.toNatClampNeg (nI o) = o := nI_clamp (by omega)
  have cp : Int32.toNatClampNeg (nI p) = p := nI_clamp (by omega)
  have io2 : ¬ (nI o < 0 ∨ a 0 0 ≤ o) := fun z => io (by rw [co]; exact z)
  have ip2 : ¬ (nI p < 0 ∨ a 0 0 ≤ p) := fun z => ip (by rw [cp]; exact z)
  obtain ⟨m, few', md', h3⟩ := al_87 (mc := mc) (ms := ms) w r ho hp (fun c0 c1 c2 c3 c4 c5 c6 => hf_L_alike_31 mc ms n c0 c1 c2 c3 c4 c5 c6) (nI (a 0 0)) (nI K) (nI (pc (a 1 o ^^^ a 1 p))) (a 0 0) g kc ks 16 0 vF 17 rfl (by unfold vF; omega) (Or.inl ⟨rfl, rfl⟩)
  have hopen : hf_L_alike_31 mc ms (n + 1) (nI (a 0 0)) (nI K) (a 0 0) g u kc ks = hf_L_alike_87 mc ms (m + 1) (fun c0 c1 c2 c3 c4 c5 c6 => hf_L_alike_31 mc ms n c0 c1 c2 c3 c4 c5 c6) (nI (a 0 0)) (nI K) (nI o) (nI p) (nI (pc (a 1 o ^^^ a 1 p))) (nI (bst (clG (a 1 o) (a 1 p)) 16)) few' md' (nI 16) (a 0 0) g u kc ks := by
    rw [hf_L_alike_31, nI_mul, if_neg (nI_ge hK (by omega)), if_neg hn0, bdE, if_neg hn0, bdE, nI_mod (by omega) (by omega), nI_div (by omega) (by omega), ho2, hp2, z_so0 w r ho, obp_some, z_so0 w r hp, obp_some, nI_xor, jbits _ hx, Option.bind_some, z_so0 w r ho, obp_some]
    exact h3
  have h16 : (16 : Int32) ≤ nI 16 := by decide
  by_cases c : pc (a 1 o ^^^ a 1 p) ≤ 4
  · obtain ⟨g', q1, q2⟩ := al_220 (mc := mc) (ms := ms) (u := u) w hJ (M := M) (fun c0 c1 c2 c3 c4 c5 c6 => hf_L_alike_31 mc ms n c0 c1 c2 c3 c4 c5 c6) K kc ks (a 0 0) 0 vF g (by omega) (by unfold vF; omega) (fun t ht => by rw [if_neg (fun z => Nat.not_lt_zero t z.1)]; exact hg t ht)
    refine ⟨_, g', uyes c, fun t ht => q1 t ht, ?_⟩
    rw [hopen, hf_L_alike_87, if_pos h16, v1, obp_some, if_pos rfl, v2, obp_some, if_pos rfl, v3, obp_some, if_pos rfl, if_neg (show ¬ (4 : Int32) < nI (pc (a 1 o ^^^ a 1 p)) from nI_nlt (a := 4) c (by omega)), if_neg io, if_neg ip, bdE, co, cp, hgo, hgp, nI_or]
    exact q2
  · obtain ⟨g', q1, q2⟩ := al_220 (mc := mc) (ms := ms) (u := u) w (J := 0) (by omega) (M := M) (fun c0 c1 c2 c3 c4 c5 c6 => hf_L_alike_31 mc ms n c0 c1 c2 c3 c4 c5 c6) K kc ks (a 0 0) 0 vF g (by omega) (by unfold vF; omega) (fun t ht => by rw [if_neg (fun z => Nat.not_lt_zero t z.1)]; exact hg t ht)
    refine ⟨M, g', uno c, fun t ht => ?_, ?_⟩
    · rw [q1 t ht, Nat.zero_testBit, if_neg (by decide)]
    · rw [hopen, hf_L_alike_87, if_pos h16, v1, obp_some, if_pos rfl, v2, obp_some, if_pos rfl, v3, obp_some, if_pos rfl, if_pos (show (4 : Int32) < nI (pc (a 1 o ^^^ a 1 p)) from nI_lt (a := 4) (by omega) (by omega))]
      exact q2
/-- the mates of a sailor, counted -/
theorem al_279 (w : WF B a) (r : RX a u.2.1.1) {s : Nat} (hs : s < a 0 0) (rec : Int32 → Int32 → Int32 → Nat → (Nat → Int32) → vZ → Nat → Nat → Option (Int32 × vZ)) (x2 : Int32) (n6 : Nat) (g7 : Nat → Int32) (kc ks : Nat) : ∀ d k n, k + d = a 0 0 → d < n → ∃ m, hf_L_alike_279 mc ms n rec (nI (a 0 0)) x2 (nI s) (nI (pc (mts a s k))) (nI k) n6 g7 u kc ks = hf_L_alike_279 mc ms (m + 1) rec (nI (a 0 0)) x2 (nI s) (nI (pc (mts a s (a 0 0)))) (nI (a 0 0)) n6 g7 u kc ks := by
  have hn := wf_n w
  intro d
  induction d with
  | zero =>
    intro k n hk hd
    obtain ⟨n, rfl⟩ : ∃ i, n = i + 1 := ⟨n - 1, by omega⟩
    have e : k = a 0 0 := by omega
    subst e
    exact ⟨n, rfl⟩
  | succ d ih =>
    intro k n hk hd
    obtain ⟨n, rfl⟩ : ∃ i, n = i + 1 := ⟨n - 1, by omega⟩
    have hk2 : k < a 0 0 := by omega
    obtain ⟨m, h⟩ := ih (k + 1) n (by omega) (by omega)
    have hpc := pc_le (a 1 s ^^^ a 1 k)
    refine ⟨m, Eq.trans ?_ h⟩
    have h0 : ∀ x : Int32, x + (0 : Int32) = x := fun x => Int32.add_zero x
    rw [hf_L_alike_279, if_neg (nI_ge hk2 (by omega))]
    by_cases e : s = k
    · have em : mts a s (k + 1) = mts a s k := by rw [mts, if_pos e]
      rw [if_pos (by rw [e]), bdE, bdE, h0, nI_1, em]
    · rw [if_neg (fun z => e ((nJ_eq (by omega) (by omega)).mp z).symm), (z_un w r hs hk2).1, obp_some]
      by_cases c : 4 < pc (a 1 s ^^^ a 1 k)
      · have em : mts a s (k + 1) = mts a s k := by rw [mts, if_neg e, if_pos c]
        rw [if_pos (show (4 : Int32) < nI _ from nI_lt (a := 4) c (by omega)), bdE, bdE, h0, nI_1, em]
      · have em : mts a s (k + 1) = mts a s k ||| (1 <<< k) := by rw [mts, if_neg e, if_neg c]
        have hl := mts_lt a s k
        have hl8 : 2 ^ k ≤ 256 := pow_le8 (by omega)
        rw [if_neg (show ¬ (4 : Int32) < nI _ from nI_nlt (a := 4) (by omega) (by omega)), bdE, bdE, nI_1, nI_1, em, pc_or1 k (by omega) _ (by omega) hl]
theorem al_267 (w : WF B a) (r : RX a u.2.1.1) {g : Nat → Int32} (hg : ∀ t, t < a 0 0 → g t = nI (mss a t)) (kc ks : Nat) : ∀ d s n, s + d = a 0 0 → d < n → hf_L_alike_267 mc ms n (nI (a 0 0)) (nI (sumN s (fun s => if mss a s &&& (1 <<< s - 1) = 0 then 1 else 0))) (nI s) (a 0 0) g u kc ks = some (1, u) := by
  have hn := wf_n w
  intro d
  induction d with
  | zero =>
    intro s n hs hd
    obtain ⟨n, rfl⟩ : ∃ i, n = i + 1 := ⟨n - 1, by omega⟩
    have e : s = a 0 0 := by omega
    subst e
    rw [hf_L_alike_267, if_pos (nI_le (by omega) (by omega)), z_ms w r, obp_some, if_pos rfl, z_un0 w r, obp_some, if_pos rfl, z_clN w r, obp_some, if_pos rfl]
  | succ d ih =>
    intro s n hs hd
    obtain ⟨n, rfl⟩ : ∃ i, n = i + 1 := ⟨n - 1, by omega⟩
    have hs2 : s < a 0 0 := by omega
    obtain ⟨m, h⟩ := al_279 (mc := mc) (ms := ms) w r hs2 (fun c0 c1 c2 c3 c4 c5 c6 c7 => hf_L_alike_267 mc ms n c0 c1 c2 c3 c4 c5 c6 c7) (nI (sumN s (fun s => if mss a s &&& (1 <<< s - 1) = 0 then 1 else 0))) (a 0 0) g kc ks (a 0 0) 0 vF (by omega) (by unfold vF; omega)
    have hp0 : nI (pc (mts a s 0)) = 0 := by
      rw [show mts a s 0 = 0 from rfl, show pc 0 = 0 by decide]
      rfl
    rw [hp0, show nI 0 = (0 : Int32) from rfl] at h
    have ih2 := ih (s + 1) n (by omega) (by omega)
    have hin : ¬ (nI s < 0 ∨ a 0 0 ≤ Int32.toNatClampNeg (nI s)) := nI_in hs2 (by omega)
    have hcs : Int32.toNatClampNeg (nI s) = s := nI_clamp (by omega)
    have hin2 : ¬ (nI s < 0 ∨ a 0 0 ≤ s) := fun z => hin (by rw [hcs]; exact z)
    obtain ⟨t1, t2⟩ := ntz_all (mss a s) (mss_lt w hs2) s (by omega) (mss_self s)
    have hsum : sumN (s + 1) (fun s => if mss a s &&& (1 <<< s - 1) = 0 then 1 else 0) = sumN s (fun s => if mss a s &&& (1 <<< s - 1) = 0 then 1 else 0) + (if mss a s &&& (1 <<< s - 1) = 0 then 1 else 0) := rfl
    have h338 : ∀ (rec : Int32 → Int32 → Int32 → Nat → (Nat → Int32) → vZ → Nat → Nat → Option (Int32 × vZ)) (x1 x4 x5 : Int32), hf_L_alike_338 mc ms rec x1 (nI s) (nI (pc (mts a s (a 0 0)))) x4 x5 (a 0 0) g u kc ks = rec x1 (x5 + x4) (nI (s + 1)) (a 0 0) g u kc ks := fun rec x1 x4 x5 => by
      unfold hf_L_alike_338
      rw [bdE, z_so7 w r hs2, obp_some, if_pos rfl, z_so8 w r hs2, obp_some, if_neg hin, hcs, hg s hs2, if_pos rfl, bdE, nI_1]
    rw [hf_L_alike_267, if_neg (nI_ge hs2 (by omega))]
    refine Eq.trans h ?_
    rw [hf_L_alike_279, if_pos (nI_le (by omega) (by omega)), if_neg hin, hcs, hg s hs2, t1, Option.bind_some]
    by_cases c : mss a s &&& (1 <<< s - 1) = 0
    · rw [if_pos c] at hsum
      rw [hsum] at ih2
      rw [if_pos (t2.mpr c), h338, nI_1]
      exact ih2
    · rw [if_neg c] at hsum
      rw [hsum] at ih2
      rw [if_neg (fun z => c (t2.mp z)), h338, Int32.add_zero]
      exact ih2
theorem al_31 (w : WF B a) (r : RX a u.2.1.1) (kc ks : Nat) : ∀ d K n M g, K + d = a 0 0 * a 0 0 → d < n → UFx a K M → (∀ t, t < a 0 0 → g t = nI (M t)) → hf_L_alike_31 mc ms n (nI (a 0 0)) (nI K) (a 0 0) g u kc ks = some (1, u) := by
  have hn := wf_n w
  have h64 : a 0 0 * a 0 0 ≤ 64 := Nat.mul_le_mul hn hn
  intro d
  induction d with
  | zero =>
    intro K n M g hK hd U hg
    obtain ⟨n, rfl⟩ : ∃ i, n = i + 1 := ⟨n - 1, by omega⟩
    have e : K = a 0 0 * a 0 0 := by omega
    subst e
    rw [hf_L_alike_31, nI_mul, if_pos (nI_le (Nat.le_refl _) (by omega))]
    exact al_267 w r (fun t ht => by rw [hg t ht, uf_end w U ht]) kc ks (a 0 0) 0 vF (by omega) (by unfold vF; omega)
  | succ d ih =>
    intro K n M g hK hd U hg
    obtain ⟨n, rfl⟩ : ∃ i, n = i + 1 := ⟨n - 1, by omega⟩
    obtain ⟨M', g', h1, h2, h3⟩ := al_pair (mc := mc) (ms := ms) w r (K := K) (by omega) U hg kc ks n
    rw [h3]
    exact ih (K + 1) n M' g' (by omega) (by omega) h1 h2
theorem al_12 (w : WF B a) (r : RX a u.2.1.1) (kc ks : Nat) : ∀ d s n g, s + d = a 0 0 → d < n → (∀ t, t < s → g t = nI (1 <<< t)) → hf_L_alike_12 mc ms n (nI (a 0 0)) (nI s) (a 0 0) g u kc ks = some (1, u) := by
  have hn := wf_n w
  have h64 : a 0 0 * a 0 0 ≤ 64 := Nat.mul_le_mul hn hn
  intro d
  induction d with
  | zero =>
    intro s n g hs hd hg
    obtain ⟨n, rfl⟩ : ∃ i, n = i + 1 := ⟨n - 1, by omega⟩
    have e : s = a 0 0 := by omega
    subst e
    rw [hf_L_alike_12, if_pos (nI_le (by omega) (by omega))]
    exact al_31 w r kc ks (a 0 0 * a 0 0) 0 vF _ g (by omega) (by unfold vF; omega) (uf_0 a) hg
  | succ d ih =>
    intro s n g hs hd hg
    obtain ⟨n, rfl⟩ : ∃ i, n = i + 1 := ⟨n - 1, by omega⟩
    have hs2 : s < a 0 0 := by omega
    have hin : ¬ (nI s < 0 ∨ a 0 0 ≤ Int32.toNatClampNeg (nI s)) := nI_in hs2 (by omega)
    have hcs : Int32.toNatClampNeg (nI s) = s := nI_clamp (by omega)
    have hsh : (1 : Int32) <<< (nI s &&& 31) = nI (1 <<< s) := nI_shl (a := 1) (by omega)
    rw [hf_L_alike_12, if_neg (nI_ge hs2 (by omega)), if_neg hin, bdE, bdE, hcs, hsh, nI_1]
    exact ih (s + 1) n _ (by omega) (by omega) (fun t ht => by
      by_cases e : t = s
      · rw [e, pk_us]
      · rw [pk_un e, hg t (by omega)])
theorem alike_spec (w : WF B a) (r : RX a u.2.1.1) : hf_L_alike 1 8 u = some (1, u) := by
  have hn := wf_n w
  have hcs : Int32.toNatClampNeg (nI (a 0 0)) = a 0 0 := nI_clamp (by omega)
  have hin : ¬ (nI (a 0 0) < 0 ∨ 100000 < a 0 0) := fun z => by
    rcases z with z | z
    · exact nI_neg0 (by omega) z
    · omega
  unfold hf_L_alike
  rw [z_ac0 r, obp_some, hcs, if_neg hin, if_pos (by omega)]
  simp only [bdE]
  exact al_12 w r _ _ (a 0 0) 0 vF (fun _ => 0) (by omega) (by unfold vF; omega) (fun t ht => absurd ht (Nat.not_lt_zero t))
end

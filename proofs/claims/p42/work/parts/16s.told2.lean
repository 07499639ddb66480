section
variable {B : Nat} {a : mA}
theorem watT_len (w : WF B a) (P : List Nat) : ∀ k, k ≤ 4 → (watT a P k).length ≤ P.length + 12 * k
  | 0, _ => by rw [watT]; omega
  | k + 1, hk => by
    have h1 := watT_len w P k (by omega)
    have h2 := w.2.2.1 k (by omega)
    have l1 := iT_11 (z := (a 4 k : Int)) (by omega) (by omega)
    rw [watT]
    simp only [List.length_append, List.length_singleton]
    omega
theorem linT_len (w : WF B a) (P : List Nat) : ∀ k, k ≤ a 0 0 → (linT a P k).length ≤ P.length + 13 * k
  | 0, _ => by rw [linT]; omega
  | k + 1, hk => by
    have h1 := linT_len w P k (by omega)
    have h2 := lineT_len w (s := k) (by omega)
    rw [linT]
    simp only [List.length_append, List.length_singleton]
    omega
theorem accT_len (w : WF B a) (c : CI B a) (hB : B < 100000000) : ∀ k, (accT a k).length ≤ 12 * k
  | 0 => Nat.le_refl 0
  | k + 1 => by
    have h1 := accT_len w c hB k
    have h2 := acI_b w c hB (i := k)
    have l1 := iT_11 h2.1 h2.2
    rw [accT]
    simp only [List.length_append, List.length_singleton]
    omega
theorem to_wat {u : vZ} (w : WF B a) (r : RX a u.2.1.1) (hB : B < 100000000) {mc ms kb sb : Nat} {P : List Nat} (hP : P.length ≤ 340) (hm : kb + 17 ≤ mc) (hs : sb + 3836 ≤ ms) : ∀ (d k n n3 kc ks : Nat) (g : Nat → Int32) (T : List Nat), k + d = 4 → d < n → T = watT a P k → sbT T n3 g → bOk kb sb kc ks n3 → ∃ f, hf_L_told_75 mc ms n (nI k) (nI T.length) n3 g u kc ks = some ((sigT a (watT a P 4) (a 0 3)).length, f, u) ∧ stT (sigT a (watT a P 4) (a 0 3)) (sigT a (watT a P 4) (a 0 3)).length f := by
  have h3 := w.1
  intro d
  induction d with
  | zero =>
    intro k n n3 kc ks g T hk hn hT h hb
    obtain ⟨n, rfl⟩ : ∃ j, n = j + 1 := ⟨n - 1, by omega⟩
    have hl := watT_len w P k (by omega)
    have e : k = 4 := by omega
    subst e
    rw [hf_L_told_75, if_pos (by decide)]
    obtain ⟨f, e1, e2⟩ := to_sig (mc := mc) (ms := ms) w r hB (P := watT a P 4) (by omega) hm hs (a 0 3) 0 vF n3 kc ks g T (by omega) (by unfold vF; omega) hT h hb
    exact ⟨f, e1, e2⟩
  | succ d ih =>
    intro k n n3 kc ks g T hk hn hT h hb
    obtain ⟨n, rfl⟩ : ∃ j, n = j + 1 := ⟨n - 1, by omega⟩
    have hl := watT_len w P k (by omega)
    rw [← hT] at hl
    have h2 := w.2.2.1 k (by omega)
    have l1 := iT_11 (z := (a 4 k : Int)) (by omega) (by omega)
    obtain ⟨n1, g1, e1, s1, b1⟩ := c_int (mc := mc) (ms := ms) (z := (a 4 k : Int)) h (by omega) (by omega) hb (by omega) (by omega) (by omega)
    obtain ⟨n2, g2, e2, s2, b2⟩ := c_char (mc := mc) (ms := ms) (c := 44) s1 (by omega) b1 (by simp only [List.length_append]; omega) (by omega) (by simp only [List.length_append]; omega)
    obtain ⟨f, f1, f2⟩ := ih (k + 1) n n2 _ _ g2 _ (by omega) (by omega) (by rw [hT]; rfl) s2 b2
    refine ⟨f, ?_, f2⟩
    rw [← f1, hf_L_told_75, if_neg (show ¬ (4 : Int32) ≤ nI k from nI_ge (b := 4) (by omega) (by omega)), show (0 : Int32) = nI 0 from rfl]
    rw [show fX7_watchOf (nI k) (nI 0) u = some (nI (a 4 k), u) from z_wo0 w r (by omega)]
    simp only [obp_some, bdE]
    rw [nI_iI (a 4 k)]
    refine (e1 _).trans ?_
    dsimp only
    refine (e2 _).trans ?_
    dsimp only
    rw [nI_1]
theorem to_lin (w : WF B a) (hB : B < 100000000) {mc ms : Nat} {P : List Nat} (hP : P.length ≤ 200) (hm : 200 ≤ mc) (hs : 8700 ≤ ms) : ∀ (d k n n3 kc ks : Nat) (g : Nat → Int32) (T : List Nat) (u : vZ), RX a u.2.1.1 → k + d = a 0 0 → d < n → T = linT a P k → sbT T n3 g → bOk (20 * k) (600 * k) kc ks n3 → ∃ f l', hf_L_told_39 mc ms n (nI k) (nI T.length) n3 g u kc ks = some ((sigT a (watT a (linT a P (a 0 0)) 4) (a 0 3)).length, f, wLine u l') ∧ stT (sigT a (watT a (linT a P (a 0 0)) 4) (a 0 3)) (sigT a (watT a (linT a P (a 0 0)) 4) (a 0 3)).length f := by
  have h3 := w.1
  have hn8 := wf_n w
  intro d
  induction d with
  | zero =>
    intro k n n3 kc ks g T u r hk hn hT h hb
    obtain ⟨n, rfl⟩ : ∃ j, n = j + 1 := ⟨n - 1, by omega⟩
    have hl := linT_len w P k (by omega)
    have e : k = a 0 0 := by omega
    rw [hf_L_told_39, z_ac0 r]
    simp only [obp_some]
    rw [if_pos (nI_le (by omega) (by omega)), ← e]
    obtain ⟨f, e1, e2⟩ := to_wat (mc := mc) (ms := ms) w r hB (P := linT a P k) (by omega) (by omega) (by omega) 4 0 vF n3 kc ks g T (by omega) (by unfold vF; omega) hT h hb
    exact ⟨f, u.2.2.2.2.2.2, e1, e2⟩
  | succ d ih =>
    intro k n n3 kc ks g T u r hk hn hT h hb
    obtain ⟨n, rfl⟩ : ∃ j, n = j + 1 := ⟨n - 1, by omega⟩
    have hl := linT_len w P k (by omega)
    rw [← hT] at hl
    have h2 := lineT_len w (s := k) (by omega)
    obtain ⟨l1, q1, q2⟩ := z_write w r (s := k) (by omega)
    obtain ⟨f0, p1, p2⟩ := li_spec (u := wLine u l1) (mc := 20) (ms := 600) q2 rfl (chs_line a k) (by omega) (by omega) (by omega)
    have hlog := lg_le (n := n3) (by have := h.2.1; omega)
    have hn3 := h.2.1
    have hb' : bOk (20 * (k + 1)) (600 * (k + 1)) (kc + 20) (ks + 600) n3 := ⟨by have := hb.1; omega, by have := hb.2; omega⟩
    have hbud : kc + 20 ≤ mc ∧ ks + 600 ≤ ms := ⟨by have := hb.1; omega, by have := hb.2; omega⟩
    obtain ⟨n1, g1, e1, s1, b1⟩ := c_str (mc := mc) (ms := ms) h p2 hb' (by omega) (by omega) (by omega)
    obtain ⟨n2, g2, e2, s2, b2⟩ := c_char (mc := mc) (ms := ms) (c := 59) s1 (by omega) b1 (by simp only [List.length_append]; omega) (by omega) (by simp only [List.length_append]; omega)
    obtain ⟨f, l', f1, f2⟩ := ih (k + 1) n n2 _ _ g2 _ (wLine u l1) r (by omega) (by omega) (by rw [hT]; rfl) s2 b2
    refine ⟨f, l', ?_, f2⟩
    refine Eq.trans ?_ f1
    rw [hf_L_told_39, z_ac0 r]
    simp only [obp_some, bdE]
    rw [if_neg (nI_ge (by omega) (by omega)), q1]
    simp only [obp_some]
    rw [if_pos hbud, p1]
    simp only [Option.bind_some]
    refine (e1 _).trans ?_
    dsimp only
    refine (e2 _).trans ?_
    dsimp only
    rw [nI_1]
theorem to_acc {u : vZ} (w : WF B a) (c : CI B a) (r : RX a u.2.1.1) (hB : B < 100000000) {mc ms : Nat} (hm : 200 ≤ mc) (hs : 8700 ≤ ms) : ∀ (d k n n3 kc ks : Nat) (g : Nat → Int32) (T : List Nat), k + d = 9 → d < n → T = accT a k → sbT T n3 g → bOk 0 0 kc ks n3 → ∃ f l', hf_L_told_10 mc ms n (nI k) (nI T.length) n3 g u kc ks = some ((toldT a).length, f, wLine u l') ∧ stT (toldT a) (toldT a).length f := by
  have h3 := w.1
  intro d
  induction d with
  | zero =>
    intro k n n3 kc ks g T hk hn hT h hb
    obtain ⟨n, rfl⟩ : ∃ j, n = j + 1 := ⟨n - 1, by omega⟩
    have hl := accT_len w c hB k
    have e : k = 9 := by omega
    subst e
    rw [hf_L_told_10, if_pos (by decide)]
    exact to_lin (mc := mc) (ms := ms) w hB (P := accT a 9) (by omega) hm hs (a 0 0) 0 vF n3 kc ks g T u r (by omega) (by have := wf_n w; unfold vF; omega) hT h hb
  | succ d ih =>
    intro k n n3 kc ks g T hk hn hT h hb
    obtain ⟨n, rfl⟩ : ∃ j, n = j + 1 := ⟨n - 1, by omega⟩
    have hl := accT_len w c hB k
    rw [← hT] at hl
    have h2 := acI_b w c hB (i := k)
    have l1 := iT_11 h2.1 h2.2
    obtain ⟨n1, g1, e1, s1, b1⟩ := c_int (mc := mc) (ms := ms) (z := acI a k) h h2.1 h2.2 hb (by omega) (by omega) (by omega)
    obtain ⟨n2, g2, e2, s2, b2⟩ := c_char (mc := mc) (ms := ms) (c := 44) s1 (by omega) b1 (by simp only [List.length_append]; omega) (by omega) (by simp only [List.length_append]; omega)
    obtain ⟨f, l', f1, f2⟩ := ih (k + 1) n n2 _ _ g2 _ (by omega) (by omega) (by rw [hT]; rfl) s2 b2
    refine ⟨f, l', ?_, f2⟩
    refine Eq.trans ?_ f1
    rw [hf_L_told_10, if_neg (show ¬ (9 : Int32) ≤ nI k from nI_ge (b := 9) (by omega) (by omega)), z_ac w r (by omega)]
    simp only [obp_some, bdE]
    refine (e1 _).trans ?_
    dsimp only
    refine (e2 _).trans ?_
    dsimp only
    rw [nI_1]
theorem told_spec {u : vZ} (w : WF B a) (c : CI B a) (r : RX a u.2.1.1) (hB : B < 100000000) : ∃ f l', hf_L_told 2000 12000 u = some ((toldT a).length, f, wLine u l') ∧ stT (toldT a) (toldT a).length f := by
  obtain ⟨i1, i2⟩ := in_0
  obtain ⟨f, l', f1, f2⟩ := to_acc (mc := 2000) (ms := 12000) w c r hB (by omega) (by omega) 9 0 vF 16 2 20 (fun _ => 0) [] (by omega) (by unfold vF; omega) rfl i2 ⟨by decide, by decide⟩
  refine ⟨f, l', ?_, f2⟩
  unfold hf_L_told
  simp only [bdE]
  rw [if_pos (by omega), if_pos (by omega), i1]
  simp only [Option.bind_some]
  exact f1
/-- two told texts of one state are one -/
theorem told_eq {f g : Nat → Int32} {W : List Nat} (h1 : stT W W.length f) (h2 : stT W W.length g) (hW : W.length < 900) : hf_J0_equals_9ea2d W.length f W.length g = some 1 := eq_spec hW (fun i hi => by rw [(h1.2.2 i hi).2, (h2.2.2 i hi).2])
end

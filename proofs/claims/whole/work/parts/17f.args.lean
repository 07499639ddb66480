def dR : Nat → Int32 → Int32 → vS → Option (Int32 × vS)
  | 0, _, x => fX8_comes x
  | 1, y, _ => fX8_goes y
  | 2, y, _ => fX8_takes y
  | 3, y, x => fX8_moods y x
  | 4, y, x => fX8_drinks y x
  | 5, y, x => fX8_stands y x
  | 6, y, x => fX8_horizons y x
  | 7, _, x => fX8_errs x
  | _, _, _ => fX8_passes
theorem obp_eta {α β : Type} (x : Option (α × β)) : (obp x fun a b => some (a, b)) = x := by
  cases x <;> rfl
theorem does_0 (y z : Int32) (u : vS) : fX8_does (nI 0) y z u = fX8_comes y u := obp_eta _
theorem does_1 (y z : Int32) (u : vS) : fX8_does (nI 1) y z u = fX8_goes y u := obp_eta _
theorem does_2 (y z : Int32) (u : vS) : fX8_does (nI 2) y z u = fX8_takes y u := obp_eta _
theorem does_3 (y z : Int32) (u : vS) : fX8_does (nI 3) y z u = fX8_moods y z u := obp_eta _
theorem does_4 (y z : Int32) (u : vS) : fX8_does (nI 4) y z u = fX8_drinks y z u := obp_eta _
theorem does_5 (y z : Int32) (u : vS) : fX8_does (nI 5) y z u = fX8_stands y z u := obp_eta _
theorem does_6 (y z : Int32) (u : vS) : fX8_does (nI 6) y z u = fX8_horizons y z u := obp_eta _
theorem does_7 (y z : Int32) (u : vS) : fX8_does (nI 7) y z u = fX8_errs y u := obp_eta _
theorem does_8 (y z : Int32) (u : vS) : fX8_does (nI 8) y z u = fX8_passes u := obp_eta _
theorem c26_0 (y : Int32) (u : vS) : fX8_command_26 (nI 0) y 0 u = fX8_command_140 (nI 0) y 0 u := rfl
theorem c26_1 (u : vS) : fX8_command_26 (nI 1) 0 0 u = obp (fX8_digit u) fun y4 u3 => fX8_command_140 (nI 1) y4 0 u3 := rfl
theorem c26_2 (u : vS) : fX8_command_26 (nI 2) 0 0 u = obp (fX8_digit u) fun y4 u3 => fX8_command_140 (nI 2) y4 0 u3 := rfl
theorem c26_3 (u : vS) : fX8_command_26 (nI 3) 0 0 u = obp (fX8_digit u) fun y4 u3 => (fX8_mark (nI 32) u3).bind fun u5 => (if u5 0 22 = 0 then obp (fX8_hexes u5) fun y6 u6 => fX8_command_140 (nI 3) y4 y6 u6 else fX8_command_140 (nI 3) y4 0 u5) := rfl
theorem c26_4 (u : vS) : fX8_command_26 (nI 4) 0 0 u = obp (fX8_digit u) fun y4 u3 => (fX8_mark (nI 32) u3).bind fun u5 => obp (fX8_digit u5) fun y6 u6 => fX8_command_140 (nI 4) y4 y6 u6 := rfl
theorem c26_5 (u : vS) : fX8_command_26 (nI 5) 0 0 u = obp (fX8_digit u) fun y4 u3 => (fX8_mark (nI 32) u3).bind fun u5 => obp (fX8_digit u5) fun y6 u6 => fX8_command_140 (nI 5) y4 y6 u6 := rfl
theorem c26_6 (u : vS) : fX8_command_26 (nI 6) 0 0 u = obp (fX8_digit u) fun y4 u3 => (fX8_mark (nI 32) u3).bind fun u5 => obp (fX8_digit u5) fun y6 u6 => fX8_command_140 (nI 6) y4 y6 u6 := rfl
theorem c26_7 (u : vS) : fX8_command_26 (nI 7) 0 0 u = obp (fX8_sign u) fun y3 u2 => (if y3 = (45 : Int32) then (fX8_mark (nI 45) u2).bind fun u8 => obp (fX8_digit u8) fun y5 u4 => fX8_command_140 (nI 7) (-y5) 0 u4 else obp (fX8_digit u2) fun y5 u4 => fX8_command_140 (nI 7) y5 0 u4) := rfl
theorem c26_8 (u : vS) : fX8_command_26 (nI 8) 0 0 u = fX8_command_140 (nI 8) 0 0 u := rfl
section
variable {c : Nat → Nat} {n : Nat}
theorem kw_1 (p : Nat) : kw c 1 p (ln 1) = hexv (c (p + 6)) := rfl
theorem kw_2 (p : Nat) : kw c 2 p (ln 2) = hexv (c (p + 6)) := rfl
theorem kw_3 (p : Nat) : kw c 3 p (ln 3) = hexv (c (p + 5)) := rfl
theorem kx_3 (p : Nat) : kx c 3 p (ln 3) = hx c (p + 7) 4 := rfl
theorem kx_0 (p : Nat) : kx c 0 p (ln 0) = hx c (p + 5) 4 := rfl
theorem kw_4 (p : Nat) : kw c 4 p (ln 4) = hexv (c (p + 4)) := rfl
theorem kx_4 (p : Nat) : kx c 4 p (ln 4) = 0 * 16 + hexv (c (p + 6)) := rfl
theorem kw_5 (p : Nat) : kw c 5 p (ln 5) = hexv (c (p + 6)) := rfl
theorem kx_5 (p : Nat) : kx c 5 p (ln 5) = 0 * 16 + hexv (c (p + 8)) := rfl
theorem kw_6 (p : Nat) : kw c 6 p (ln 6) = hexv (c (p + 8)) := rfl
theorem kx_6 (p : Nat) : kx c 6 p (ln 6) = 0 * 16 + hexv (c (p + 10)) := rfl
theorem kx_7 (p : Nat) : kx c 7 p (ln 7) = 0 * 16 + hexv (c (p + 6)) := rfl
theorem kx_8 (p : Nat) : kx c 8 p (ln 8) = 0 * 16 + hexv (c (p + 7)) := rfl
/-- one reader behind another -/
theorem fins_then {S T : List Nat} {h : Nat} {v2 : vS} (hS : mm c n S h = S.length) (F : FINS c n T (h + S.length) v2) : FINS c n (S ++ T) h v2 := by
  unfold FINS at F ⊢
  have hl := mm_le (c := c) (n := n) T (h + S.length)
  rw [mm_app, if_pos hS, List.length_append, ← Nat.add_assoc]
  by_cases e : mm c n T (h + S.length) = T.length
  · rw [if_pos e] at F
    rw [if_pos (by rw [e])]
    exact F
  · rw [if_neg e] at F
    rw [if_neg (by omega)]
    exact F
theorem fins_stop {S : List Nat} (T : List Nat) {h : Nat} {v1 : vS} (hS : ¬ mm c n S h = S.length) (F : FINS c n S h v1) : FINS c n (S ++ T) h v1 ∧ ST v1 (h + mm c n S h) 1 ∧ mm c n (S ++ T) h ≠ (S ++ T).length := by
  have hl := mm_le (c := c) (n := n) S h
  unfold FINS at F ⊢
  rw [if_neg hS] at F
  rw [mm_app, if_neg hS, List.length_append, if_neg (by omega)]
  exact ⟨F, F, by omega⟩
theorem fins_go {S : List Nat} {h : Nat} {v1 : vS} (hS : mm c n S h = S.length) (F : FINS c n S h v1) : ST v1 (h + S.length) 0 := by
  unfold FINS at F
  rw [if_pos hS, hS] at F
  exact F
theorem mm_fit {S : List Nat} {h : Nat} (hh : h ≤ n) : h + mm c n S h ≤ n := by
  by_cases e : mm c n S h = 0
  · omega
  · obtain ⟨m1, m2⟩ := mm_in (c := c) (n := n) S h (mm c n S h - 1) (by omega)
    omega
/-- a digit, a blank, a digit -/
theorem args_dd {v : vS} (C : CT c n v) {h : Nat} (S : ST v h 0) (hh : h ≤ n) (K : Int32 → Int32 → vS → Option vS) : ∃ y z v', (obp (fX8_digit v) fun y4 u3 => (fX8_mark (nI 32) u3).bind fun u5 => obp (fX8_digit u5) fun y6 u6 => K y4 y6 u6) = K y z v' ∧ PF v v' ∧ FINS c n [87, 32, 86] h v' ∧ (mm c n [87, 32, 86] h = 3 → y = nI (hexv (c h)) ∧ z = nI (hexv (c (h + 2)))) := by
  obtain ⟨y, v1, e1, f1, F1, g1⟩ := digit_ok C (y := 87) (Or.inr rfl) S hh
  rw [e1, obp_some]
  by_cases m1 : mm c n [87] h = 1
  · have fit1 := mm_fit (c := c) (n := n) (S := [87]) hh
    obtain ⟨v2, e2, f2, F2⟩ := mark_ok (ct_pf C f1) (y := 32) (by omega) (by decide) (fins_go (S := [87]) m1 F1) (by show h + 1 ≤ n; omega)
    rw [e2, Option.bind_some]
    have F12 : FINS c n [87, 32] h v2 := fins_then (S := [87]) (T := [32]) m1 F2
    by_cases m2 : mm c n [87, 32] h = 2
    · have fit2 := mm_fit (c := c) (n := n) (S := [87, 32]) hh
      obtain ⟨z, v3, e3, f3, F3, g3⟩ := digit_ok (ct_pf C (pf_trans f1 f2)) (y := 86) (Or.inl rfl) (fins_go (S := [87, 32]) m2 F12) (by show h + 2 ≤ n; omega)
      rw [e3, obp_some]
      refine ⟨y, z, v3, rfl, pf_trans f1 (pf_trans f2 f3), fins_then (S := [87, 32]) (T := [86]) m2 F3, fun h3 => ⟨g1 m1, g3 ?_⟩⟩
      have ha := mm_app (c := c) (n := n) [87, 32] [86] h
      rw [if_pos (show mm c n [87, 32] h = ([87, 32] : List Nat).length from m2)] at ha
      have ha2 : mm c n [87, 32, 86] h = 2 + mm c n [86] (h + 2) := ha
      show mm c n [86] (h + 2) = 1
      omega
    · obtain ⟨F, St, ne⟩ := fins_stop (S := [87, 32]) [86] m2 F12
      obtain ⟨z, e3⟩ := digit_wrong St
      rw [e3, obp_some]
      exact ⟨y, z, v2, rfl, pf_trans f1 f2, F, fun h3 => absurd h3 ne⟩
  · obtain ⟨F, St, ne⟩ := fins_stop (S := [87]) [32, 86] m1 F1
    obtain ⟨z, e3⟩ := digit_wrong St
    rw [mark_wrong _ St, Option.bind_some, e3, obp_some]
    exact ⟨y, z, v1, rfl, f1, F, fun h3 => absurd h3 ne⟩
/-- a digit, a blank, a mood -/
theorem args_dx {v : vS} (C : CT c n v) {h : Nat} (S : ST v h 0) (hh : h ≤ n) (K : Int32 → Int32 → vS → Option vS) : ∃ y z v', (obp (fX8_digit v) fun y4 u3 => (fX8_mark (nI 32) u3).bind fun u5 => (if u5 0 22 = 0 then obp (fX8_hexes u5) fun y6 u6 => K y4 y6 u6 else K y4 0 u5)) = K y z v' ∧ PF v v' ∧ FINS c n [87, 32, 88, 88, 88, 88] h v' ∧ (mm c n [87, 32, 88, 88, 88, 88] h = 6 → y = nI (hexv (c h)) ∧ z = nI (hx c (h + 2) 4)) := by
  obtain ⟨y, v1, e1, f1, F1, g1⟩ := digit_ok C (y := 87) (Or.inr rfl) S hh
  rw [e1, obp_some]
  by_cases m1 : mm c n [87] h = 1
  · have fit1 := mm_fit (c := c) (n := n) (S := [87]) hh
    obtain ⟨v2, e2, f2, F2⟩ := mark_ok (ct_pf C f1) (y := 32) (by omega) (by decide) (fins_go (S := [87]) m1 F1) (by show h + 1 ≤ n; omega)
    rw [e2, Option.bind_some]
    have F12 : FINS c n [87, 32] h v2 := fins_then (S := [87]) (T := [32]) m1 F2
    by_cases m2 : mm c n [87, 32] h = 2
    · have fit2 := mm_fit (c := c) (n := n) (S := [87, 32]) hh
      have St := fins_go (S := [87, 32]) m2 F12
      obtain ⟨z, v3, e3, f3, F3, g3⟩ := hexes_ok (ct_pf C (pf_trans f1 f2)) St (by show h + 2 ≤ n; omega)
      have c0 : v2 0 22 = 0 := St.2
      rw [if_pos c0, e3, obp_some]
      refine ⟨y, z, v3, rfl, pf_trans f1 (pf_trans f2 f3), fins_then (S := [87, 32]) (T := [88, 88, 88, 88]) m2 F3, fun h3 => ⟨g1 m1, g3 ?_⟩⟩
      have ha := mm_app (c := c) (n := n) [87, 32] [88, 88, 88, 88] h
      rw [if_pos (show mm c n [87, 32] h = ([87, 32] : List Nat).length from m2)] at ha
      have ha2 : mm c n [87, 32, 88, 88, 88, 88] h = 2 + mm c n [88, 88, 88, 88] (h + 2) := ha
      show mm c n [88, 88, 88, 88] (h + 2) = 4
      omega
    · obtain ⟨F, St, ne⟩ := fins_stop (S := [87, 32]) [88, 88, 88, 88] m2 F12
      have c0 : ¬ v2 0 22 = 0 := by rw [St.2]; decide
      rw [if_neg c0]
      exact ⟨y, 0, v2, rfl, pf_trans f1 f2, F, fun h3 => absurd h3 ne⟩
  · obtain ⟨F, St, ne⟩ := fins_stop (S := [87]) [32, 88, 88, 88, 88] m1 F1
    have c0 : ¬ v1 0 22 = 0 := by rw [St.2]; decide
    rw [mark_wrong _ St, Option.bind_some, if_neg c0]
    exact ⟨y, 0, v1, rfl, f1, F, fun h3 => absurd h3 ne⟩
/-- what stands behind the word -/
def argC (w : Nat) (v : vS) : Option vS := if w = 0 then (obp (fX8_hexes v) fun y6 u5 => fX8_command_26 (nI 0) y6 (0 : Int32) u5) else fX8_command_26 (nI w) (0 : Int32) (0 : Int32) v
theorem args_all {v : vS} (C : CT c n v) {w p : Nat} (hw : w < 9) (S : ST v (p + (wrd w).length) 0) (hh : p + (wrd w).length ≤ n) : ∃ f y z v', f < 10 ∧ wof f = w ∧ argC w v = fX8_command_140 (nI w) y z v' ∧ PF v v' ∧ FINS c n (arg f) (p + (wrd w).length) v' ∧ (∀ g, g < 10 → wof g = w → mm c n (arg g) (p + (wrd w).length) ≤ mm c n (arg f) (p + (wrd w).length)) ∧ (mm c n (arg f) (p + (wrd w).length) = (arg f).length → ∀ u, fX8_does (nI w) y z u = dR (fmF f) (whoF c f p) (valF c f p) u) := by
  have one : ∀ {f}, (∀ g, g < 10 → wof g = wof f → g = f) → ∀ h, ∀ g, g < 10 → wof g = wof f → mm c n (arg g) h ≤ mm c n (arg f) h := by
    intro f hf h g hg e
    rw [hf g hg e]
    exact Nat.le_refl _
  have : w = 0 ∨ w = 1 ∨ w = 2 ∨ w = 3 ∨ w = 4 ∨ w = 5 ∨ w = 6 ∨ w = 7 ∨ w = 8 := by omega
  rcases this with e | e | e | e | e | e | e | e | e <;> subst e
  · obtain ⟨y, v', e1, f1, F1, g1⟩ := hexes_ok C S hh
    refine ⟨0, y, 0, v', by omega, rfl, ?_, f1, F1, one (f := 0) (by decide) _, fun h u => ?_⟩
    · rw [argC, if_pos rfl, e1, obp_some, c26_0]
    · rw [does_0, g1 h]
      show fX8_comes _ u = fX8_comes (nI (kx c 0 p (ln 0))) u
      rw [kx_0]
      rfl
  · obtain ⟨y, v', e1, f1, F1, g1⟩ := digit_ok C (y := 87) (Or.inr rfl) S hh
    refine ⟨1, y, 0, v', by omega, rfl, ?_, f1, F1, one (f := 1) (by decide) _, fun h u => ?_⟩
    · rw [argC, if_neg (by omega), c26_1, e1, obp_some]
    · rw [does_1, g1 h]
      show fX8_goes _ u = fX8_goes (nI (kw c 1 p (ln 1))) u
      rw [kw_1]
      rfl
  · obtain ⟨y, v', e1, f1, F1, g1⟩ := digit_ok C (y := 87) (Or.inr rfl) S hh
    refine ⟨2, y, 0, v', by omega, rfl, ?_, f1, F1, one (f := 2) (by decide) _, fun h u => ?_⟩
    · rw [argC, if_neg (by omega), c26_2, e1, obp_some]
    · rw [does_2, g1 h]
      show fX8_takes _ u = fX8_takes (nI (kw c 2 p (ln 2))) u
      rw [kw_2]
      rfl
  · obtain ⟨y, z, v', e1, f1, F1, g1⟩ := args_dx C S hh (fun y z u => fX8_command_140 (nI 3) y z u)
    refine ⟨3, y, z, v', by omega, rfl, ?_, f1, F1, one (f := 3) (by decide) _, fun h u => ?_⟩
    · rw [argC, if_neg (by omega), c26_3]
      exact e1
    · rw [does_3, (g1 h).1, (g1 h).2]
      show fX8_moods _ _ u = fX8_moods (nI (kw c 3 p (ln 3))) (nI (kx c 3 p (ln 3))) u
      rw [kw_3, kx_3]
      rfl
  · obtain ⟨y, z, v', e1, f1, F1, g1⟩ := args_dd C S hh (fun y z u => fX8_command_140 (nI 4) y z u)
    refine ⟨4, y, z, v', by omega, rfl, ?_, f1, F1, one (f := 4) (by decide) _, fun h u => ?_⟩
    · rw [argC, if_neg (by omega), c26_4]
      exact e1
    · rw [does_4, (g1 h).1, (g1 h).2]
      show fX8_drinks _ _ u = fX8_drinks (nI (kw c 4 p (ln 4))) (nI (kx c 4 p (ln 4))) u
      rw [kw_4, kx_4, Nat.zero_mul, Nat.zero_add]
      rfl
  · obtain ⟨y, z, v', e1, f1, F1, g1⟩ := args_dd C S hh (fun y z u => fX8_command_140 (nI 5) y z u)
    refine ⟨5, y, z, v', by omega, rfl, ?_, f1, F1, one (f := 5) (by decide) _, fun h u => ?_⟩
    · rw [argC, if_neg (by omega), c26_5]
      exact e1
    · rw [does_5, (g1 h).1, (g1 h).2]
      show fX8_stands _ _ u = fX8_stands (nI (kw c 5 p (ln 5))) (nI (kx c 5 p (ln 5))) u
      rw [kw_5, kx_5, Nat.zero_mul, Nat.zero_add]
      rfl
  · obtain ⟨y, z, v', e1, f1, F1, g1⟩ := args_dd C S hh (fun y z u => fX8_command_140 (nI 6) y z u)
    refine ⟨6, y, z, v', by omega, rfl, ?_, f1, F1, one (f := 6) (by decide) _, fun h u => ?_⟩
    · rw [argC, if_neg (by omega), c26_6]
      exact e1
    · rw [does_6, (g1 h).1, (g1 h).2]
      show fX8_horizons _ _ u = fX8_horizons (nI (kw c 6 p (ln 6))) (nI (kx c 6 p (ln 6))) u
      rw [kw_6, kx_6, Nat.zero_mul, Nat.zero_add]
      rfl
  · have hn := C.1
    have g78 : ∀ g, g < 10 → wof g = 7 → g = 7 ∨ g = 8 := by decide
    have L6 : p + (wrd 7).length = p + 6 := rfl
    rw [L6] at S hh ⊢
    have e8 : mm c n (arg 8) (p + 6) = if p + 6 < n ∧ okc 45 (c (p + 6)) then 1 + mm c n [86] (p + 6 + 1) else 0 := rfl
    have e7 : mm c n (arg 7) (p + 6) = if p + 6 < n ∧ okc 86 (c (p + 6)) then 1 else 0 := mm_one (y := 86)
    by_cases h45 : p + 6 < n ∧ c (p + 6) = 45
    · have ho : p + 6 < n ∧ okc 45 (c (p + 6)) := ⟨h45.1, (okc_let (by decide)).mpr h45.2⟩
      have hno : ¬ (p + 6 < n ∧ okc 86 (c (p + 6))) := by
        rw [h45.2]
        exact fun h => absurd h.2 (by decide)
      have m45 : mm c n [45] (p + 6) = 1 := by rw [mm_one, if_pos ho]
      obtain ⟨v1, e1, f1, F1⟩ := mark_ok C (y := 45) (by omega) (by decide) S hh
      have St := fins_go (S := [45]) m45 F1
      obtain ⟨y, v', e2, f2, F2, g2⟩ := digit_ok (ct_pf C f1) (y := 86) (Or.inl rfl) St (by show p + 6 + 1 ≤ n; omega)
      refine ⟨8, -y, 0, v', by omega, rfl, ?_, pf_trans f1 f2, fins_then (S := [45]) (T := [86]) m45 F2, fun g hg hw => ?_, fun h u => ?_⟩
      · rw [argC, if_neg (by omega), c26_7, sign_in C S.1 h45.1, obp_some, if_pos (by rw [h45.2]; rfl), e1, Option.bind_some, e2, obp_some]
      · rcases g78 g hg hw with e | e
        · subst e
          rw [e7, if_neg hno]
          exact Nat.zero_le _
        · rw [e]
          exact Nat.le_refl _
      · have h2 : mm c n [86] (p + 6 + 1) = 1 := by
          rw [e8, if_pos ho] at h
          have : 1 + mm c n [86] (p + 6 + 1) = 2 := h
          omega
        rw [does_7, g2 h2]
        show fX8_errs _ u = fX8_errs (-(nI (kx c 8 p (ln 8)))) u
        rw [kx_8, Nat.zero_mul, Nat.zero_add]
        rfl
    · have hno : ¬ (p + 6 < n ∧ okc 45 (c (p + 6))) := fun ⟨a1, a2⟩ => h45 ⟨a1, (okc_let (by decide)).mp a2⟩
      obtain ⟨y, v', e2, f2, F2, g2⟩ := digit_ok C (y := 86) (Or.inl rfl) S hh
      refine ⟨7, y, 0, v', by omega, rfl, ?_, f2, F2, fun g hg hw => ?_, fun h u => ?_⟩
      · rw [argC, if_neg (by omega), c26_7]
        by_cases h1 : p + 6 < n
        · have hc := (C.2.2.1 _ h1).2
          have hne : ¬ nI (c (p + 6)) = (45 : Int32) := fit_ne (k := 45) hc (by omega) (fun h => h45 ⟨h1, h⟩)
          rw [sign_in C S.1 h1, obp_some, if_neg hne, e2, obp_some]
        · have hne : ¬ (-1 : Int32) = 45 := neg1_ne 45 (by omega)
          rw [sign_out C S.1 h1 (by omega), obp_some, if_neg hne, e2, obp_some]
      · rcases g78 g hg hw with e | e
        · rw [e]
          exact Nat.le_refl _
        · subst e
          rw [e8, if_neg hno]
          exact Nat.zero_le _
      · rw [does_7, g2 h]
        show fX8_errs _ u = fX8_errs (nI (kx c 7 p (ln 7))) u
        rw [kx_7, Nat.zero_mul, Nat.zero_add]
  · refine ⟨9, 0, 0, v, by omega, rfl, ?_, pf_refl v, S, one (f := 9) (by decide) _, fun h u => ?_⟩
    · rw [argC, if_neg (by omega), c26_8]
    · rw [does_8]
      rfl
end

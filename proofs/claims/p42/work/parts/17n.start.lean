/-! THE FRESH OBJECT: what the law asks of it first, and its stock -/
theorem get_some {α β : Type} {o : Option (α × β)} {d : α × β} {v : α} (h : o.isSome = true) (h2 : (o.getD d).1 = v) : o = some (v, (o.getD d).2) := by
  cases o with
  | none => exact absurd (show false = true from h) Bool.false_ne_true
  | some x =>
    rw [← h2]
    rfl
def stD : Int32 × vZ := (0, vZ0)
def stDL : Int64 × vZ := (0, vZ0)
def stDD : UInt64 × vZ := (0, vZ0)
def st_1 : vZ := ((fX7_undo vZ0).getD stD).2
theorem sv_1 : fX7_undo vZ0 = some ((-100003 : Int32), st_1) := get_some (d := stD) (by decide +kernel) (by decide +kernel)
def st_2 : vZ := ((fX7_restore st_1).getD stD).2
theorem sv_2 : fX7_restore st_1 = some ((-100003 : Int32), st_2) := get_some (d := stD) (by decide +kernel) (by decide +kernel)
def st_3 : vZ := ((fX7_reason (0 : Int32) (0 : Int32) st_2).getD stD).2
theorem sv_3 : fX7_reason (0 : Int32) (0 : Int32) st_2 = some ((-100003 : Int32), st_3) := get_some (d := stD) (by decide +kernel) (by decide +kernel)
def st_4 : vZ := ((fX7_reason (2 : Int32) (0 : Int32) st_3).getD stD).2
theorem sv_4 : fX7_reason (2 : Int32) (0 : Int32) st_3 = some ((-100002 : Int32), st_4) := get_some (d := stD) (by decide +kernel) (by decide +kernel)
def st_5 : vZ := ((fX7_fault st_4).getD stD).2
theorem sv_5 : fX7_fault st_4 = some ((-100003 : Int32), st_5) := get_some (d := stD) (by decide +kernel) (by decide +kernel)
def st_6 : vZ := ((fX7_read st_5).getD stD).2
theorem sv_6 : fX7_read st_5 = some ((-100002 : Int32), st_6) := get_some (d := stD) (by decide +kernel) (by decide +kernel)
def st_7 : vZ := ((fX7_fault st_6).getD stD).2
theorem sv_7 : fX7_fault st_6 = some ((0 : Int32), st_7) := get_some (d := stD) (by decide +kernel) (by decide +kernel)
def st_8 : vZ := ((fX7_written (0 : Int32) st_7).getD stD).2
theorem sv_8 : fX7_written (0 : Int32) st_7 = some ((-100001 : Int32), st_8) := get_some (d := stD) (by decide +kernel) (by decide +kernel)
def st_9 : vZ := ((fX7_sail (65536 : Int32) st_8).getD stD).2
theorem sv_9 : fX7_sail (65536 : Int32) st_8 = some ((-100002 : Int32), st_9) := get_some (d := stD) (by decide +kernel) (by decide +kernel)
def st_10 : vZ := ((fX7_shore (0 : Int32) st_9).getD stD).2
theorem sv_10 : fX7_shore (0 : Int32) st_9 = some ((-100001 : Int32), st_10) := get_some (d := stD) (by decide +kernel) (by decide +kernel)
def st_11 : vZ := ((fX7_sight (0 : Int32) st_10).getD stD).2
theorem sv_11 : fX7_sight (0 : Int32) st_10 = some ((-100001 : Int32), st_11) := get_some (d := stD) (by decide +kernel) (by decide +kernel)
def st_12 : vZ := ((fX7_watch (0 : Int32) (0 : Int32) st_11).getD stD).2
theorem sv_12 : fX7_watch (0 : Int32) (0 : Int32) st_11 = some ((-100001 : Int32), st_12) := get_some (d := stD) (by decide +kernel) (by decide +kernel)
def st_13 : vZ := ((fX7_horizon (0 : Int32) (4 : Int32) st_12).getD stD).2
theorem sv_13 : fX7_horizon (0 : Int32) (4 : Int32) st_12 = some ((-100005 : Int32), st_13) := get_some (d := stD) (by decide +kernel) (by decide +kernel)
def st_14 : vZ := ((fX7_reason (0 : Int32) (0 : Int32) st_13).getD stD).2
theorem sv_14 : fX7_reason (0 : Int32) (0 : Int32) st_13 = some ((2 : Int32), st_14) := get_some (d := stD) (by decide +kernel) (by decide +kernel)
def st_15 : vZ := ((fX7_reason (0 : Int32) (1 : Int32) st_14).getD stD).2
theorem sv_15 : fX7_reason (0 : Int32) (1 : Int32) st_14 = some ((4 : Int32), st_15) := get_some (d := stD) (by decide +kernel) (by decide +kernel)
def st_16 : vZ := ((fX7_reason (1 : Int32) (0 : Int32) st_15).getD stD).2
theorem sv_16 : fX7_reason (1 : Int32) (0 : Int32) st_15 = some ((-100006 : Int32), st_16) := get_some (d := stD) (by decide +kernel) (by decide +kernel)
def st_17 : vZ := ((fX7_horizon (4 : Int32) (0 : Int32) st_16).getD stD).2
theorem sv_17 : fX7_horizon (4 : Int32) (0 : Int32) st_16 = some ((-100001 : Int32), st_17) := get_some (d := stD) (by decide +kernel) (by decide +kernel)
def st_18 : vZ := ((fX7_error (4 : Int32) st_17).getD stD).2
theorem sv_18 : fX7_error (4 : Int32) st_17 = some ((-100002 : Int32), st_18) := get_some (d := stD) (by decide +kernel) (by decide +kernel)
def st_19 : vZ := ((fX7_error (0 : Int32) st_18).getD stD).2
theorem sv_19 : fX7_error (0 : Int32) st_18 = some ((-100005 : Int32), st_19) := get_some (d := stD) (by decide +kernel) (by decide +kernel)
def st_20 : vZ := ((fX7_reason (0 : Int32) (1 : Int32) st_19).getD stD).2
theorem sv_20 : fX7_reason (0 : Int32) (1 : Int32) st_19 = some ((0 : Int32), st_20) := get_some (d := stD) (by decide +kernel) (by decide +kernel)
def st_21 : vZ := ((fX7_packed st_20).getD stDL).2
theorem sv_21 : fX7_packed st_20 = some ((0 : Int64), st_21) := get_some (d := stDL) (by decide +kernel) (by decide +kernel)
def st_22 : vZ := ((fX7_meanAngle st_21).getD stDD).2
theorem sv_22 : fX7_meanAngle st_21 = some (FP.dconst0, st_22) := get_some (d := stDD) (by decide +kernel) (by decide +kernel)
def st_23 : vZ := ((fX7_messes st_22).getD stD).2
theorem sv_23 : fX7_messes st_22 = some ((0 : Int32), st_23) := get_some (d := stD) (by decide +kernel) (by decide +kernel)
def st_24 : vZ := ((fX7_account (11 : Int32) st_23).getD stD).2
theorem sv_24 : fX7_account (11 : Int32) st_23 = some ((-100002 : Int32), st_24) := get_some (d := stD) (by decide +kernel) (by decide +kernel)
def st_25 : vZ := ((fX7_isCounted st_24).getD stD).2
theorem sv_25 : fX7_isCounted st_24 = some ((1 : Int32), st_25) := get_some (d := stD) (by decide +kernel) (by decide +kernel)
/-- what a fresh object holds -/
def aF : mA := fun r k => if r = 0 then (if k = 2 then 3 else 0) else if r = 4 then 4 else 0
theorem wf_F : WF 0 aF := by
  refine ⟨by decide +kernel, by decide +kernel, by decide +kernel, by decide +kernel, fun k hk => ?_⟩
  exact absurd (show k + 1 < 0 from hk) (by omega)
theorem ci_F : CI 0 aF := by
  unfold CI
  decide +kernel
theorem rx_F : RX aF st_25.2.1.1 := by
  unfold RX
  decide +kernel
theorem pz_F : PZ 0 aF 0 (fun _ => aF) st_25 := by
  refine ⟨⟨wf_F, ci_F, rx_F⟩, ⟨⟨by omega, by decide +kernel, 0, by omega, by decide +kernel, fun j hj => absurd hj (Nat.not_lt_zero j)⟩, fun j hj => absurd hj (Nat.not_lt_zero j)⟩, by decide +kernel⟩
theorem made_F : (hf_L_stock st_25).isSome = true ∧ 0 < ((hf_L_stock st_25).getD stD).1 := by decide +kernel
section
variable {B : Nat} {a : mA} {n : Nat} {hs : Nat → mA} {u : vZ}
theorem cz {f : Nat} {y x : Int32} {g : vZ → Option (Int32 × vZ)} (P : PZ B a n hs u) (hB : B + 1 < 1000000000) (h : ∃ o, OX B a f y x g o) : ∃ r a' n' hs' u', g u = some (r, u') ∧ PZ (B + 1) a' n' hs' u' := by
  obtain ⟨o, ho⟩ := h
  obtain ⟨r, a', n', hs', u', h1, h2, h3⟩ := pz_cmd P hB ho
  exact ⟨r, a', n', hs', u', h1, h2⟩
theorem stock_pz (P : PZ B a n hs u) (hB : B + 13 < 1000000000) : ∃ v a' n' hs' u', hf_L_stock u = some (v, u') ∧ PZ (B + 13) a' n' hs' u' := by
  obtain ⟨r1, a1, n1, s1, u1, e1, P1⟩ := cz P (by omega) (cx_0 P.1.1 (by omega) 255)
  obtain ⟨r2, a2, n2, s2, u2, e2, P2⟩ := cz P1 (by omega) (cx_0 P1.1.1 (by omega) 511)
  obtain ⟨r3, a3, n3, s3, u3, e3, P3⟩ := cz P2 (by omega) (cx_0 P2.1.1 (by omega) 65280)
  obtain ⟨r4, a4, n4, s4, u4, e4, P4⟩ := cz P3 (by omega) (cx_4 P3.1.1 (by omega) 0 5)
  obtain ⟨r5, a5, n5, s5, u5, e5, P5⟩ := cz P4 (by omega) (cx_5 P4.1.1 (by omega) 1 3)
  obtain ⟨r6, a6, n6, s6, u6, e6, P6⟩ := cz P5 (by omega) (cx_6 P5.1.1 (by omega) 3 7)
  obtain ⟨r7, a7, n7, s7, u7, e7, P7⟩ := cz P6 (by omega) (cx_2 P6.1.1 (by omega) 0)
  obtain ⟨r8, a8, n8, s8, u8, e8, P8⟩ := cz P7 (by omega) (cx_2 P7.1.1 (by omega) 1)
  obtain ⟨r9, a9, n9, s9, u9, e9, P9⟩ := cz P8 (by omega) ⟨_, cx_9 P8.1.1 (by omega)⟩
  obtain ⟨r10, a10, n10, s10, u10, e10, P10⟩ := cz P9 (by omega) (cx_2 P9.1.1 (by omega) 0)
  obtain ⟨r11, a11, n11, s11, u11, e11, P11⟩ := cz P10 (by omega) (cx_2 P10.1.1 (by omega) 1)
  obtain ⟨r12, a12, n12, s12, u12, e12, P12⟩ := cz P11 (by omega) (cx_7 P11.1.1 (by omega) 2)
  obtain ⟨r13, a13, n13, s13, u13, e13, P13⟩ := cz P12 (by omega) (cx_2 P12.1.1 (by omega) 2)
  refine ⟨r1 + r2 + r3 + r4 + r5 + r6 + r7 + r8 + r9 + r10 + r11 + r12 + r13, a13, n13, s13, u13, ?_, pz_up P13 (by omega) (by omega)⟩
  unfold hf_L_stock
  rw [e1, obp_some, e2, obp_some, e3, obp_some, e4, obp_some, e5, obp_some, e6, obp_some, bdE, e7, obp_some, e8, obp_some, e9, obp_some, e10, obp_some, e11, obp_some, e12, obp_some, e13, obp_some]
end
theorem stock_F : ∃ v a n hs u, hf_L_stock st_25 = some (v, u) ∧ 0 < v ∧ PZ 13 a n hs u := by
  obtain ⟨v, a, n, hs, u, h1, h2⟩ := stock_pz pz_F (by omega)
  have h := made_F.2
  rw [h1] at h
  exact ⟨v, a, n, hs, u, h1, h, h2⟩
theorem law_open {L : Nat} {xs : Nat → Int32} {v : Int32} {u : vZ} (h : hf_L_stock st_25 = some (v, u)) : hf_L_law 600000 7302250 L xs vZ0 = hf_L_law_262 600000 7302250 L xs vF (0 : Int32) v (0 : Int32) u 101 1084 := by
  unfold hf_L_law
  rw [sv_1, obp_some, if_pos rfl, sv_2, obp_some, if_pos rfl, sv_3, obp_some, if_pos rfl, sv_4, obp_some, if_pos rfl, sv_5, obp_some, if_pos rfl, sv_6, obp_some, if_pos rfl, sv_7, obp_some, if_pos rfl, sv_8, obp_some, if_pos rfl, sv_9, obp_some, if_pos rfl, sv_10, obp_some, if_pos rfl, sv_11, obp_some, if_pos rfl, sv_12, obp_some, if_pos rfl, sv_13, obp_some, if_pos rfl, sv_14, obp_some, if_pos rfl, sv_15, obp_some, if_pos rfl, sv_16, obp_some, if_pos rfl, sv_17, obp_some, if_pos rfl, sv_18, obp_some, if_pos rfl, sv_19, obp_some, if_pos rfl, sv_20, obp_some, if_pos rfl, sv_21, obp_some, if_pos (lg_self _), sv_22, obp_some, if_pos mn_c0, sv_23, obp_some, if_pos rfl, sv_24, obp_some, if_pos rfl, sv_25, obp_some, if_neg k_10]
  rw [h, Option.bind_some]
  simp only [bdE]

section
variable (y x : Int32) (u : vH)
theorem co_0 : fX5_carryOut 0 y x u = (fX5_addSailor x u).bind fun u3 => some u3 := rfl
theorem co_1 : fX5_carryOut 1 y x u = (fX5_removeSailor y u).bind fun u3 => some u3 := rfl
theorem cro_2 : fX5_carryOut 2 y x u = (fX5_addSight y u).bind fun u3 => some u3 := rfl
theorem cro_3 : fX5_carryOut 3 y x u = if y < 0 ∨ 8 ≤ Int32.toNatClampNeg y then none else some (up2 u.1 1 (Int32.toNatClampNeg y) x, u.2) := rfl
theorem cro_4 : fX5_carryOut 4 y x u = (fX5_give y x u).bind fun u3 => some u3 := rfl
theorem co_5 : fX5_carryOut 5 y x u = if y < 0 ∨ 8 ≤ Int32.toNatClampNeg y then none else some (up2 u.1 3 (Int32.toNatClampNeg y) x, u.2) := rfl
theorem co_6 : fX5_carryOut 6 y x u = if y < 0 ∨ 4 ≤ Int32.toNatClampNeg y then none else some (up2 u.1 4 (Int32.toNatClampNeg y) x, u.2) := rfl
theorem co_7 : fX5_carryOut 7 y x u = some (up2 u.1 0 5 x, u.2) := rfl
theorem co_9 : fX5_carryOut 9 y x u = (fX5_passHour u).bind fun u3 => some u3 := rfl
theorem ra_0 : fX5_reasonAgainst 0 y x u = if u.1 0 0 < (8 : Int32) then some ((0 : Int32), u) else some ((1 : Int32), u) := rfl
theorem ra_1 : fX5_reasonAgainst 1 y x u = some ((0 : Int32), u) := rfl
theorem ra_2 : fX5_reasonAgainst 2 y x u = obp (fX5_isSightedNow y u) fun y7 u6 => (if y7 = 0 then some ((0 : Int32), u6) else some ((4 : Int32), u6)) := rfl
theorem ra_3 : fX5_reasonAgainst 3 y x u = if y < 0 ∨ 8 ≤ Int32.toNatClampNeg y then none else (if u.1 1 (Int32.toNatClampNeg y) = x then some ((2 : Int32), u) else some ((0 : Int32), u)) := rfl
theorem ra_4 : fX5_reasonAgainst 4 y x u = if y < 0 ∨ 8 ≤ Int32.toNatClampNeg y then none else (if (u.1 2 (Int32.toNatClampNeg y)) + x ≤ (9 : Int32) then some ((0 : Int32), u) else some ((3 : Int32), u)) := rfl
theorem ra_5 : fX5_reasonAgainst 5 y x u = if y < 0 ∨ 8 ≤ Int32.toNatClampNeg y then none else (if u.1 3 (Int32.toNatClampNeg y) = x then some ((2 : Int32), u) else some ((0 : Int32), u)) := rfl
theorem ra_6 : fX5_reasonAgainst 6 y x u = if y < 0 ∨ 4 ≤ Int32.toNatClampNeg y then none else (if u.1 4 (Int32.toNatClampNeg y) = x then some ((2 : Int32), u) else some ((0 : Int32), u)) := rfl
theorem ra_7 : fX5_reasonAgainst 7 y x u = if u.1 0 5 = x then some ((2 : Int32), u) else some ((0 : Int32), u) := rfl
theorem ra_9 : fX5_reasonAgainst 9 y x u = some ((0 : Int32), u) := rfl
theorem ir_0 : fX5_isInRange 0 y x u = (fX5_isMood x).bind fun y3 => if y3 = 0 ∨ y3 = 1 then some (y3, u) else none := rfl
theorem ir_1 : fX5_isInRange 1 y x u = obp (fX5_hasSailor y u) fun y7 u6 => if y7 = 0 ∨ y7 = 1 then some (y7, u6) else none := rfl
theorem ir_2 : fX5_isInRange 2 y x u = obp (fX5_hasSailor y u) fun y7 u6 => if y7 = 0 ∨ y7 = 1 then some (y7, u6) else none := rfl
theorem ir_3 : fX5_isInRange 3 y x u = obp (fX5_hasSailor y u) fun y15 u14 => (if y15 = 0 then some ((0 : Int32), u14) else (fX5_isMood x).bind fun y17 => (if y17 = 0 then some ((0 : Int32), u14) else some ((1 : Int32), u14))) := rfl
theorem ir_4 : fX5_isInRange 4 y x u = obp (fX5_hasSailor y u) fun y15 u14 => (if y15 = 0 then some ((0 : Int32), u14) else (fX5_isGift x).bind fun y17 => (if y17 = 0 then some ((0 : Int32), u14) else some ((1 : Int32), u14))) := rfl
theorem ir_5 : fX5_isInRange 5 y x u = obp (fX5_hasSailor y u) fun y15 u14 => (if y15 = 0 then some ((0 : Int32), u14) else (fX5_isWatch x).bind fun y17 => (if y17 = 0 then some ((0 : Int32), u14) else some ((1 : Int32), u14))) := rfl
theorem ir_6 : fX5_isInRange 6 y x u = (fX5_isWatch y).bind fun y32 => (if y32 = 0 then some ((0 : Int32), u) else (fX5_isHorizon x).bind fun y34 => (if y34 = 0 then some ((0 : Int32), u) else some ((1 : Int32), u))) := rfl
theorem ir_7 : fX5_isInRange 7 y x u = (fX5_isError x).bind fun y37 => if y37 = 0 ∨ y37 = 1 then some (y37, u) else none := rfl
theorem ir_9 : fX5_isInRange 9 y x u = some ((1 : Int32), u) := rfl
end


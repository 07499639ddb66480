theorem inX3w : ∀ z ∈ u_ws RX3 TX3 2, z ∈ wsL_law := by
  intro z hz
  obtain ⟨k, hk, rfl⟩ := List.mem_map.mp hz
  have hk := List.mem_range.mp hk
  match k, hk with
  | 0, _ => exact tyX3_0
  | 1, _ => exact tyX3_1
  | k + 2, hk => omega
theorem inX4w : ∀ z ∈ u_ws RX4 TX4 3, z ∈ wsL_law := by
  intro z hz
  obtain ⟨k, hk, rfl⟩ := List.mem_map.mp hz
  have hk := List.mem_range.mp hk
  match k, hk with
  | 0, _ => exact tyX4_0
  | 1, _ => exact tyX4_1
  | 2, _ => exact tyX4_2
  | k + 3, hk => omega
theorem inX5w : ∀ z ∈ u_ws RX5 TX5 15, z ∈ wsL_law := by
  intro z hz
  obtain ⟨k, hk, rfl⟩ := List.mem_map.mp hz
  have hk := List.mem_range.mp hk
  match k, hk with
  | 0, _ => exact tyX5_0
  | 1, _ => exact tyX5_1
  | 2, _ => exact tyX5_2
  | 3, _ => exact tyX5_3
  | 4, _ => exact tyX5_4
  | 5, _ => exact tyX5_5
  | 6, _ => exact tyX5_6
  | 7, _ => exact tyX5_7
  | 8, _ => exact tyX5_8
  | 9, _ => exact tyX5_9
  | 10, _ => exact tyX5_10
  | 11, _ => exact tyX5_11
  | 12, _ => exact tyX5_12
  | 13, _ => exact tyX5_13
  | 14, _ => exact tyX5_14
  | k + 15, hk => omega
theorem inX6w : ∀ z ∈ u_ws RX6 TX6 6, z ∈ wsL_law := by
  intro z hz
  obtain ⟨k, hk, rfl⟩ := List.mem_map.mp hz
  have hk := List.mem_range.mp hk
  match k, hk with
  | 0, _ => exact tyX6_0
  | 1, _ => exact tyX6_1
  | 2, _ => exact tyX6_2
  | 3, _ => exact tyX6_3
  | 4, _ => exact tyX6_4
  | 5, _ => exact tyX6_5
  | k + 6, hk => omega
theorem inX2w : ∀ z ∈ u_ws RX2 TX2 3, z ∈ wsL_law := by
  intro z hz
  obtain ⟨k, hk, rfl⟩ := List.mem_map.mp hz
  have hk := List.mem_range.mp hk
  match k, hk with
  | 0, _ => exact tyX2_0
  | 1, _ => exact tyX2_1
  | 2, _ => exact tyX2_2
  | k + 3, hk => omega
theorem inX7w : ∀ z ∈ u_ws RX7 TX7 10, z ∈ wsL_law := by
  intro z hz
  obtain ⟨k, hk, rfl⟩ := List.mem_map.mp hz
  have hk := List.mem_range.mp hk
  match k, hk with
  | 0, _ => exact tyX7_0
  | 1, _ => exact tyX7_1
  | 2, _ => exact tyX7_2
  | 3, _ => exact tyX7_3
  | 4, _ => exact tyX7_4
  | 5, _ => exact tyX7_5
  | 6, _ => exact tyX7_6
  | 7, _ => exact tyX7_7
  | 8, _ => exact tyX7_8
  | 9, _ => exact tyX7_9
  | k + 10, hk => omega
/-- a ship: row 0 its numbers by their slots, rows 1 to 6 its int arrays in the order of the fields; beside them what was read -/
abbrev vH : Type := (Nat → Nat → Int32) × (Nat → UInt32)
def wS (q : Nat → Nat) (cI cF : ClassId) (u : vH) : va_W := [(q 0, .inr (5, [.int (u.1 0 0), .ref (q 1), .ref (q 2), .ref (q 3), .ref (q 4), .int (u.1 0 5), .int (u.1 0 6), .int (u.1 0 7), .ref (q 5), .ref (q 6), .ref (q 7), .int (u.1 0 11), .int (u.1 0 12), .int (u.1 0 13), .int (u.1 0 14)])), (q 1, .inl (cI, 8, .inl (u.1 1))), (q 2, .inl (cI, 8, .inl (u.1 2))), (q 3, .inl (cI, 8, .inl (u.1 3))), (q 4, .inl (cI, 4, .inl (u.1 4))), (q 5, .inl (cI, 10, .inl (u.1 5))), (q 6, .inl (cI, 10, .inl (u.1 6))), (q 7, .inl (cF, 10, .inr (.inr (.inl u.2))))]
def wLn (q : Nat → Nat) (cI cC : ClassId) (u : vS) : va_W := [(q 0, .inr (3, [.ref (q 1), .int (u 0 1)])), (q 1, .inl (cC, 140, .inl (u 1)))]
def wRe (q : Nat → Nat) (cI : ClassId) (u : vS) : va_W := [(q 0, .inr (4, [.ref (q 1), .ref (q 2), .int (u 0 2)])), (q 1, .inl (cI, 2, .inl (u 1))), (q 2, .inl (cI, 2, .inl (u 2)))]
abbrev vH2 : Type := vH × vH
def wS2 (q q2 : Nat → Nat) (cI cF : ClassId) (u : vH2) : va_W := wS q cI cF u.1 ++ wS q2 cI cF u.2
abbrev vX : Type := (Nat → Nat → Int32) × (Nat → Option Nat)
def wTx (q ad : Nat → Nat) (cI cC cO : ClassId) (u : vX) : va_W := [(q 0, .inr (6, [.ref (q 1), .int (u.1 0 1), .ref (q 2), .ref (q 3), .ref (q 4), .int (u.1 0 5)])), (q 1, .inl (cC, 60, .inl (u.1 1))), (q 2, .inl (cO, 15, .inr (.inr (.inr (.inr (fun j => (u.2 j).map ad)))))), (q 3, .inl (cI, 15, .inl (u.1 3))), (q 4, .inl (cI, 15, .inl (u.1 4)))]
abbrev vHI : Type := vH × ((Nat → Int32) × (Nat → vH))
def wHi (qs qo : Nat → Nat) (qh : Nat → Nat → Nat) (cI cF cS : ClassId) (u : vHI) : va_W := wS qs cI cF u.1 ++ ([(qo 0, .inr (2, [.ref (qo 1), .int (u.2.1 1), .int (u.2.1 2)])), (qo 1, .inl (cS, 8, .inr (.inr (.inr (.inr (fun j => some (qh j 0)))))))] ++ (wS (qh 0) cI cF (u.2.2 0) ++ (wS (qh 1) cI cF (u.2.2 1) ++ (wS (qh 2) cI cF (u.2.2 2) ++ (wS (qh 3) cI cF (u.2.2 3) ++ (wS (qh 4) cI cF (u.2.2 4) ++ (wS (qh 5) cI cF (u.2.2 5) ++ (wS (qh 6) cI cF (u.2.2 6) ++ (wS (qh 7) cI cF (u.2.2 7))))))))))
abbrev vZ : Type := (Nat → Int32) × (vHI × (vH × (vH × (vS × (vX × vS)))))
def wX (q0 qs qo qt qv qr qx ql ad : Nat → Nat) (qh : Nat → Nat → Nat) (cI cF cC cS cO : ClassId) (u : vZ) : va_W := [(q0 0, .inr (7, [.ref (qs 0), .ref (qt 0), .ref (qv 0), .ref (qo 0), .ref (qr 0), .ref (qx 0), .ref (ql 0), .int (u.1 7), .int (u.1 8), .int (u.1 9)]))] ++ (wHi qs qo qh cI cF cS u.2.1 ++ (wS qt cI cF u.2.2.1 ++ (wS qv cI cF u.2.2.2.1 ++ (wRe qr cI u.2.2.2.2.1 ++ (wTx qx ad cI cC cO u.2.2.2.2.2.1 ++ wLn ql cI cC u.2.2.2.2.2.2)))))

theorem inX3w : ∀ z ∈ u_ws RX3 TX3 2, z ∈ wsL_law := by
  intro z hz
  obtain ⟨k, hk, rfl⟩ := List.mem_map.mp hz
  have hk := List.mem_range.mp hk
  match k, hk with
  | 0, _ => exact tyX3_0
  | 1, _ => exact tyX3_1
  | k + 2, hk => omega
theorem inX4w : ∀ z ∈ u_ws RX4 TX4 3, z ∈ wsL_law := by
  intro z hz
  obtain ⟨k, hk, rfl⟩ := List.mem_map.mp hz
  have hk := List.mem_range.mp hk
  match k, hk with
  | 0, _ => exact tyX4_0
  | 1, _ => exact tyX4_1
  | 2, _ => exact tyX4_2
  | k + 3, hk => omega
theorem inX5w : ∀ z ∈ u_ws RX5 TX5 15, z ∈ wsL_law := by
  intro z hz
  obtain ⟨k, hk, rfl⟩ := List.mem_map.mp hz
  have hk := List.mem_range.mp hk
  match k, hk with
  | 0, _ => exact tyX5_0
  | 1, _ => exact tyX5_1
  | 2, _ => exact tyX5_2
  | 3, _ => exact tyX5_3
  | 4, _ => exact tyX5_4
  | 5, _ => exact tyX5_5
  | 6, _ => exact tyX5_6
  | 7, _ => exact tyX5_7
  | 8, _ => exact tyX5_8
  | 9, _ => exact tyX5_9
  | 10, _ => exact tyX5_10
  | 11, _ => exact tyX5_11
  | 12, _ => exact tyX5_12
  | 13, _ => exact tyX5_13
  | 14, _ => exact tyX5_14
  | k + 15, hk => omega
/-- a ship: row 0 its numbers by their slots, rows 1 to 6 its int arrays in the order of the fields; beside them what was read -/
abbrev vH : Type := (Nat → Nat → Int32) × (Nat → UInt32)
def wS (q : Nat → Nat) (cI cF : ClassId) (u : vH) : va_W := [(q 0, .inr (3, [.int (u.1 0 0), .ref (q 1), .ref (q 2), .ref (q 3), .ref (q 4), .int (u.1 0 5), .int (u.1 0 6), .int (u.1 0 7), .ref (q 5), .ref (q 6), .ref (q 7), .int (u.1 0 11), .int (u.1 0 12), .int (u.1 0 13), .int (u.1 0 14)])), (q 1, .inl (cI, 8, .inl (u.1 1))), (q 2, .inl (cI, 8, .inl (u.1 2))), (q 3, .inl (cI, 8, .inl (u.1 3))), (q 4, .inl (cI, 4, .inl (u.1 4))), (q 5, .inl (cI, 10, .inl (u.1 5))), (q 6, .inl (cI, 10, .inl (u.1 6))), (q 7, .inl (cF, 10, .inr (.inr (.inl u.2))))]
def wLn (q : Nat → Nat) (cI cC : ClassId) (u : vS) : va_W := [(q 0, .inr (1, [.ref (q 1), .int (u 0 1)])), (q 1, .inl (cC, 140, .inl (u 1)))]
def wRe (q : Nat → Nat) (cI : ClassId) (u : vS) : va_W := [(q 0, .inr (2, [.ref (q 1), .ref (q 2), .int (u 0 2)])), (q 1, .inl (cI, 2, .inl (u 1))), (q 2, .inl (cI, 2, .inl (u 2)))]

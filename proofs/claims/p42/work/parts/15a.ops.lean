def mu (a : mA) (r k x : Nat) : mA := fun r' => if r' = r then (fun k' => if k' = k then x else a r k') else a r'
theorem upd_ne {f : Nat → Int32} {k j : Nat} {x : Int32} (h : j ≠ k) : upd f k x j = f j := by
  unfold upd
  rw [if_neg h]
theorem upd_eq {f : Nat → Int32} {k j : Nat} {x : Int32} (h : j = k) : upd f k x j = x := by
  unfold upd
  rw [if_pos h]
theorem updrow {f : Nat → Int32} {g : Nat → Nat} {N k m : Nat} (h : ∀ i, i < N → f i = nI (g i)) : ∀ i, i < N → upd f k (nI m) i = nI (if i = k then m else g i) := by
  intro i hi
  unfold upd
  split
  · rfl
  · exact h i hi
theorem updrow2 {f : Nat → Int32} {g : Nat → Nat} {N c d k m : Nat} (hd : 0 < d) (h : ∀ i, i < N → f (c + d * i) = nI (g i)) : ∀ i, i < N → upd f (c + d * k) (nI m) (c + d * i) = nI (if i = k then m else g i) := by
  intro i hi
  by_cases e : i = k
  · rw [if_pos e, upd_eq (by rw [e])]
  · rw [if_neg e, upd_ne]
    · exact h i hi
    · intro h2
      exact e (Nat.eq_of_mul_eq_mul_left hd (Nat.add_left_cancel h2))
/-- moods, watches, horizons -/
theorem wf_setM {B : Nat} {a : mA} (w : WF B a) {s m : Nat} (hm : m < 65536) : WF B (mu a 1 s m) := by
  refine ⟨w.1, fun i hi => ?_, (wf_z w :), (wf_g w :), (wf_o w :)⟩
  have h := wf_s w i hi
  show (if i = s then m else a 1 i) < 65536 ∧ _
  refine ⟨?_, h.2⟩
  split <;> omega
theorem wf_setW {B : Nat} {a : mA} (w : WF B a) {s m : Nat} (hm : m < 4) : WF B (mu a 3 s m) := by
  refine ⟨w.1, fun i hi => ?_, (wf_z w :), (wf_g w :), (wf_o w :)⟩
  have h := wf_s w i hi
  show _ ∧ _ ∧ (if i = s then m else a 3 i) < 4
  refine ⟨h.1, h.2.1, ?_⟩
  split <;> omega
theorem wf_setZ {B : Nat} {a : mA} (w : WF B a) {s m : Nat} (hm : m ≤ 8) : WF B (mu a 4 s m) := by
  refine ⟨w.1, (wf_s w :), fun i hi => ?_, (wf_g w :), (wf_o w :)⟩
  have h := wf_z w i hi
  show (if i = s then m else a 4 i) ≤ 8
  split <;> omega
theorem wf_setE {B : Nat} {a : mA} (w : WF B a) {m : Nat} (hm : m ≤ 6) : WF B (mu a 0 2 m) := by
  obtain ⟨⟨h1, h2, h3, h4, h5⟩, h6⟩ := w
  exact ⟨⟨h1, h2, h3, hm, h5⟩, h6⟩
def drkM (a : mA) (s c : Nat) : mA := mu (mu a 2 s (a 2 s + c)) 0 5 (a 0 5 + c)
theorem wf_drk {B : Nat} {a : mA} (w : WF B a) {s c : Nat} (hc : a 2 s + c ≤ 9) : WF B (drkM a s c) := by
  refine ⟨w.1, fun i hi => ?_, (wf_z w :), (wf_g w :), (wf_o w :)⟩
  have h := wf_s w i hi
  show _ ∧ (if i = s then a 2 s + c else a 2 i) ≤ 9 ∧ _
  refine ⟨h.1, ?_, h.2.2⟩
  split <;> omega
def comM (a : mA) (m : Nat) : mA := mu (mu (mu (mu a 1 (a 0 0) m) 2 (a 0 0) 0) 3 (a 0 0) 0) 0 0 (a 0 0 + 1)
theorem wf_com {B : Nat} {a : mA} (w : WF B a) {m : Nat} (hm : m < 65536) (h8 : a 0 0 < 8) : WF B (comM a m) := by
  obtain ⟨⟨h1, h2, h3, h4, h5⟩, h6, h7, h9, h10⟩ := w
  refine ⟨⟨h8, h2, h3, h4, h5⟩, fun i hi => ?_, h7, fun k hk => ?_, h10⟩
  · have hi2 : i < a 0 0 + 1 := hi
    show (if i = a 0 0 then m else a 1 i) < 65536 ∧ (if i = a 0 0 then 0 else a 2 i) ≤ 9 ∧ (if i = a 0 0 then 0 else a 3 i) < 4
    by_cases e : i = a 0 0
    · rw [if_pos e, if_pos e, if_pos e]
      omega
    · rw [if_neg e, if_neg e, if_neg e]
      exact h6 i (by omega)
  · have := h9 k hk
    show a 5 k < a 0 0 + 1 ∧ _
    exact ⟨by omega, this.2⟩
section
variable {a : mA} {u : vH} {v : Nat → Int32}
theorem rx_setM (r : RX a u) (s m : Nat) : RX (mu a 1 s m) (up2 u.1 1 s (nI m), u.2) :=
  ⟨r.1, r.2.1, updrow (rx_m r :), (rx_c r :), (rx_w r :), (rx_z r :), (rx_s r :), (rx_t r :), (rx_f r :)⟩
theorem rx_setW (r : RX a u) (s m : Nat) : RX (mu a 3 s m) (up2 u.1 3 s (nI m), u.2) :=
  ⟨r.1, r.2.1, (rx_m r :), (rx_c r :), updrow (rx_w r :), (rx_z r :), (rx_s r :), (rx_t r :), (rx_f r :)⟩
theorem rx_setZ (r : RX a u) (s m : Nat) : RX (mu a 4 s m) (up2 u.1 4 s (nI m), u.2) :=
  ⟨r.1, r.2.1, (rx_m r :), (rx_c r :), (rx_w r :), updrow (rx_z r :), (rx_s r :), (rx_t r :), (rx_f r :)⟩
theorem rx_setE (r : RX a u) (m : Nat) : RX (mu a 0 2 m) (up2 u.1 0 5 (iI ((m : Int) - 3)), u.2) :=
  ⟨⟨(rx_n r :), rfl, (rx_h r :), (rx_l r :)⟩, r.2.1, (rx_m r :), (rx_c r :), (rx_w r :), (rx_z r :), (rx_s r :), (rx_t r :), (rx_f r :)⟩
theorem rx_drk (r : RX a u) (s c : Nat) : RX (drkM a s c) (up2 (up2 u.1 2 s (nI (a 2 s + c))) 0 12 (nI (a 0 5 + c)), u.2) :=
  ⟨r.1, ⟨(rx_k4 r :), rfl, (rx_k6 r :), (rx_k7 r :)⟩, (rx_m r :), updrow (rx_c r :), (rx_w r :), (rx_z r :), (rx_s r :), (rx_t r :), (rx_f r :)⟩
theorem grow {f : Nat → Int32} {g : Nat → Nat} {N m : Nat} (h : ∀ i, i < N → f i = nI (g i)) : ∀ i, i < N + 1 → upd f N (nI m) i = nI (if i = N then m else g i) := by
  intro i hi
  unfold upd
  split
  · rfl
  · exact h i (by omega)
theorem rx_com (r : RX a u) (m : Nat) : RX (comM a m) (up2 (up2 (up2 (up2 u.1 1 (a 0 0) (nI m)) 2 (a 0 0) (nI 0)) 3 (a 0 0) (nI 0)) 0 0 (nI (a 0 0 + 1)), u.2) :=
  ⟨⟨rfl, (rx_e r :), (rx_h r :), (rx_l r :)⟩, r.2.1, grow (rx_m r :), grow (rx_c r :), grow (rx_w r :), (rx_z r :), (rx_s r :), (rx_t r :), (rx_f r :)⟩
end



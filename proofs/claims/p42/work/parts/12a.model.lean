theorem lits : (0 : Int32) = nI 0 ∧ (1 : Int32) = nI 1 ∧ (2 : Int32) = nI 2 ∧ (3 : Int32) = nI 3 ∧ (4 : Int32) = nI 4 ∧ (5 : Int32) = nI 5 ∧ (6 : Int32) = nI 6 ∧ (7 : Int32) = nI 7 ∧ (8 : Int32) = nI 8 ∧ (9 : Int32) = nI 9 ∧ (10 : Int32) = nI 10 ∧ (11 : Int32) = nI 11 ∧ (12 : Int32) = nI 12 ∧ (13 : Int32) = nI 13 ∧ (14 : Int32) = nI 14 ∧ (15 : Int32) = nI 15 ∧ (16 : Int32) = nI 16 ∧ (17 : Int32) = nI 17 ∧ (18 : Int32) = nI 18 ∧ (23 : Int32) = nI 23 ∧ (25 : Int32) = nI 25 ∧ (26 : Int32) = nI 26 ∧ (31 : Int32) = nI 31 ∧ (32 : Int32) = nI 32 ∧ (36 : Int32) = nI 36 ∧ (39 : Int32) = nI 39 ∧ (40 : Int32) = nI 40 ∧ (41 : Int32) = nI 41 ∧ (42 : Int32) = nI 42 ∧ (44 : Int32) = nI 44 ∧ (45 : Int32) = nI 45 ∧ (48 : Int32) = nI 48 ∧ (50 : Int32) = nI 50 ∧ (57 : Int32) = nI 57 ∧ (58 : Int32) = nI 58 ∧ (59 : Int32) = nI 59 ∧ (60 : Int32) = nI 60 ∧ (62 : Int32) = nI 62 ∧ (63 : Int32) = nI 63 ∧ (64 : Int32) = nI 64 ∧ (65 : Int32) = nI 65 ∧ (66 : Int32) = nI 66 ∧ (86 : Int32) = nI 86 ∧ (87 : Int32) = nI 87 ∧ (88 : Int32) = nI 88 ∧ (97 : Int32) = nI 97 ∧ (102 : Int32) = nI 102 ∧ (126 : Int32) = nI 126 ∧ (127 : Int32) = nI 127 ∧ (140 : Int32) = nI 140 ∧ (254 : Int32) = nI 254 ∧ (255 : Int32) = nI 255 ∧ (462 : Int32) = nI 462 ∧ (528 : Int32) = nI 528 ∧ (65280 : Int32) = nI 65280 ∧ (65535 : Int32) = nI 65535 ∧ (100001 : Int32) = nI 100001 ∧ (100002 : Int32) = nI 100002 ∧ (100003 : Int32) = nI 100003 ∧ (100004 : Int32) = nI 100004 ∧ (100005 : Int32) = nI 100005 ∧ (100006 : Int32) = nI 100006 ∧ (252645135 : Int32) = nI 252645135 ∧ (858993459 : Int32) = nI 858993459 ∧ (1431655765 : Int32) = nI 1431655765 ∧ (2143289344 : Int32) = nI 2143289344 := ⟨rfl, rfl, rfl, rfl, rfl, rfl, rfl, rfl, rfl, rfl, rfl, rfl, rfl, rfl, rfl, rfl, rfl, rfl, rfl, rfl, rfl, rfl, rfl, rfl, rfl, rfl, rfl, rfl, rfl, rfl, rfl, rfl, rfl, rfl, rfl, rfl, rfl, rfl, rfl, rfl, rfl, rfl, rfl, rfl, rfl, rfl, rfl, rfl, rfl, rfl, rfl, rfl, rfl, rfl, rfl, rfl, rfl, rfl, rfl, rfl, rfl, rfl, rfl, rfl, rfl, rfl⟩
theorem obp_some {α β γ : Type} (a : α) (b : β) (f : α → β → Option γ) : obp (some (a, b)) f = f a b := rfl
theorem leF {n i : Nat} (h : i < n) : (n ≤ i) ↔ False := ⟨fun h2 => absurd h (Nat.not_lt.mpr h2), False.elim⟩
theorem leT {n i : Nat} (h : n ≤ i) : (n ≤ i) ↔ True := ⟨fun _ => trivial, fun _ => h⟩
theorem ltF {n i : Nat} (h : i ≤ n) : (n < i) ↔ False := ⟨fun h2 => absurd h2 (Nat.not_lt.mpr h), False.elim⟩
theorem ltT {n i : Nat} (h : n < i) : (n < i) ↔ True := ⟨fun _ => trivial, fun _ => h⟩
theorem eqF {n i : Nat} (h : n ≠ i) : (n = i) ↔ False := ⟨fun h2 => h h2, False.elim⟩
theorem eqT {n i : Nat} (h : n = i) : (n = i) ↔ True := ⟨fun _ => trivial, fun _ => h⟩
/-- the state that both sides hold: row 0 the hour and so on, rows 1 to 3 the sailors, 4 the horizons, 5 to 7 the log -/
abbrev mA : Type := Nat → Nat → Nat
def WF (B : Nat) (a : mA) : Prop := (a 0 0 ≤ 8 ∧ a 0 3 ≤ 10 ∧ a 0 1 ≤ B ∧ a 0 2 ≤ 6 ∧ B < 1000000000) ∧ (∀ i, i < a 0 0 → a 1 i < 65536 ∧ a 2 i ≤ 9 ∧ a 3 i < 4) ∧ (∀ w, w < 4 → a 4 w ≤ 8) ∧ (∀ k, k < a 0 3 → a 5 k < a 0 0 ∧ a 6 k ≤ a 0 1 ∧ a 7 k < 88) ∧ (∀ k, k + 1 < a 0 3 → a 6 (k + 1) ≤ a 6 k)
theorem wf_n {B : Nat} {a : mA} (h : WF B a) : a 0 0 ≤ 8 := h.1.1
theorem wf_l {B : Nat} {a : mA} (h : WF B a) : a 0 3 ≤ 10 := h.1.2.1
theorem wf_h {B : Nat} {a : mA} (h : WF B a) : a 0 1 ≤ B ∧ B < 1000000000 := ⟨h.1.2.2.1, h.1.2.2.2.2⟩
theorem wf_e {B : Nat} {a : mA} (h : WF B a) : a 0 2 ≤ 6 := h.1.2.2.2.1
theorem wf_s {B : Nat} {a : mA} (h : WF B a) : ∀ i, i < a 0 0 → a 1 i < 65536 ∧ a 2 i ≤ 9 ∧ a 3 i < 4 := h.2.1
theorem wf_z {B : Nat} {a : mA} (h : WF B a) : ∀ w, w < 4 → a 4 w ≤ 8 := h.2.2.1
theorem wf_g {B : Nat} {a : mA} (h : WF B a) : ∀ k, k < a 0 3 → a 5 k < a 0 0 ∧ a 6 k ≤ a 0 1 ∧ a 7 k < 88 := h.2.2.2.1
theorem wf_o {B : Nat} {a : mA} (h : WF B a) : ∀ k, k + 1 < a 0 3 → a 6 (k + 1) ≤ a 6 k := h.2.2.2.2
/-- how a ship holds it -/
def RX (a : mA) (u : vH) : Prop := (u.1 0 0 = nI (a 0 0) ∧ u.1 0 5 = iI ((a 0 2 : Int) - 3) ∧ u.1 0 6 = nI (a 0 1) ∧ u.1 0 7 = nI (a 0 3)) ∧ (u.1 0 11 = nI (a 0 4) ∧ u.1 0 12 = nI (a 0 5) ∧ u.1 0 13 = nI (a 0 6) ∧ u.1 0 14 = nI (a 0 7)) ∧ (∀ i, i < a 0 0 → u.1 1 i = nI (a 1 i)) ∧ (∀ i, i < a 0 0 → u.1 2 i = nI (a 2 i)) ∧ (∀ i, i < a 0 0 → u.1 3 i = nI (a 3 i)) ∧ (∀ w, w < 4 → u.1 4 w = nI (a 4 w)) ∧ (∀ k, k < a 0 3 → u.1 5 k = nI (a 5 k)) ∧ (∀ k, k < a 0 3 → u.1 6 k = nI (a 6 k)) ∧ (∀ k, k < a 0 3 → u.2 k = fe (a 7 k))
theorem rx_n {a : mA} {u : vH} (r : RX a u) : u.1 0 0 = nI (a 0 0) := r.1.1
theorem rx_e {a : mA} {u : vH} (r : RX a u) : u.1 0 5 = iI ((a 0 2 : Int) - 3) := r.1.2.1
theorem rx_h {a : mA} {u : vH} (r : RX a u) : u.1 0 6 = nI (a 0 1) := r.1.2.2.1
theorem rx_l {a : mA} {u : vH} (r : RX a u) : u.1 0 7 = nI (a 0 3) := r.1.2.2.2
theorem rx_k4 {a : mA} {u : vH} (r : RX a u) : u.1 0 11 = nI (a 0 4) := r.2.1.1
theorem rx_k5 {a : mA} {u : vH} (r : RX a u) : u.1 0 12 = nI (a 0 5) := r.2.1.2.1
theorem rx_k6 {a : mA} {u : vH} (r : RX a u) : u.1 0 13 = nI (a 0 6) := r.2.1.2.2.1
theorem rx_k7 {a : mA} {u : vH} (r : RX a u) : u.1 0 14 = nI (a 0 7) := r.2.1.2.2.2
theorem rx_m {a : mA} {u : vH} (r : RX a u) : ∀ i, i < a 0 0 → u.1 1 i = nI (a 1 i) := r.2.2.1
theorem rx_c {a : mA} {u : vH} (r : RX a u) : ∀ i, i < a 0 0 → u.1 2 i = nI (a 2 i) := r.2.2.2.1
theorem rx_w {a : mA} {u : vH} (r : RX a u) : ∀ i, i < a 0 0 → u.1 3 i = nI (a 3 i) := r.2.2.2.2.1
theorem rx_z {a : mA} {u : vH} (r : RX a u) : ∀ w, w < 4 → u.1 4 w = nI (a 4 w) := r.2.2.2.2.2.1
theorem rx_s {a : mA} {u : vH} (r : RX a u) : ∀ k, k < a 0 3 → u.1 5 k = nI (a 5 k) := r.2.2.2.2.2.2.1
theorem rx_t {a : mA} {u : vH} (r : RX a u) : ∀ k, k < a 0 3 → u.1 6 k = nI (a 6 k) := r.2.2.2.2.2.2.2.1
theorem rx_f {a : mA} {u : vH} (r : RX a u) : ∀ k, k < a 0 3 → u.2 k = fe (a 7 k) := r.2.2.2.2.2.2.2.2
/-- a loop that goes from 0 to N -/
theorem loop_to {R : Type} {F : Nat → Nat → Option R} (N : Nat) {r : Option R} (hN : N < 1000) (hs : ∀ n i, i < N → F (n + 1) i = F n (i + 1)) (he : ∀ n, F (n + 1) N = r) : F vF 0 = r := by
  have h : ∀ k i n, i + k = N → k < n → F n i = r := by
    intro k
    induction k with
    | zero =>
      intro i n h1 h2
      obtain ⟨n, rfl⟩ : ∃ m, n = m + 1 := ⟨n - 1, by omega⟩
      have : i = N := by omega
      subst this
      exact he n
    | succ k ih =>
      intro i n h1 h2
      obtain ⟨n, rfl⟩ : ∃ m, n = m + 1 := ⟨n - 1, by omega⟩
      rw [hs n i (by omega)]
      exact ih (i + 1) n (by omega) (by omega)
  exact h N 0 vF (by omega) hN
def sumN : Nat → (Nat → Nat) → Nat
  | 0, _ => 0
  | n + 1, g => sumN n g + g n
def sumZ : Nat → (Nat → Int) → Int
  | 0, _ => 0
  | n + 1, g => sumZ n g + g n


theorem gs_1 {b : Int32} (hb : ¬ b = 0) {q n4 : Nat} {g : Nat → Int32} (h : q < n4) (hn : n4 < 2 ^ 31) : hf_J6_getChars_ba4f3_104 (nI (q + 1)) b n4 g = some (nI q, n4, upd g q (sb_b 45)) := by
  have e1 : nI (q + 1) + (-1) = nI q := by
    rw [gc_dec (p := q + 1) (Nat.succ_pos q), Nat.add_sub_cancel]
  rw [hf_J6_getChars_ba4f3_104, if_neg hb, bdE, e1, if_neg (nI_in h hn), nI_clamp (Nat.lt_trans h hn), vn_45, bdE]

/-! new objects: the class -/
set_option maxRecDepth 100000

theorem kz_16 : ¬ ((16 : Int32) < 0) ∧ (16 : Int32).toNatClampNeg = 16 := by decide
theorem kz_64 : ¬ ((64 : Int32) < 0) ∧ (64 : Int32).toNatClampNeg = 64 := by decide
theorem kz_256 : ¬ ((256 : Int32) < 0) ∧ (256 : Int32).toNatClampNeg = 256 := by decide
theorem kz_60 : ¬ ((60 : Int32) < 0) ∧ (60 : Int32).toNatClampNeg = 60 := by decide
theorem kz_4 : ¬ ((4 : Int32) < 0) ∧ (4 : Int32).toNatClampNeg = 4 := by decide
theorem kz_768 : ¬ ((768 : Int32) < 0) ∧ (768 : Int32).toNatClampNeg = 768 := by decide
theorem kz_16384 : ¬ ((16384 : Int32) < 0) ∧ (16384 : Int32).toNatClampNeg = 16384 := by decide
theorem kz_128 : ¬ ((128 : Int32) < 0) ∧ (128 : Int32).toNatClampNeg = 128 := by decide
theorem kz_4096 : ¬ ((4096 : Int32) < 0) ∧ (4096 : Int32).toNatClampNeg = 4096 := by decide
theorem kz_2048 : ¬ ((2048 : Int32) < 0) ∧ (2048 : Int32).toNatClampNeg = 2048 := by decide
theorem kz_122880 : ¬ ((122880 : Int32) < 0) ∧ (122880 : Int32).toNatClampNeg = 122880 := by decide
def ar (h : gi_H) (x f t n : Nat) : gi_H := gi_pR (gi_new h t n n) x f (some (gi_n h))
theorem n_ar {h : gi_H} {x f t n : Nat} : gi_n (ar h x f t n) = gi_n h + 1 := rfl
theorem ar_e {h : gi_H} {x f t n : Nat} : gi_pR (gi_new h t n n) x f (some (gi_n h)) = ar h x f t n := rfl
theorem c_ar {h : gi_H} {x f t n b : Nat} : gi_c (ar h x f t n) b = if b = gi_n h then (t, n) else gi_c h b := rfl
theorem R_ar {h : gi_H} {x f t n b j : Nat} : gi_R (ar h x f t n) b j = if b = x ∧ j = f then some (gi_n h) else if b = gi_n h then none else gi_R h b j := rfl
def flI (h : gi_H) (a m : Nat) (f : Nat → Int32) : gi_H := wI h (fun b j => if b = a ∧ j < m then f j else gi_I h b j)
theorem fl_0 {h : gi_H} {a : Nat} {f : Nat → Int32} : flI h a 0 f = h := gi_ext (fun _ => rfl) (fun x j => if_neg (by omega)) (fun _ _ => rfl) rfl rfl
theorem fl_s {h : gi_H} {a m : Nat} {f : Nat → Int32} : gi_pI (flI h a m f) a m (f m) = flI h a (m + 1) f := by
  refine gi_ext (fun _ => rfl) (fun x j => ?_) (fun _ _ => rfl) rfl rfl
  show (if x = a ∧ j = m then f m else if x = a ∧ j < m then f j else gi_I h x j) = if x = a ∧ j < m + 1 then f j else gi_I h x j
  by_cases w : x = a ∧ j = m
  · rw [if_pos w, if_pos (by omega), w.2]
  · rw [if_neg w]
    by_cases w2 : x = a ∧ j < m
    · rw [if_pos w2, if_pos (by omega)]
    · rw [if_neg w2, if_neg (by omega)]
def QH (g : gi_H) (m : Nat) : gi_H := (fun b => if 11 ≤ b ∧ b < 11 + m then (4, 0) else gi_c g b, fun b j => if 11 ≤ b ∧ b < 11 + m then (if j = 1 ∨ j = 2 ∨ j = 3 then -1 else 0) else gi_I g b j, fun b j => if b = 9 ∧ j < m then some (11 + j) else if 11 ≤ b ∧ b < 11 + m then none else gi_R g b j, gi_n g + m, gi_u g + 4 * m)
theorem c_QH {g : gi_H} {m b : Nat} : gi_c (QH g m) b = if 11 ≤ b ∧ b < 11 + m then (4, 0) else gi_c g b := rfl
theorem R_QH {g : gi_H} {m b j : Nat} : gi_R (QH g m) b j = if b = 9 ∧ j < m then some (11 + j) else if 11 ≤ b ∧ b < 11 + m then none else gi_R g b j := rfl
theorem I_QH {g : gi_H} {m b j : Nat} : gi_I (QH g m) b j = if 11 ≤ b ∧ b < 11 + m then (if j = 1 ∨ j = 2 ∨ j = 3 then -1 else 0) else gi_I g b j := rfl
theorem n_QH {g : gi_H} {m : Nat} : gi_n (QH g m) = gi_n g + m := rfl
theorem c_2 {d x : Nat} {h : gi_H} {Q : gi_P} (t : gi_tag h (some x) = 2) (hx : x < gi_n h) : gi_cx (d + 1) 2 [.inr (.inr (some x))] h Q ↔ Q none (ar h x 0 104 256) := by
  refine gi_cx_iff ?_ Q
  have q : (x = gi_n h) = False := eq_false (by omega)
  rw [tag_s] at t
  simp only [e2, x2_0, x2_1, x2_4, x2_5, x2_8, x2_11, x2_14, ldR_0, I_pI, R_pI, c_pI, n_pI, u_pI, t_pI, l_pI, I_pR, R_pR, c_pR, n_pR, u_pR, t_pR, l_pR, get_s, Option.toList, List.nil_append, List.cons_append, List.length_nil, List.length_cons, gi_B, true_and, and_true, false_and, and_false, not_true_eq_false, not_false_eq_true, true_implies, false_implies, implies_true, Classical.not_not, ite_true, ite_false, Option.some.injEq, Sum.inl.injEq, exists_eq', eq_self, true_or, or_true, false_or, or_false, Nat.reduceEqDiff, Nat.reduceLeDiff, Nat.reduceAdd, Nat.zero_le, one_ne0, if_neg one_ne0', lt_102_103, lt_102_104, lt_102_105, lt_102_106, lt_99_107, lt_100_107, lt_101_107, lt_103_107, lt_104_107, lt_105_107, lt_106_107, lt_98_99, lt_98_100, lt_98_101, lt_98_106, kz_16.1, kz_16.2, kz_64.1, kz_64.2, kz_256.1, kz_256.2, kz_60.1, kz_60.2, kz_4.1, kz_4.2, kz_768.1, kz_768.2, kz_16384.1, kz_16384.2, kz_128.1, kz_128.2, kz_4096.1, kz_4096.2, kz_2048.1, kz_2048.2, kz_122880.1, kz_122880.2, tag_s, c_new, q, t]
  exact rfl
theorem c_4 {d x : Nat} {h : gi_H} {Q : gi_P} (t : gi_tag h (some x) = 4) : gi_cx (d + 1) 4 [.inr (.inr (some x))] h Q ↔ Q none (gi_pI (gi_pI (gi_pI h x 1 (-1)) x 2 (-1)) x 3 (-1)) := by
  refine gi_cx_iff ?_ Q
  simp only [e4, x4_0, x4_1, x4_4, x4_5, x4_6, x4_9, x4_10, x4_11, x4_14, x4_15, x4_16, x4_19, ldR_0, I_pI, R_pI, c_pI, n_pI, u_pI, t_pI, l_pI, I_pR, R_pR, c_pR, n_pR, u_pR, t_pR, l_pR, get_s, Option.toList, List.nil_append, List.cons_append, List.length_nil, List.length_cons, gi_B, true_and, and_true, false_and, and_false, not_true_eq_false, not_false_eq_true, true_implies, false_implies, implies_true, Classical.not_not, ite_true, ite_false, Option.some.injEq, Sum.inl.injEq, exists_eq', eq_self, true_or, or_true, false_or, or_false, Nat.reduceEqDiff, Nat.reduceLeDiff, Nat.reduceAdd, Nat.zero_le, one_ne0, if_neg one_ne0', lt_102_103, lt_102_104, lt_102_105, lt_102_106, lt_99_107, lt_100_107, lt_101_107, lt_103_107, lt_104_107, lt_105_107, lt_106_107, lt_98_99, lt_98_100, lt_98_101, lt_98_106, t]
theorem QH_s {g : gi_H} {m : Nat} (n11 : gi_n g = 11) (hm : m < 64) : gi_pR (gi_pI (gi_pI (gi_pI (gi_new (QH g m) 4 0 4) (11 + m) 1 (-1)) (11 + m) 2 (-1)) (11 + m) 3 (-1)) 9 m (some (11 + m)) = QH g (m + 1) := by
  refine gi_ext (fun x => ?_) (fun x j => ?_) (fun x j => ?_) ?_ ?_
  · show (if x = gi_n g + m then (4, 0) else if 11 ≤ x ∧ x < 11 + m then (4, 0) else gi_c g x) = if 11 ≤ x ∧ x < 11 + (m + 1) then (4, 0) else gi_c g x
    rw [n11]
    by_cases w : x = 11 + m
    · rw [if_pos w, if_pos (by omega)]
    · rw [if_neg w]
      by_cases w2 : 11 ≤ x ∧ x < 11 + m
      · rw [if_pos w2, if_pos (by omega)]
      · rw [if_neg w2, if_neg (by omega)]
  · show (if x = 11 + m ∧ j = 3 then -1 else if x = 11 + m ∧ j = 2 then -1 else if x = 11 + m ∧ j = 1 then -1 else if x = gi_n g + m then 0 else if 11 ≤ x ∧ x < 11 + m then (if j = 1 ∨ j = 2 ∨ j = 3 then -1 else 0) else gi_I g x j) = if 11 ≤ x ∧ x < 11 + (m + 1) then (if j = 1 ∨ j = 2 ∨ j = 3 then -1 else 0) else gi_I g x j
    rw [n11]
    by_cases w : x = 11 + m
    · rw [if_pos (show 11 ≤ x ∧ x < 11 + (m + 1) by omega)]
      by_cases w3 : j = 3
      · rw [if_pos ⟨w, w3⟩, if_pos (by omega)]
      · rw [if_neg (by omega)]
        by_cases w2 : j = 2
        · rw [if_pos ⟨w, w2⟩, if_pos (by omega)]
        · rw [if_neg (by omega)]
          by_cases w1 : j = 1
          · rw [if_pos ⟨w, w1⟩, if_pos (by omega)]
          · rw [if_neg (by omega), if_pos w, if_neg (by omega)]
    · rw [if_neg (by omega), if_neg (by omega), if_neg (by omega), if_neg w]
      by_cases w2 : 11 ≤ x ∧ x < 11 + m
      · rw [if_pos w2, if_pos (show 11 ≤ x ∧ x < 11 + (m + 1) by omega)]
      · rw [if_neg w2, if_neg (show ¬ (11 ≤ x ∧ x < 11 + (m + 1)) by omega)]
  · show (if x = 9 ∧ j = m then some (11 + m) else if x = gi_n g + m then none else if x = 9 ∧ j < m then some (11 + j) else if 11 ≤ x ∧ x < 11 + m then none else gi_R g x j) = if x = 9 ∧ j < m + 1 then some (11 + j) else if 11 ≤ x ∧ x < 11 + (m + 1) then none else gi_R g x j
    rw [n11]
    by_cases w : x = 9 ∧ j = m
    · rw [if_pos w, if_pos (by omega), w.2]
    · rw [if_neg w]
      by_cases w2 : x = 11 + m
      · rw [if_pos w2, if_neg (by omega), if_pos (by omega)]
      · rw [if_neg w2]
        by_cases w3 : x = 9 ∧ j < m
        · rw [if_pos w3, if_pos (by omega)]
        · rw [if_neg w3, if_neg (show ¬ (x = 9 ∧ j < m + 1) by omega)]
          by_cases w4 : 11 ≤ x ∧ x < 11 + m
          · rw [if_pos w4, if_pos (by omega)]
          · rw [if_neg w4, if_neg (by omega)]
  · show gi_n g + m + 1 = gi_n g + (m + 1)
    omega
  · show gi_u g + 4 * m + 4 = gi_u g + 4 * (m + 1)
    omega
theorem lp_3 {d : Nat} {g : gi_H} {Q : gi_P} (n11 : gi_n g = 11) (t8 : gi_tag g (some 8) = 3) (r8 : gi_R g 8 1 = some 9) (t9 : gi_tag g (some 9) = 105) (l9 : gi_len g (some 9) = 64) (nx : Q none (QH g 64)) : ∀ r m, m + r = 64 → gi_ex (gi_cx (d + 1)) 3 Q 22 [some (.inr (.inr (some 8))), some (.inl (nI m))] [] (QH g m) := by
  intro r
  induction r with
  | zero =>
    intro m hm
    obtain rfl : m = 64 := by omega
    have a1 : gi_tag (QH g 64) (some 8) = 3 := by rw [← t8]; rfl
    have a2 : gi_R (QH g 64) 8 1 = some 9 := by rw [← r8]; rfl
    have a3 : gi_tag (QH g 64) (some 9) = 105 := by rw [← t9]; rfl
    have a4 : gi_len (QH g 64) (some 9) = 64 := by rw [← l9]; rfl
    have q1 : (nI 64 ≤ nI 64) = True := eq_true (Int32.le_refl _)
    have q2 : ((98 : Nat) < 105) = True := by decide
    rw [x3_22]
    simp only [x3_23, x3_24, x3_27, x3_28, x3_31, x3_32, x3_35, x3_36, x3_39, x3_40, x3_43, x3_44, x3_47, x3_50, inc_1i, inc_1n, inc_1r, ldI_1, ldR_0, I_pI, R_pI, c_pI, n_pI, u_pI, t_pI, l_pI, I_pR, R_pR, c_pR, n_pR, u_pR, t_pR, l_pR, get_s, Option.toList, List.nil_append, List.cons_append, List.length_nil, List.length_cons, gi_B, true_and, and_true, false_and, and_false, not_true_eq_false, not_false_eq_true, true_implies, false_implies, implies_true, Classical.not_not, ite_true, ite_false, Option.some.injEq, Sum.inl.injEq, exists_eq', eq_self, true_or, or_true, false_or, or_false, Nat.reduceEqDiff, Nat.reduceLeDiff, Nat.reduceAdd, Nat.zero_le, one_ne0, if_neg one_ne0', lt_102_103, lt_102_104, lt_102_105, lt_102_106, lt_99_107, lt_100_107, lt_101_107, lt_103_107, lt_104_107, lt_105_107, lt_106_107, lt_98_99, lt_98_100, lt_98_101, lt_98_106, a1, a2, a3, a4, q1, q2, nI_of_len]
    exact nx
  | succ r ih =>
    intro m hm
    have a1 : gi_tag (QH g m) (some 8) = 3 := by
      rw [tag_s, c_QH, if_neg (by omega)]; exact t8
    have a2 : gi_R (QH g m) 8 1 = some 9 := by
      rw [R_QH, if_neg (by omega), if_neg (by omega)]; exact r8
    have a34 : gi_c (QH g m) 9 = gi_c g 9 := by
      rw [c_QH, if_neg (by omega)]
    have a3 : gi_tag (QH g m) (some 9) = 105 := by rw [tag_s, a34]; exact t9
    have a4 : gi_len (QH g m) (some 9) = 64 := by rw [len_s, a34]; exact l9
    have nq : gi_n (QH g m) = 11 + m := by show gi_n g + m = _; omega
    have q1 : (nI 64 ≤ nI m) = False := eq_false (by rw [i32_le, nI_toInt (by omega), nI_toInt (by omega)]; omega)
    have q2 : ((98 : Nat) < 105) = True := by decide
    have q3 : ((102 : Nat) < 105) = True := by decide
    have e1 : vp_in (nI m) 64 = True := eq_true (vp_in_nI (by omega) (by omega))
    have e2 : (nI m).toNatClampNeg = m := nI_clamp (by omega)
    have u1 : ∀ t n u, gi_tag (gi_new (QH g m) t n u) (some 8) = 3 := fun t n u => by rw [tag_s, c_new, nq, if_neg (by omega)]; exact a1
    have u2 : ∀ t n u, gi_tag (gi_new (QH g m) t n u) (some 9) = 105 := fun t n u => by rw [tag_s, c_new, nq, if_neg (by omega)]; exact a3
    have u3 : ∀ t n u, gi_len (gi_new (QH g m) t n u) (some 9) = 64 := fun t n u => by rw [len_s, c_new, nq, if_neg (by omega)]; exact a4
    have u4 : gi_tag (gi_new (QH g m) 4 0 4) (some (11 + m)) = 4 := by rw [tag_s, c_new, nq, if_pos rfl]
    have c4 := fun {d : Nat} {Q : gi_P} => c_4 (d := d) (Q := Q) u4
    have q4 : (gi_comp.getD (105 - 100) 50 + 1 = 4) = True := by decide
    have q5 : ((4 : Nat) = gi_comp.getD (105 - 100) 50 + 1) = True := by decide
    rw [x3_22]
    simp only [x3_23, x3_24, x3_27, x3_28, x3_31, x3_32, x3_35, x3_36, x3_39, x3_40, x3_43, x3_44, x3_47, x3_50, inc_1i, inc_1n, inc_1r, ldI_1, ldR_0, I_pI, R_pI, c_pI, n_pI, u_pI, t_pI, l_pI, I_pR, R_pR, c_pR, n_pR, u_pR, t_pR, l_pR, get_s, Option.toList, List.nil_append, List.cons_append, List.length_nil, List.length_cons, gi_B, true_and, and_true, false_and, and_false, not_true_eq_false, not_false_eq_true, true_implies, false_implies, implies_true, Classical.not_not, ite_true, ite_false, Option.some.injEq, Sum.inl.injEq, exists_eq', eq_self, true_or, or_true, false_or, or_false, Nat.reduceEqDiff, Nat.reduceLeDiff, Nat.reduceAdd, Nat.zero_le, one_ne0, if_neg one_ne0', lt_102_103, lt_102_104, lt_102_105, lt_102_106, lt_99_107, lt_100_107, lt_101_107, lt_103_107, lt_104_107, lt_105_107, lt_106_107, lt_98_99, lt_98_100, lt_98_101, lt_98_106, a1, a2, a3, a4, q1, q2, q3, nI_of_len, nq, u1, u2, u3, u4, e1, e2, c4, q5, QH_s n11 (show m < 64 by omega), nI_i1]
    exact ih (m + 1) (by omega)

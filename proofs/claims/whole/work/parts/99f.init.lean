/-! new objects: the model -/
set_option maxRecDepth 100000

theorem lp_96_247 {d : Nat} {h : gi_H} {Q : gi_P} (t1 : gi_tag h (some 79) = 9) (r1 : gi_R h 79 1 = some 80) (t2 : gi_tag h (some 80) = 100) (l2 : gi_len h (some 80) = 16) (nx : gi_ex (gi_cx d) 96 Q 266 [some (.inr (.inr (some 79))), some (.inl (nI 16))] [] (flI h 80 16 nI)) : ∀ r m, m + r = 16 → gi_ex (gi_cx d) 96 Q 247 [some (.inr (.inr (some 79))), some (.inl (nI m))] [] (flI h 80 m nI) := by
  intro r
  induction r with
  | zero =>
    intro m hm
    obtain rfl : m = 16 := by omega
    have q1 : ((16 : Int32) ≤ nI 16) = True := eq_true (Int32.le_refl _)
    rw [x96_247]
    simp only [x96_248, x96_250, x96_253, x96_254, x96_257, x96_258, x96_259, x96_260, x96_263, inc_1i, inc_1n, inc_1r, ldI_1, ldR_0, I_pI, R_pI, c_pI, n_pI, u_pI, t_pI, l_pI, I_pR, R_pR, c_pR, n_pR, u_pR, t_pR, l_pR, get_s, Option.toList, List.nil_append, List.cons_append, List.length_nil, List.length_cons, gi_B, true_and, and_true, false_and, and_false, not_true_eq_false, not_false_eq_true, true_implies, false_implies, implies_true, Classical.not_not, ite_true, ite_false, Option.some.injEq, Sum.inl.injEq, exists_eq', eq_self, true_or, or_true, false_or, or_false, Nat.reduceEqDiff, Nat.reduceLeDiff, Nat.reduceAdd, Nat.zero_le, one_ne0, if_neg one_ne0', lt_102_103, lt_102_104, lt_102_105, lt_102_106, lt_99_107, lt_100_107, lt_101_107, lt_103_107, lt_104_107, lt_105_107, lt_106_107, lt_98_99, lt_98_100, lt_98_101, lt_98_106, q1]
    exact nx
  | succ r ih =>
    intro m hm
    have q1 : ((16 : Int32) ≤ nI m) = False := eq_false (by rw [show (16 : Int32) = nI 16 from rfl, i32_le, nI_toInt (by omega), nI_toInt (by omega)]; omega)
    have e1 : vp_in (nI m) 16 = True := eq_true (vp_in_nI (by omega) (by omega))
    have e2 : (nI m).toNatClampNeg = m := nI_clamp (by omega)
    have fs := fl_s (h := h) (a := 80) (m := m) (f := nI)
    rw [x96_247]
    simp only [x96_248, x96_250, x96_253, x96_254, x96_257, x96_258, x96_259, x96_260, x96_263, inc_1i, inc_1n, inc_1r, ldI_1, ldR_0, I_pI, R_pI, c_pI, n_pI, u_pI, t_pI, l_pI, I_pR, R_pR, c_pR, n_pR, u_pR, t_pR, l_pR, get_s, Option.toList, List.nil_append, List.cons_append, List.length_nil, List.length_cons, gi_B, true_and, and_true, false_and, and_false, not_true_eq_false, not_false_eq_true, true_implies, false_implies, implies_true, Classical.not_not, ite_true, ite_false, Option.some.injEq, Sum.inl.injEq, exists_eq', eq_self, true_or, or_true, false_or, or_false, Nat.reduceEqDiff, Nat.reduceLeDiff, Nat.reduceAdd, Nat.zero_le, one_ne0, if_neg one_ne0', lt_102_103, lt_102_104, lt_102_105, lt_102_106, lt_99_107, lt_100_107, lt_101_107, lt_103_107, lt_104_107, lt_105_107, lt_106_107, lt_98_99, lt_98_100, lt_98_101, lt_98_106, q1, t_fl, l_fl, R_fl, t1, r1, t2, l2, e1, e2, fs, nI_i1]
    exact ih (m + 1) (by omega)
theorem lp_96_310 {d : Nat} {h : gi_H} {Q : gi_P} (t1 : gi_tag h (some 79) = 9) (r1 : gi_R h 79 10 = some 89) (t2 : gi_tag h (some 89) = 100) (l2 : gi_len h (some 89) = 768) (nx : gi_ex (gi_cx d) 96 Q 330 [some (.inr (.inr (some 79))), some (.inl (nI 768))] [] (flI h 89 768 (fun _ => -1))) : ∀ r m, m + r = 768 → gi_ex (gi_cx d) 96 Q 310 [some (.inr (.inr (some 79))), some (.inl (nI m))] [] (flI h 89 m (fun _ => -1)) := by
  intro r
  induction r with
  | zero =>
    intro m hm
    obtain rfl : m = 768 := by omega
    have q1 : ((768 : Int32) ≤ nI 768) = True := eq_true (Int32.le_refl _)
    rw [x96_310]
    simp only [x96_311, x96_314, x96_317, x96_318, x96_321, x96_322, x96_323, x96_324, x96_327, inc_1i, inc_1n, inc_1r, ldI_1, ldR_0, I_pI, R_pI, c_pI, n_pI, u_pI, t_pI, l_pI, I_pR, R_pR, c_pR, n_pR, u_pR, t_pR, l_pR, get_s, Option.toList, List.nil_append, List.cons_append, List.length_nil, List.length_cons, gi_B, true_and, and_true, false_and, and_false, not_true_eq_false, not_false_eq_true, true_implies, false_implies, implies_true, Classical.not_not, ite_true, ite_false, Option.some.injEq, Sum.inl.injEq, exists_eq', eq_self, true_or, or_true, false_or, or_false, Nat.reduceEqDiff, Nat.reduceLeDiff, Nat.reduceAdd, Nat.zero_le, one_ne0, if_neg one_ne0', lt_102_103, lt_102_104, lt_102_105, lt_102_106, lt_99_107, lt_100_107, lt_101_107, lt_103_107, lt_104_107, lt_105_107, lt_106_107, lt_98_99, lt_98_100, lt_98_101, lt_98_106, q1]
    exact nx
  | succ r ih =>
    intro m hm
    have q1 : ((768 : Int32) ≤ nI m) = False := eq_false (by rw [show (768 : Int32) = nI 768 from rfl, i32_le, nI_toInt (by omega), nI_toInt (by omega)]; omega)
    have e1 : vp_in (nI m) 768 = True := eq_true (vp_in_nI (by omega) (by omega))
    have e2 : (nI m).toNatClampNeg = m := nI_clamp (by omega)
    have fs := fl_s (h := h) (a := 89) (m := m) (f := (fun _ => -1))
    rw [x96_310]
    simp only [x96_311, x96_314, x96_317, x96_318, x96_321, x96_322, x96_323, x96_324, x96_327, inc_1i, inc_1n, inc_1r, ldI_1, ldR_0, I_pI, R_pI, c_pI, n_pI, u_pI, t_pI, l_pI, I_pR, R_pR, c_pR, n_pR, u_pR, t_pR, l_pR, get_s, Option.toList, List.nil_append, List.cons_append, List.length_nil, List.length_cons, gi_B, true_and, and_true, false_and, and_false, not_true_eq_false, not_false_eq_true, true_implies, false_implies, implies_true, Classical.not_not, ite_true, ite_false, Option.some.injEq, Sum.inl.injEq, exists_eq', eq_self, true_or, or_true, false_or, or_false, Nat.reduceEqDiff, Nat.reduceLeDiff, Nat.reduceAdd, Nat.zero_le, one_ne0, if_neg one_ne0', lt_102_103, lt_102_104, lt_102_105, lt_102_106, lt_99_107, lt_100_107, lt_101_107, lt_103_107, lt_104_107, lt_105_107, lt_106_107, lt_98_99, lt_98_100, lt_98_101, lt_98_106, q1, t_fl, l_fl, R_fl, t1, r1, t2, l2, e1, e2, fs, nI_i1]
    exact ih (m + 1) (by omega)
theorem lp_96_332 {d : Nat} {h : gi_H} {Q : gi_P} (t1 : gi_tag h (some 79) = 9) (r1 : gi_R h 79 19 = some 98) (t2 : gi_tag h (some 98) = 100) (l2 : gi_len h (some 98) = 4096) (nx : gi_ex (gi_cx d) 96 Q 352 [some (.inr (.inr (some 79))), some (.inl (nI 4096))] [] (flI h 98 4096 (fun _ => -1))) : ∀ r m, m + r = 4096 → gi_ex (gi_cx d) 96 Q 332 [some (.inr (.inr (some 79))), some (.inl (nI m))] [] (flI h 98 m (fun _ => -1)) := by
  intro r
  induction r with
  | zero =>
    intro m hm
    obtain rfl : m = 4096 := by omega
    have q1 : ((4096 : Int32) ≤ nI 4096) = True := eq_true (Int32.le_refl _)
    rw [x96_332]
    simp only [x96_333, x96_336, x96_339, x96_340, x96_343, x96_344, x96_345, x96_346, x96_349, inc_1i, inc_1n, inc_1r, ldI_1, ldR_0, I_pI, R_pI, c_pI, n_pI, u_pI, t_pI, l_pI, I_pR, R_pR, c_pR, n_pR, u_pR, t_pR, l_pR, get_s, Option.toList, List.nil_append, List.cons_append, List.length_nil, List.length_cons, gi_B, true_and, and_true, false_and, and_false, not_true_eq_false, not_false_eq_true, true_implies, false_implies, implies_true, Classical.not_not, ite_true, ite_false, Option.some.injEq, Sum.inl.injEq, exists_eq', eq_self, true_or, or_true, false_or, or_false, Nat.reduceEqDiff, Nat.reduceLeDiff, Nat.reduceAdd, Nat.zero_le, one_ne0, if_neg one_ne0', lt_102_103, lt_102_104, lt_102_105, lt_102_106, lt_99_107, lt_100_107, lt_101_107, lt_103_107, lt_104_107, lt_105_107, lt_106_107, lt_98_99, lt_98_100, lt_98_101, lt_98_106, q1]
    exact nx
  | succ r ih =>
    intro m hm
    have q1 : ((4096 : Int32) ≤ nI m) = False := eq_false (by rw [show (4096 : Int32) = nI 4096 from rfl, i32_le, nI_toInt (by omega), nI_toInt (by omega)]; omega)
    have e1 : vp_in (nI m) 4096 = True := eq_true (vp_in_nI (by omega) (by omega))
    have e2 : (nI m).toNatClampNeg = m := nI_clamp (by omega)
    have fs := fl_s (h := h) (a := 98) (m := m) (f := (fun _ => -1))
    rw [x96_332]
    simp only [x96_333, x96_336, x96_339, x96_340, x96_343, x96_344, x96_345, x96_346, x96_349, inc_1i, inc_1n, inc_1r, ldI_1, ldR_0, I_pI, R_pI, c_pI, n_pI, u_pI, t_pI, l_pI, I_pR, R_pR, c_pR, n_pR, u_pR, t_pR, l_pR, get_s, Option.toList, List.nil_append, List.cons_append, List.length_nil, List.length_cons, gi_B, true_and, and_true, false_and, and_false, not_true_eq_false, not_false_eq_true, true_implies, false_implies, implies_true, Classical.not_not, ite_true, ite_false, Option.some.injEq, Sum.inl.injEq, exists_eq', eq_self, true_or, or_true, false_or, or_false, Nat.reduceEqDiff, Nat.reduceLeDiff, Nat.reduceAdd, Nat.zero_le, one_ne0, if_neg one_ne0', lt_102_103, lt_102_104, lt_102_105, lt_102_106, lt_99_107, lt_100_107, lt_101_107, lt_103_107, lt_104_107, lt_105_107, lt_106_107, lt_98_99, lt_98_100, lt_98_101, lt_98_106, q1, t_fl, l_fl, R_fl, t1, r1, t2, l2, e1, e2, fs, nI_i1]
    exact ih (m + 1) (by omega)
theorem lp_96_354 {d : Nat} {h : gi_H} {Q : gi_P} (t1 : gi_tag h (some 79) = 9) (r1 : gi_R h 79 20 = some 99) (t2 : gi_tag h (some 99) = 100) (l2 : gi_len h (some 99) = 2048) (nx : gi_ex (gi_cx d) 96 Q 374 [some (.inr (.inr (some 79))), some (.inl (nI 2048))] [] (flI h 99 2048 (fun _ => -1))) : ∀ r m, m + r = 2048 → gi_ex (gi_cx d) 96 Q 354 [some (.inr (.inr (some 79))), some (.inl (nI m))] [] (flI h 99 m (fun _ => -1)) := by
  intro r
  induction r with
  | zero =>
    intro m hm
    obtain rfl : m = 2048 := by omega
    have q1 : ((2048 : Int32) ≤ nI 2048) = True := eq_true (Int32.le_refl _)
    rw [x96_354]
    simp only [x96_355, x96_358, x96_361, x96_362, x96_365, x96_366, x96_367, x96_368, x96_371, inc_1i, inc_1n, inc_1r, ldI_1, ldR_0, I_pI, R_pI, c_pI, n_pI, u_pI, t_pI, l_pI, I_pR, R_pR, c_pR, n_pR, u_pR, t_pR, l_pR, get_s, Option.toList, List.nil_append, List.cons_append, List.length_nil, List.length_cons, gi_B, true_and, and_true, false_and, and_false, not_true_eq_false, not_false_eq_true, true_implies, false_implies, implies_true, Classical.not_not, ite_true, ite_false, Option.some.injEq, Sum.inl.injEq, exists_eq', eq_self, true_or, or_true, false_or, or_false, Nat.reduceEqDiff, Nat.reduceLeDiff, Nat.reduceAdd, Nat.zero_le, one_ne0, if_neg one_ne0', lt_102_103, lt_102_104, lt_102_105, lt_102_106, lt_99_107, lt_100_107, lt_101_107, lt_103_107, lt_104_107, lt_105_107, lt_106_107, lt_98_99, lt_98_100, lt_98_101, lt_98_106, q1]
    exact nx
  | succ r ih =>
    intro m hm
    have q1 : ((2048 : Int32) ≤ nI m) = False := eq_false (by rw [show (2048 : Int32) = nI 2048 from rfl, i32_le, nI_toInt (by omega), nI_toInt (by omega)]; omega)
    have e1 : vp_in (nI m) 2048 = True := eq_true (vp_in_nI (by omega) (by omega))
    have e2 : (nI m).toNatClampNeg = m := nI_clamp (by omega)
    have fs := fl_s (h := h) (a := 99) (m := m) (f := (fun _ => -1))
    rw [x96_354]
    simp only [x96_355, x96_358, x96_361, x96_362, x96_365, x96_366, x96_367, x96_368, x96_371, inc_1i, inc_1n, inc_1r, ldI_1, ldR_0, I_pI, R_pI, c_pI, n_pI, u_pI, t_pI, l_pI, I_pR, R_pR, c_pR, n_pR, u_pR, t_pR, l_pR, get_s, Option.toList, List.nil_append, List.cons_append, List.length_nil, List.length_cons, gi_B, true_and, and_true, false_and, and_false, not_true_eq_false, not_false_eq_true, true_implies, false_implies, implies_true, Classical.not_not, ite_true, ite_false, Option.some.injEq, Sum.inl.injEq, exists_eq', eq_self, true_or, or_true, false_or, or_false, Nat.reduceEqDiff, Nat.reduceLeDiff, Nat.reduceAdd, Nat.zero_le, one_ne0, if_neg one_ne0', lt_102_103, lt_102_104, lt_102_105, lt_102_106, lt_99_107, lt_100_107, lt_101_107, lt_103_107, lt_104_107, lt_105_107, lt_106_107, lt_98_99, lt_98_100, lt_98_101, lt_98_106, q1, t_fl, l_fl, R_fl, t1, r1, t2, l2, e1, e2, fs, nI_i1]
    exact ih (m + 1) (by omega)
def fl4 (h : gi_H) (m : Nat) : gi_H := wI h (fun b j => if (b = 90 ∨ b = 103 ∨ b = 104 ∨ b = 105) ∧ j < m then -1 else gi_I h b j)
theorem f4_0 {h : gi_H} : fl4 h 0 = h := gi_ext (fun _ => rfl) (fun x j => if_neg (by omega)) (fun _ _ => rfl) rfl rfl
theorem f4_s {h : gi_H} {m : Nat} : gi_pI (gi_pI (gi_pI (gi_pI (fl4 h m) 90 m (-1)) 103 m (-1)) 104 m (-1)) 105 m (-1) = fl4 h (m + 1) := by
  refine gi_ext (fun _ => rfl) (fun x j => ?_) (fun _ _ => rfl) rfl rfl
  show (if x = 105 ∧ j = m then -1 else if x = 104 ∧ j = m then -1 else if x = 103 ∧ j = m then -1 else if x = 90 ∧ j = m then -1 else if (x = 90 ∨ x = 103 ∨ x = 104 ∨ x = 105) ∧ j < m then -1 else gi_I h x j) = if (x = 90 ∨ x = 103 ∨ x = 104 ∨ x = 105) ∧ j < m + 1 then -1 else gi_I h x j
  by_cases w1 : x = 105 ∧ j = m
  · rw [if_pos w1, if_pos (by omega)]
  · rw [if_neg w1]
    by_cases w2 : x = 104 ∧ j = m
    · rw [if_pos w2, if_pos (by omega)]
    · rw [if_neg w2]
      by_cases w3 : x = 103 ∧ j = m
      · rw [if_pos w3, if_pos (by omega)]
      · rw [if_neg w3]
        by_cases w4 : x = 90 ∧ j = m
        · rw [if_pos w4, if_pos (by omega)]
        · rw [if_neg w4]
          by_cases w5 : (x = 90 ∨ x = 103 ∨ x = 104 ∨ x = 105) ∧ j < m
          · rw [if_pos w5, if_pos (by omega)]
          · rw [if_neg w5, if_neg (by omega)]
theorem t_f4 {h : gi_H} {m : Nat} {x : Option Nat} : gi_tag (fl4 h m) x = gi_tag h x := rfl
theorem l_f4 {h : gi_H} {m : Nat} {x : Option Nat} : gi_len (fl4 h m) x = gi_len h x := rfl
theorem R_f4 {h : gi_H} {m : Nat} {x y : Nat} : gi_R (fl4 h m) x y = gi_R h x y := rfl
theorem lp_96_268 {d : Nat} {h : gi_H} {Q : gi_P} (t1 : gi_tag h (some 79) = 9) (r1 : gi_R h 79 11 = some 90) (r2 : gi_R h 79 25 = some 103) (r3 : gi_R h 79 26 = some 104) (r4 : gi_R h 79 27 = some 105) (cc : gi_c h 90 = (100, 64) ∧ gi_c h 103 = (100, 64) ∧ gi_c h 104 = (100, 64) ∧ gi_c h 105 = (100, 64)) (nx : gi_ex (gi_cx d) 96 Q 308 [some (.inr (.inr (some 79))), some (.inl (nI 64))] [] (fl4 h 64)) : ∀ r m, m + r = 64 → gi_ex (gi_cx d) 96 Q 268 [some (.inr (.inr (some 79))), some (.inl (nI m))] [] (fl4 h m) := by
  intro r
  induction r with
  | zero =>
    intro m hm
    obtain rfl : m = 64 := by omega
    have q1 : ((64 : Int32) ≤ nI 64) = True := eq_true (Int32.le_refl _)
    rw [x96_268]
    simp only [x96_269, x96_271, x96_274, x96_275, x96_278, x96_279, x96_280, x96_281, x96_282, x96_285, x96_286, x96_287, x96_288, x96_289, x96_292, x96_293, x96_294, x96_295, x96_296, x96_299, x96_300, x96_301, x96_302, x96_305, inc_1i, inc_1n, inc_1r, ldI_1, ldR_0, I_pI, R_pI, c_pI, n_pI, u_pI, t_pI, l_pI, I_pR, R_pR, c_pR, n_pR, u_pR, t_pR, l_pR, get_s, Option.toList, List.nil_append, List.cons_append, List.length_nil, List.length_cons, gi_B, true_and, and_true, false_and, and_false, not_true_eq_false, not_false_eq_true, true_implies, false_implies, implies_true, Classical.not_not, ite_true, ite_false, Option.some.injEq, Sum.inl.injEq, exists_eq', eq_self, true_or, or_true, false_or, or_false, Nat.reduceEqDiff, Nat.reduceLeDiff, Nat.reduceAdd, Nat.zero_le, one_ne0, if_neg one_ne0', lt_102_103, lt_102_104, lt_102_105, lt_102_106, lt_99_107, lt_100_107, lt_101_107, lt_103_107, lt_104_107, lt_105_107, lt_106_107, lt_98_99, lt_98_100, lt_98_101, lt_98_106, q1]
    exact nx
  | succ r ih =>
    intro m hm
    have q1 : ((64 : Int32) ≤ nI m) = False := eq_false (by rw [show (64 : Int32) = nI 64 from rfl, i32_le, nI_toInt (by omega), nI_toInt (by omega)]; omega)
    have e1 : vp_in (nI m) 64 = True := eq_true (vp_in_nI (by omega) (by omega))
    have e2 : (nI m).toNatClampNeg = m := nI_clamp (by omega)
    obtain ⟨c1, c2, c3, c4⟩ := cc
    have a1 : gi_tag h (some 90) = 100 ∧ gi_len h (some 90) = 64 := ⟨by rw [tag_s, c1], by rw [len_s, c1]⟩
    have a2 : gi_tag h (some 103) = 100 ∧ gi_len h (some 103) = 64 := ⟨by rw [tag_s, c2], by rw [len_s, c2]⟩
    have a3 : gi_tag h (some 104) = 100 ∧ gi_len h (some 104) = 64 := ⟨by rw [tag_s, c3], by rw [len_s, c3]⟩
    have a4 : gi_tag h (some 105) = 100 ∧ gi_len h (some 105) = 64 := ⟨by rw [tag_s, c4], by rw [len_s, c4]⟩
    rw [x96_268]
    simp only [x96_269, x96_271, x96_274, x96_275, x96_278, x96_279, x96_280, x96_281, x96_282, x96_285, x96_286, x96_287, x96_288, x96_289, x96_292, x96_293, x96_294, x96_295, x96_296, x96_299, x96_300, x96_301, x96_302, x96_305, inc_1i, inc_1n, inc_1r, ldI_1, ldR_0, I_pI, R_pI, c_pI, n_pI, u_pI, t_pI, l_pI, I_pR, R_pR, c_pR, n_pR, u_pR, t_pR, l_pR, get_s, Option.toList, List.nil_append, List.cons_append, List.length_nil, List.length_cons, gi_B, true_and, and_true, false_and, and_false, not_true_eq_false, not_false_eq_true, true_implies, false_implies, implies_true, Classical.not_not, ite_true, ite_false, Option.some.injEq, Sum.inl.injEq, exists_eq', eq_self, true_or, or_true, false_or, or_false, Nat.reduceEqDiff, Nat.reduceLeDiff, Nat.reduceAdd, Nat.zero_le, one_ne0, if_neg one_ne0', lt_102_103, lt_102_104, lt_102_105, lt_102_106, lt_99_107, lt_100_107, lt_101_107, lt_103_107, lt_104_107, lt_105_107, lt_106_107, lt_98_99, lt_98_100, lt_98_101, lt_98_106, q1, t_f4, l_f4, R_f4, t1, r1, r2, r3, r4, a1.1, a1.2, a2.1, a2.2, a3.1, a3.2, a4.1, a4.2, e1, e2, f4_s, nI_i1]
    exact ih (m + 1) (by omega)
theorem lt201 : ((128 : Nat) ≤ 200000) = True ∧ ((768 : Nat) ≤ 200000) = True ∧ ((2048 : Nat) ≤ 200000) = True ∧ ((4096 : Nat) ≤ 200000) = True ∧ ((16384 : Nat) ≤ 200000) = True ∧ ((122880 : Nat) ≤ 200000) = True := by decide
def hD (L : Nat) (xs : Nat → Int32) : gi_H := gi_new (hC L xs) 9 0 32
def hE (L : Nat) (xs : Nat → Int32) : gi_H := (ar (ar (ar (ar (ar (ar (ar (ar (ar (ar (ar (ar (ar (ar (ar (ar (ar (ar (ar (ar (ar (ar (ar (ar (ar (ar (ar (ar (ar (hD L xs) 79 1 100 16) 79 2 100 16) 79 3 100 16) 79 4 100 64) 79 5 100 64) 79 6 100 64) 79 7 100 64) 79 8 100 64) 79 9 100 64) 79 10 100 768) 79 11 100 64) 79 12 102 256) 79 13 101 16384) 79 14 100 128) 79 15 100 128) 79 16 100 128) 79 17 100 128) 79 18 100 128) 79 19 100 4096) 79 20 100 2048) 79 21 101 122880) 79 22 101 60) 79 24 100 64) 79 25 100 64) 79 26 100 64) 79 27 100 64) 79 28 100 4) 79 29 100 64) 79 30 100 64)
theorem n_hD {L : Nat} {xs : Nat → Int32} : gi_n (hD L xs) = 80 := rfl
theorem c_hD {L : Nat} {xs : Nat → Int32} : gi_c (hD L xs) 79 = (9, 0) := rfl
theorem n_hE {L : Nat} {xs : Nat → Int32} : gi_n (hE L xs) = 109 := rfl
def hF (L : Nat) (xs : Nat → Int32) : gi_H := gi_pI (gi_pI (flI (flI (flI (fl4 (flI (hE L xs) 80 16 nI) 64) 89 768 (fun _ => -1)) 98 4096 (fun _ => -1)) 99 2048 (fun _ => -1)) 83 0 2) 87 0 511
theorem c_96 {d L : Nat} {xs : Nat → Int32} {Q : gi_P} : gi_cx (d + 1) 96 [.inr (.inr (some 79))] (hD L xs) Q ↔ Q none (hF L xs) := by
  refine gi_cx_iff ?_ Q
  have e0 : (nI 0 : Int32) = 0 := rfl
  have q3 : vp_in 0 64 = True := eq_true (show vp_in (nI 0) 64 from vp_in_nI (by omega) (by omega))
  have q5 : (0 : Int32).toNatClampNeg = 0 := by decide
  have E1 : gi_tag (hE L xs) (some 79) = 9 := rfl
  have E2 : gi_R (hE L xs) 79 4 = some 83 := rfl
  have E3 : gi_R (hE L xs) 79 8 = some 87 := rfl
  have E4 : gi_tag (hE L xs) (some 83) = 100 := rfl
  have E5 : gi_len (hE L xs) (some 83) = 64 := rfl
  have E6 : gi_tag (hE L xs) (some 87) = 100 := rfl
  have E7 : gi_len (hE L xs) (some 87) = 64 := rfl
  have n5 : gi_ex (gi_cx d) 96 (fun r1 h1 => r1 = none ∧ h1 = hF L xs) 374 [some (.inr (.inr (some 79))), some (.inl (nI 2048))] [] (flI (flI (flI (fl4 (flI (hE L xs) 80 16 nI) 64) 89 768 (fun _ => -1)) 98 4096 (fun _ => -1)) 99 2048 (fun _ => -1)) := by
    simp only [x96_374, x96_375, x96_378, x96_379, x96_380, x96_381, x96_382, x96_385, x96_386, x96_389, x96_390, ldR_0, I_pI, R_pI, c_pI, n_pI, u_pI, t_pI, l_pI, I_pR, R_pR, c_pR, n_pR, u_pR, t_pR, l_pR, get_s, Option.toList, List.nil_append, List.cons_append, List.length_nil, List.length_cons, gi_B, true_and, and_true, false_and, and_false, not_true_eq_false, not_false_eq_true, true_implies, false_implies, implies_true, Classical.not_not, ite_true, ite_false, Option.some.injEq, Sum.inl.injEq, exists_eq', eq_self, true_or, or_true, false_or, or_false, Nat.reduceEqDiff, Nat.reduceLeDiff, Nat.reduceAdd, Nat.zero_le, one_ne0, if_neg one_ne0', lt_102_103, lt_102_104, lt_102_105, lt_102_106, lt_99_107, lt_100_107, lt_101_107, lt_103_107, lt_104_107, lt_105_107, lt_106_107, lt_98_99, lt_98_100, lt_98_101, lt_98_106, t_fl, l_fl, R_fl, t_f4, l_f4, R_f4, E1, E2, E3, E4, E5, E6, E7, q3, q5]
    rfl
  have n4 := lp_96_354 (h := flI (flI (fl4 (flI (hE L xs) 80 16 nI) 64) 89 768 (fun _ => -1)) 98 4096 (fun _ => -1)) rfl rfl rfl rfl n5 2048 0 rfl
  rw [fl_0, e0] at n4
  have m4 : gi_ex (gi_cx d) 96 (fun r1 h1 => r1 = none ∧ h1 = hF L xs) 352 [some (.inr (.inr (some 79))), some (.inl (nI 4096))] [] (flI (flI (fl4 (flI (hE L xs) 80 16 nI) 64) 89 768 (fun _ => -1)) 98 4096 (fun _ => -1)) := by
    simp only [x96_352, x96_353, stI_1i, stI_1n, stI_1r, I_pI, R_pI, c_pI, n_pI, u_pI, t_pI, l_pI, I_pR, R_pR, c_pR, n_pR, u_pR, t_pR, l_pR, get_s, Option.toList, List.nil_append, List.cons_append, List.length_nil, List.length_cons, gi_B, true_and, and_true, false_and, and_false, not_true_eq_false, not_false_eq_true, true_implies, false_implies, implies_true, Classical.not_not, ite_true, ite_false, Option.some.injEq, Sum.inl.injEq, exists_eq', eq_self, true_or, or_true, false_or, or_false, Nat.reduceEqDiff, Nat.reduceLeDiff, Nat.reduceAdd, Nat.zero_le, one_ne0, if_neg one_ne0', lt_102_103, lt_102_104, lt_102_105, lt_102_106, lt_99_107, lt_100_107, lt_101_107, lt_103_107, lt_104_107, lt_105_107, lt_106_107, lt_98_99, lt_98_100, lt_98_101, lt_98_106]
    exact n4
  have n3 := lp_96_332 (h := flI (fl4 (flI (hE L xs) 80 16 nI) 64) 89 768 (fun _ => -1)) rfl rfl rfl rfl m4 4096 0 rfl
  rw [fl_0, e0] at n3
  have m3 : gi_ex (gi_cx d) 96 (fun r1 h1 => r1 = none ∧ h1 = hF L xs) 330 [some (.inr (.inr (some 79))), some (.inl (nI 768))] [] (flI (fl4 (flI (hE L xs) 80 16 nI) 64) 89 768 (fun _ => -1)) := by
    simp only [x96_330, x96_331, stI_1i, stI_1n, stI_1r, I_pI, R_pI, c_pI, n_pI, u_pI, t_pI, l_pI, I_pR, R_pR, c_pR, n_pR, u_pR, t_pR, l_pR, get_s, Option.toList, List.nil_append, List.cons_append, List.length_nil, List.length_cons, gi_B, true_and, and_true, false_and, and_false, not_true_eq_false, not_false_eq_true, true_implies, false_implies, implies_true, Classical.not_not, ite_true, ite_false, Option.some.injEq, Sum.inl.injEq, exists_eq', eq_self, true_or, or_true, false_or, or_false, Nat.reduceEqDiff, Nat.reduceLeDiff, Nat.reduceAdd, Nat.zero_le, one_ne0, if_neg one_ne0', lt_102_103, lt_102_104, lt_102_105, lt_102_106, lt_99_107, lt_100_107, lt_101_107, lt_103_107, lt_104_107, lt_105_107, lt_106_107, lt_98_99, lt_98_100, lt_98_101, lt_98_106]
    exact n3
  have n2 := lp_96_310 (h := fl4 (flI (hE L xs) 80 16 nI) 64) rfl rfl rfl rfl m3 768 0 rfl
  rw [fl_0, e0] at n2
  have m2 : gi_ex (gi_cx d) 96 (fun r1 h1 => r1 = none ∧ h1 = hF L xs) 308 [some (.inr (.inr (some 79))), some (.inl (nI 64))] [] (fl4 (flI (hE L xs) 80 16 nI) 64) := by
    simp only [x96_308, x96_309, stI_1i, stI_1n, stI_1r, I_pI, R_pI, c_pI, n_pI, u_pI, t_pI, l_pI, I_pR, R_pR, c_pR, n_pR, u_pR, t_pR, l_pR, get_s, Option.toList, List.nil_append, List.cons_append, List.length_nil, List.length_cons, gi_B, true_and, and_true, false_and, and_false, not_true_eq_false, not_false_eq_true, true_implies, false_implies, implies_true, Classical.not_not, ite_true, ite_false, Option.some.injEq, Sum.inl.injEq, exists_eq', eq_self, true_or, or_true, false_or, or_false, Nat.reduceEqDiff, Nat.reduceLeDiff, Nat.reduceAdd, Nat.zero_le, one_ne0, if_neg one_ne0', lt_102_103, lt_102_104, lt_102_105, lt_102_106, lt_99_107, lt_100_107, lt_101_107, lt_103_107, lt_104_107, lt_105_107, lt_106_107, lt_98_99, lt_98_100, lt_98_101, lt_98_106]
    exact n2
  have n1 := lp_96_268 (h := flI (hE L xs) 80 16 nI) rfl rfl rfl rfl rfl ⟨rfl, rfl, rfl, rfl⟩ m2 64 0 rfl
  rw [f4_0, e0] at n1
  have m1 : gi_ex (gi_cx d) 96 (fun r1 h1 => r1 = none ∧ h1 = hF L xs) 266 [some (.inr (.inr (some 79))), some (.inl (nI 16))] [] (flI (hE L xs) 80 16 nI) := by
    simp only [x96_266, x96_267, stI_1i, stI_1n, stI_1r, I_pI, R_pI, c_pI, n_pI, u_pI, t_pI, l_pI, I_pR, R_pR, c_pR, n_pR, u_pR, t_pR, l_pR, get_s, Option.toList, List.nil_append, List.cons_append, List.length_nil, List.length_cons, gi_B, true_and, and_true, false_and, and_false, not_true_eq_false, not_false_eq_true, true_implies, false_implies, implies_true, Classical.not_not, ite_true, ite_false, Option.some.injEq, Sum.inl.injEq, exists_eq', eq_self, true_or, or_true, false_or, or_false, Nat.reduceEqDiff, Nat.reduceLeDiff, Nat.reduceAdd, Nat.zero_le, one_ne0, if_neg one_ne0', lt_102_103, lt_102_104, lt_102_105, lt_102_106, lt_99_107, lt_100_107, lt_101_107, lt_103_107, lt_104_107, lt_105_107, lt_106_107, lt_98_99, lt_98_100, lt_98_101, lt_98_106]
    exact n1
  have n0 := lp_96_247 (h := hE L xs) rfl rfl rfl rfl m1 16 0 rfl
  rw [fl_0, e0] at n0
  rw [e96]
  simp only [x96_0, x96_1, x96_4, x96_5, x96_7, x96_9, x96_12, x96_13, x96_15, x96_17, x96_20, x96_21, x96_23, x96_25, x96_28, x96_29, x96_31, x96_33, x96_36, x96_37, x96_39, x96_41, x96_44, x96_45, x96_47, x96_49, x96_52, x96_53, x96_55, x96_57, x96_60, x96_61, x96_63, x96_65, x96_68, x96_69, x96_71, x96_73, x96_76, x96_77, x96_80, x96_82, x96_85, x96_86, x96_88, x96_90, x96_93, x96_94, x96_97, x96_99, x96_102, x96_103, x96_106, x96_108, x96_111, x96_112, x96_115, x96_117, x96_120, x96_121, x96_124, x96_126, x96_129, x96_130, x96_133, x96_135, x96_138, x96_139, x96_142, x96_144, x96_147, x96_148, x96_151, x96_153, x96_156, x96_157, x96_160, x96_162, x96_165, x96_166, x96_169, x96_171, x96_174, x96_175, x96_177, x96_179, x96_182, x96_183, x96_185, x96_187, x96_190, x96_191, x96_193, x96_195, x96_198, x96_199, x96_201, x96_203, x96_206, x96_207, x96_209, x96_211, x96_214, x96_215, x96_217, x96_219, x96_222, x96_223, x96_224, x96_226, x96_229, x96_230, x96_232, x96_234, x96_237, x96_238, x96_240, x96_242, x96_245, x96_246, ldR_0, stI_1i, stI_1n, stI_1r, I_pI, R_pI, c_pI, n_pI, u_pI, t_pI, l_pI, I_pR, R_pR, c_pR, n_pR, u_pR, t_pR, l_pR, get_s, Option.toList, List.nil_append, List.cons_append, List.length_nil, List.length_cons, gi_B, true_and, and_true, false_and, and_false, not_true_eq_false, not_false_eq_true, true_implies, false_implies, implies_true, Classical.not_not, ite_true, ite_false, Option.some.injEq, Sum.inl.injEq, exists_eq', eq_self, true_or, or_true, false_or, or_false, Nat.reduceEqDiff, Nat.reduceLeDiff, Nat.reduceAdd, Nat.zero_le, one_ne0, if_neg one_ne0', lt_102_103, lt_102_104, lt_102_105, lt_102_106, lt_99_107, lt_100_107, lt_101_107, lt_103_107, lt_104_107, lt_105_107, lt_106_107, lt_98_99, lt_98_100, lt_98_101, lt_98_106, kz_16.1, kz_16.2, kz_64.1, kz_64.2, kz_256.1, kz_256.2, kz_60.1, kz_60.2, kz_4.1, kz_4.2, kz_768.1, kz_768.2, kz_16384.1, kz_16384.2, kz_128.1, kz_128.2, kz_4096.1, kz_4096.2, kz_2048.1, kz_2048.2, kz_122880.1, kz_122880.2, lt200, lt201, tag_s, c_new, n_new, n_hD, c_hD]
  exact n0

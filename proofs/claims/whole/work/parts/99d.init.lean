/-! new objects: the class, in one -/
set_option maxRecDepth 100000

theorem QH_0 {g : gi_H} : QH g 0 = g := gi_ext (fun x => by rw [c_QH, if_neg (by omega)]) (fun x j => by rw [I_QH, if_neg (by omega)]) (fun x j => by rw [R_QH, if_neg (by omega), if_neg (by omega)]) rfl rfl
theorem ar_u {h : gi_H} {x f t n : Nat} : ar h x f t n = gi_pR (gi_new h t n n) x f (some (gi_n h)) := rfl
theorem t_fl {h : gi_H} {a m : Nat} {f : Nat → Int32} {x : Option Nat} : gi_tag (flI h a m f) x = gi_tag h x := rfl
theorem l_fl {h : gi_H} {a m : Nat} {f : Nat → Int32} {x : Option Nat} : gi_len (flI h a m f) x = gi_len h x := rfl
theorem R_fl {h : gi_H} {a m : Nat} {f : Nat → Int32} {x y : Nat} : gi_R (flI h a m f) x y = gi_R h x y := rfl
theorem I_fl {h : gi_H} {a m : Nat} {f : Nat → Int32} {x y : Nat} : gi_I (flI h a m f) x y = if x = a ∧ y < m then f y else gi_I h x y := rfl
theorem lt200 : ((4 : Nat) ≤ 200000) = True ∧ ((16 : Nat) ≤ 200000) = True ∧ ((60 : Nat) ≤ 200000) = True ∧ ((64 : Nat) ≤ 200000) = True ∧ ((256 : Nat) ≤ 200000) = True := by decide
theorem c_3 {d : Nat} {h : gi_H} {Q : gi_P} (n9 : gi_n h = 9) (t : gi_tag h (some 8) = 3) : gi_cx (d + 2) 3 [.inr (.inr (some 8))] h Q ↔ Q none (QH (ar (ar h 8 1 105 64) 8 2 100 4) 64) := by
  refine gi_cx_iff ?_ Q
  have L := lp_3 (d := d) (g := ar (ar h 8 1 105 64) 8 2 100 4) (Q := fun r1 h1 => r1 = none ∧ h1 = QH (ar (ar h 8 1 105 64) 8 2 100 4) 64) (by rw [n_ar, n_ar, n9]) (by rw [tag_s, c_ar, n_ar, if_neg (by omega), c_ar, if_neg (by omega)]; exact t) (by rw [R_ar, if_neg (by omega), n_ar, if_neg (by omega), R_ar, if_pos ⟨rfl, rfl⟩, n9]) (by rw [tag_s, c_ar, n_ar, if_neg (by omega), c_ar, if_pos (by omega)]) (by rw [len_s, c_ar, n_ar, if_neg (by omega), c_ar, if_pos (by omega)]) ⟨rfl, rfl⟩ 64 0 rfl
  rw [QH_0] at L
  have f1 : (8 = gi_n h) = False := eq_false (by omega)
  have f2 : (8 = gi_n h + 1) = False := eq_false (by omega)
  rw [tag_s] at t
  simp only [e3, x3_0, x3_1, x3_4, x3_5, x3_7, x3_10, x3_13, x3_14, x3_15, x3_17, x3_20, x3_21, ldR_0, stI_1i, stI_1n, stI_1r, I_pI, R_pI, c_pI, n_pI, u_pI, t_pI, l_pI, I_pR, R_pR, c_pR, n_pR, u_pR, t_pR, l_pR, get_s, Option.toList, List.nil_append, List.cons_append, List.length_nil, List.length_cons, gi_B, true_and, and_true, false_and, and_false, not_true_eq_false, not_false_eq_true, true_implies, false_implies, implies_true, Classical.not_not, ite_true, ite_false, Option.some.injEq, Sum.inl.injEq, exists_eq', eq_self, true_or, or_true, false_or, or_false, Nat.reduceEqDiff, Nat.reduceLeDiff, Nat.reduceAdd, Nat.zero_le, one_ne0, if_neg one_ne0', lt_102_103, lt_102_104, lt_102_105, lt_102_106, lt_99_107, lt_100_107, lt_101_107, lt_103_107, lt_104_107, lt_105_107, lt_106_107, lt_98_99, lt_98_100, lt_98_101, lt_98_106, kz_16.1, kz_16.2, kz_64.1, kz_64.2, kz_256.1, kz_256.2, kz_60.1, kz_60.2, kz_4.1, kz_4.2, kz_768.1, kz_768.2, kz_16384.1, kz_16384.2, kz_128.1, kz_128.2, kz_4096.1, kz_4096.2, kz_2048.1, kz_2048.2, kz_122880.1, kz_122880.2, lt200, tag_s, c_new, n_new, f1, f2, t]
  exact L
theorem lp_1 {d : Nat} {h : gi_H} {Q : gi_P} (t1 : gi_tag h (some 1) = 1) (r1 : gi_R h 1 0 = some 2) (t2 : gi_tag h (some 2) = 100) (l2 : gi_len h (some 2) = 16) (nx : gi_ex (gi_cx d) 1 Q 88 [some (.inr (.inr (some 1))), some (.inl (nI 16))] [] (flI h 2 16 nI)) : ∀ r m, m + r = 16 → gi_ex (gi_cx d) 1 Q 69 [some (.inr (.inr (some 1))), some (.inl (nI m))] [] (flI h 2 m nI) := by
  intro r
  induction r with
  | zero =>
    intro m hm
    obtain rfl : m = 16 := by omega
    have q1 : ((16 : Int32) ≤ nI 16) = True := eq_true (Int32.le_refl _)
    rw [x1_69]
    simp only [x1_70, x1_72, x1_75, x1_76, x1_79, x1_80, x1_81, x1_82, x1_85, inc_1i, inc_1n, inc_1r, ldI_1, ldR_0, I_pI, R_pI, c_pI, n_pI, u_pI, t_pI, l_pI, I_pR, R_pR, c_pR, n_pR, u_pR, t_pR, l_pR, get_s, Option.toList, List.nil_append, List.cons_append, List.length_nil, List.length_cons, gi_B, true_and, and_true, false_and, and_false, not_true_eq_false, not_false_eq_true, true_implies, false_implies, implies_true, Classical.not_not, ite_true, ite_false, Option.some.injEq, Sum.inl.injEq, exists_eq', eq_self, true_or, or_true, false_or, or_false, Nat.reduceEqDiff, Nat.reduceLeDiff, Nat.reduceAdd, Nat.zero_le, one_ne0, if_neg one_ne0', lt_102_103, lt_102_104, lt_102_105, lt_102_106, lt_99_107, lt_100_107, lt_101_107, lt_103_107, lt_104_107, lt_105_107, lt_106_107, lt_98_99, lt_98_100, lt_98_101, lt_98_106, q1]
    exact nx
  | succ r ih =>
    intro m hm
    have q1 : ((16 : Int32) ≤ nI m) = False := eq_false (by rw [show (16 : Int32) = nI 16 from rfl, i32_le, nI_toInt (by omega), nI_toInt (by omega)]; omega)
    have e1 : vp_in (nI m) 16 = True := eq_true (vp_in_nI (by omega) (by omega))
    have e2 : (nI m).toNatClampNeg = m := nI_clamp (by omega)
    rw [x1_69]
    simp only [x1_70, x1_72, x1_75, x1_76, x1_79, x1_80, x1_81, x1_82, x1_85, inc_1i, inc_1n, inc_1r, ldI_1, ldR_0, I_pI, R_pI, c_pI, n_pI, u_pI, t_pI, l_pI, I_pR, R_pR, c_pR, n_pR, u_pR, t_pR, l_pR, get_s, Option.toList, List.nil_append, List.cons_append, List.length_nil, List.length_cons, gi_B, true_and, and_true, false_and, and_false, not_true_eq_false, not_false_eq_true, true_implies, false_implies, implies_true, Classical.not_not, ite_true, ite_false, Option.some.injEq, Sum.inl.injEq, exists_eq', eq_self, true_or, or_true, false_or, or_false, Nat.reduceEqDiff, Nat.reduceLeDiff, Nat.reduceAdd, Nat.zero_le, one_ne0, if_neg one_ne0', lt_102_103, lt_102_104, lt_102_105, lt_102_106, lt_99_107, lt_100_107, lt_101_107, lt_103_107, lt_104_107, lt_105_107, lt_106_107, lt_98_99, lt_98_100, lt_98_101, lt_98_106, q1, t_fl, l_fl, R_fl, t1, r1, t2, l2, e1, e2, fl_s, nI_i1]
    exact ih (m + 1) (by omega)
theorem n_h0 {L : Nat} {xs : Nat → Int32} : gi_n (gi_h0 L xs) = 1 := rfl
def hA (L : Nat) (xs : Nat → Int32) : gi_H := gi_new (gi_h0 L xs) 1 0 8
def hB (L : Nat) (xs : Nat → Int32) : gi_H := ar (gi_pR (QH (ar (ar (gi_new (gi_pR (ar (gi_new (ar (ar (ar (ar (hA L xs) 1 0 100 16) 1 1 100 16) 1 2 100 16) 1 3 103 64) 2 0 1) 6 0 104 256) 1 4 (some 6)) 3 0 3) 8 1 105 64) 8 2 100 4) 64) 1 5 (some 8)) 1 6 101 60
theorem B_1 {L : Nat} {xs : Nat → Int32} : gi_tag (hB L xs) (some 1) = 1 := rfl
theorem B_2 {L : Nat} {xs : Nat → Int32} : gi_tag (hB L xs) (some 2) = 100 := rfl
theorem B_3 {L : Nat} {xs : Nat → Int32} : gi_len (hB L xs) (some 2) = 16 := rfl
theorem B_4 {L : Nat} {xs : Nat → Int32} : gi_R (hB L xs) 1 0 = some 2 := rfl
theorem B_5 {L : Nat} {xs : Nat → Int32} : gi_R (hB L xs) 1 3 = some 5 := rfl
theorem B_6 {L : Nat} {xs : Nat → Int32} : gi_c (hB L xs) 5 = (103, 64) := rfl
theorem B_7 {L : Nat} {xs : Nat → Int32} : gi_n (hB L xs) = 76 := rfl
def hC (L : Nat) (xs : Nat → Int32) : gi_H := gi_pR (ni (flI (hB L xs) 2 16 nI) 2 0 0 0 511) 5 0 (some 76)

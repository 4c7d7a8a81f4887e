/-! quotas: the class's calls; sums -/
set_option maxRecDepth 100000
def QR (h : gi_H) (S : gi_Z) : Prop := QC h S ∧ (∀ p, p < 64 → (-1000000000 ≤ (gi_I h (11 + p) 0).toInt ∧ (gi_I h (11 + p) 0).toInt ≤ 1000000000) ∧ -1 ≤ (gi_I h (11 + p) 1).toInt ∧ -1 ≤ (S 103 p).toInt ∧ -1 ≤ (S 104 p).toInt) ∧ (0 ≤ (S 79 0).toInt ∧ (S 79 0).toInt ≤ 1000000) ∧ ∀ k, k < 4 → 0 ≤ (S 106 k).toInt ∧ (S 106 k).toInt ≤ 100000
theorem gr_b {h : gi_H} {S : gi_Z} (H : QR h S) {p : Nat} (hp : p < 64) : 0 ≤ (gr_ S p).toInt ∧ (gr_ S p).toInt ≤ 100000 := H.2.2.2 _ (by omega)
theorem c_28_00 {d i m : Nat} {h : gi_H} {Q : gi_P} {S : gi_Z} (hS : gi_S h) (H : QR h S) (hi : i < 16) (hm : m ≤ 100) : gi_cx (d + 3) 28 [.inr (.inr (some 8)), .inl 0, .inl (nI i), .inl 0, .inl (nI m)] h Q ↔ Q (some (.inl (b2 (rf_ S (2 * i + 0) m (U0 h (2 * i + 0)))))) h := by
  obtain ⟨q1, q2, q3, q4⟩ := quo hS (p := 2 * i + 0) (by omega)
  have z0 : ((0 : Int32) * 16 + nI i) * 2 + 0 = nI (2 * i + 0) := by
    show (nI 0 * 16 + nI i) * 2 + nI 0 = _
    rw [ixC]
    congr 1; omega
  have z1 : vp_in ((0 : Int32) * 2 + 0) 4 := by rw [vp_in_iff]; decide
  have z2 : ((0 : Int32) * 2 + 0).toNatClampNeg = 0 := by decide
  have z3 : gi_I h 10 0 = gr_ S (2 * i + 0) := by rw [H.1.2.2 0 (by omega), grx_0 hi (by omega)]
  obtain ⟨b1, b2, b3, b4⟩ := H.2.1 (2 * i + 0) (by omega)
  have cc := fun {Q : gi_P} => c_31 (d := d) (p := 2 * i + 0) (k := 2 * i + 0) (m0 := m) (Q := Q) (S := S) hS (by omega) hm b1 b2 (H.1.1 (2 * i + 0) (by omega)).1 (H.1.1 (2 * i + 0) (by omega)).2 b3 b4 H.2.2.1 (gr_b H (by omega))
  refine gi_cx_iff ?_ Q
  simp only [e28, x28_0, x28_1, x28_2, x28_3, x28_4, x28_7, x28_9, x28_10, x28_13, x28_14, x28_15, x28_16, x28_19, x28_22, ldI_1, ldI_2, ldI_3, ldI_4, ldR_0, e29, x29_0, x29_1, x29_4, x29_5, x29_7, x29_8, x29_9, x29_10, x29_11, x29_12, x29_13, x29_14, x29_15, ldI_1, ldI_2, ldI_3, ldR_0, e30, x30_0, x30_1, x30_4, x30_5, x30_6, x30_7, x30_8, x30_9, x30_10, ldI_1, ldI_2, ldR_0, I_pI, R_pI, c_pI, n_pI, u_pI, t_pI, l_pI, I_pR, R_pR, c_pR, n_pR, u_pR, t_pR, l_pR, get_s, Option.toList, List.nil_append, List.cons_append, List.length_nil, List.length_cons, gi_B, tg_1 hS, tg_2 hS, tg_3 hS, tg_4 hS, tg_5 hS, tg_6 hS, tg_7 hS, tg_8 hS, tg_9 hS, tg_10 hS, tg_75 hS, tg_79 hS, tg_80 hS, tg_81 hS, tg_82 hS, tg_83 hS, tg_84 hS, tg_85 hS, tg_86 hS, tg_87 hS, tg_88 hS, tg_89 hS, tg_90 hS, tg_91 hS, tg_92 hS, tg_93 hS, tg_94 hS, tg_95 hS, tg_96 hS, tg_97 hS, tg_98 hS, tg_99 hS, tg_100 hS, tg_101 hS, tg_102 hS, tg_103 hS, tg_104 hS, tg_105 hS, tg_106 hS, tg_107 hS, tg_108 hS, ln_2 hS, ln_3 hS, ln_4 hS, ln_5 hS, ln_7 hS, ln_9 hS, ln_10 hS, ln_75 hS, ln_80 hS, ln_81 hS, ln_82 hS, ln_83 hS, ln_84 hS, ln_85 hS, ln_86 hS, ln_87 hS, ln_88 hS, ln_89 hS, ln_90 hS, ln_91 hS, ln_92 hS, ln_93 hS, ln_94 hS, ln_95 hS, ln_96 hS, ln_97 hS, ln_98 hS, ln_99 hS, ln_100 hS, ln_101 hS, ln_102 hS, ln_103 hS, ln_104 hS, ln_105 hS, ln_106 hS, ln_107 hS, ln_108 hS, rf_1_0 hS, rf_1_1 hS, rf_1_2 hS, rf_1_3 hS, rf_1_4 hS, rf_1_5 hS, rf_1_6 hS, rf_6_0 hS, rf_8_1 hS, rf_8_2 hS, rf_79_1 hS, rf_79_2 hS, rf_79_3 hS, rf_79_4 hS, rf_79_5 hS, rf_79_6 hS, rf_79_7 hS, rf_79_8 hS, rf_79_9 hS, rf_79_10 hS, rf_79_11 hS, rf_79_12 hS, rf_79_13 hS, rf_79_14 hS, rf_79_15 hS, rf_79_16 hS, rf_79_17 hS, rf_79_18 hS, rf_79_19 hS, rf_79_20 hS, rf_79_21 hS, rf_79_22 hS, rf_79_24 hS, rf_79_25 hS, rf_79_26 hS, rf_79_27 hS, rf_79_28 hS, rf_79_29 hS, rf_79_30 hS, true_and, and_true, false_and, and_false, not_true_eq_false, not_false_eq_true, true_implies, false_implies, implies_true, Classical.not_not, ite_true, ite_false, Option.some.injEq, Sum.inl.injEq, exists_eq', eq_self, true_or, or_true, false_or, or_false, Nat.reduceEqDiff, Nat.reduceLeDiff, Nat.reduceAdd, Nat.zero_le, one_ne0, if_neg one_ne0', lt_102_103, lt_102_104, lt_102_105, lt_102_106, lt_99_107, lt_100_107, lt_101_107, lt_103_107, lt_104_107, lt_105_107, lt_106_107, lt_98_99, lt_98_100, lt_98_101, lt_98_106, z0, z1, z2, z3, q1, q2, q3, q4, H.1.2.1, cc, b201]
theorem c_38_00 {d i : Nat} {m : Int32} {h : gi_H} {U : gi_T} {Q : gi_P} {S : gi_Z} (hS : gi_S h) (H : QC h S) (hs : -1 ≤ (S 103 (2 * i + 0)).toInt) (hi : i < 16) : gi_cx (d + 4) 38 [.inr (.inr (some 8)), .inl 0, .inl (nI i), .inl 0, .inl m] (qst h U) Q ↔ Q none (qst h (upq U (2 * i + 0) (AD S m (2 * i + 0) (U (2 * i + 0))))) := by
  obtain ⟨q1, q2, q3, q4⟩ := quo hS (p := 2 * i + 0) (by omega)
  have z0 : ((0 : Int32) * 16 + nI i) * 2 + 0 = nI (2 * i + 0) := by
    show (nI 0 * 16 + nI i) * 2 + nI 0 = _
    rw [ixC]
    congr 1; omega
  have z1 : vp_in ((0 : Int32) * 2 + 0) 4 := by rw [vp_in_iff]; decide
  have z2 : ((0 : Int32) * 2 + 0).toNatClampNeg = 0 := by decide
  have z3 : gi_I (qst h U) 10 0 = gr_ S (2 * i + 0) := by rw [I_qstb (by omega), H.2.2 0 (by omega), grx_0 hi (by omega)]
  have z4 : gi_I (qst h U) 8 0 = S 79 0 := by rw [I_qstb (by omega), H.2.1]
  have z5 := (H.1 (2 * i + 0) (by omega)).1
  have cc := fun {m now g : Int32} {Q : gi_P} => c_39 (d := d) (p := 2 * i + 0) (m := m) (now := now) (g := g) (U := U) (Q := Q) hS (by omega) (by rw [z5]; exact hs)
  rw [z5] at cc
  refine gi_cx_iff ?_ Q
  unfold AD
  simp only [e38, x38_0, x38_1, x38_2, x38_3, x38_4, x38_7, x38_9, x38_10, x38_13, x38_14, x38_15, x38_16, x38_19, x38_22, ldI_1, ldI_2, ldI_3, ldI_4, ldR_0, e29, x29_0, x29_1, x29_4, x29_5, x29_7, x29_8, x29_9, x29_10, x29_11, x29_12, x29_13, x29_14, x29_15, ldI_1, ldI_2, ldI_3, ldR_0, e30, x30_0, x30_1, x30_4, x30_5, x30_6, x30_7, x30_8, x30_9, x30_10, ldI_1, ldI_2, ldR_0, t_qst, l_qst, R_qst, I_pI, R_pI, c_pI, n_pI, u_pI, t_pI, l_pI, I_pR, R_pR, c_pR, n_pR, u_pR, t_pR, l_pR, get_s, Option.toList, List.nil_append, List.cons_append, List.length_nil, List.length_cons, gi_B, tg_1 hS, tg_2 hS, tg_3 hS, tg_4 hS, tg_5 hS, tg_6 hS, tg_7 hS, tg_8 hS, tg_9 hS, tg_10 hS, tg_75 hS, tg_79 hS, tg_80 hS, tg_81 hS, tg_82 hS, tg_83 hS, tg_84 hS, tg_85 hS, tg_86 hS, tg_87 hS, tg_88 hS, tg_89 hS, tg_90 hS, tg_91 hS, tg_92 hS, tg_93 hS, tg_94 hS, tg_95 hS, tg_96 hS, tg_97 hS, tg_98 hS, tg_99 hS, tg_100 hS, tg_101 hS, tg_102 hS, tg_103 hS, tg_104 hS, tg_105 hS, tg_106 hS, tg_107 hS, tg_108 hS, ln_2 hS, ln_3 hS, ln_4 hS, ln_5 hS, ln_7 hS, ln_9 hS, ln_10 hS, ln_75 hS, ln_80 hS, ln_81 hS, ln_82 hS, ln_83 hS, ln_84 hS, ln_85 hS, ln_86 hS, ln_87 hS, ln_88 hS, ln_89 hS, ln_90 hS, ln_91 hS, ln_92 hS, ln_93 hS, ln_94 hS, ln_95 hS, ln_96 hS, ln_97 hS, ln_98 hS, ln_99 hS, ln_100 hS, ln_101 hS, ln_102 hS, ln_103 hS, ln_104 hS, ln_105 hS, ln_106 hS, ln_107 hS, ln_108 hS, rf_1_0 hS, rf_1_1 hS, rf_1_2 hS, rf_1_3 hS, rf_1_4 hS, rf_1_5 hS, rf_1_6 hS, rf_6_0 hS, rf_8_1 hS, rf_8_2 hS, rf_79_1 hS, rf_79_2 hS, rf_79_3 hS, rf_79_4 hS, rf_79_5 hS, rf_79_6 hS, rf_79_7 hS, rf_79_8 hS, rf_79_9 hS, rf_79_10 hS, rf_79_11 hS, rf_79_12 hS, rf_79_13 hS, rf_79_14 hS, rf_79_15 hS, rf_79_16 hS, rf_79_17 hS, rf_79_18 hS, rf_79_19 hS, rf_79_20 hS, rf_79_21 hS, rf_79_22 hS, rf_79_24 hS, rf_79_25 hS, rf_79_26 hS, rf_79_27 hS, rf_79_28 hS, rf_79_29 hS, rf_79_30 hS, true_and, and_true, false_and, and_false, not_true_eq_false, not_false_eq_true, true_implies, false_implies, implies_true, Classical.not_not, ite_true, ite_false, Option.some.injEq, Sum.inl.injEq, exists_eq', eq_self, true_or, or_true, false_or, or_false, Nat.reduceEqDiff, Nat.reduceLeDiff, Nat.reduceAdd, Nat.zero_le, one_ne0, if_neg one_ne0', lt_102_103, lt_102_104, lt_102_105, lt_102_106, lt_99_107, lt_100_107, lt_101_107, lt_103_107, lt_104_107, lt_105_107, lt_106_107, lt_98_99, lt_98_100, lt_98_101, lt_98_106, z0, z1, z2, z3, z4, q1, q2, q3, q4, cc]
theorem c_28_10 {d i m : Nat} {h : gi_H} {Q : gi_P} {S : gi_Z} (hS : gi_S h) (H : QR h S) (hi : i < 16) (hm : m ≤ 100) : gi_cx (d + 3) 28 [.inr (.inr (some 8)), .inl 1, .inl (nI i), .inl 0, .inl (nI m)] h Q ↔ Q (some (.inl (b2 (rf_ S (32 + 2 * i + 0) m (U0 h (32 + 2 * i + 0)))))) h := by
  obtain ⟨q1, q2, q3, q4⟩ := quo hS (p := 32 + 2 * i + 0) (by omega)
  have z0 : ((1 : Int32) * 16 + nI i) * 2 + 0 = nI (32 + 2 * i + 0) := by
    show (nI 1 * 16 + nI i) * 2 + nI 0 = _
    rw [ixC]
    congr 1; omega
  have z1 : vp_in ((1 : Int32) * 2 + 0) 4 := by rw [vp_in_iff]; decide
  have z2 : ((1 : Int32) * 2 + 0).toNatClampNeg = 2 := by decide
  have z3 : gi_I h 10 2 = gr_ S (32 + 2 * i + 0) := by rw [H.1.2.2 2 (by omega), grx_1 hi (by omega)]
  obtain ⟨b1, b2, b3, b4⟩ := H.2.1 (32 + 2 * i + 0) (by omega)
  have cc := fun {Q : gi_P} => c_31 (d := d) (p := 32 + 2 * i + 0) (k := 32 + 2 * i + 0) (m0 := m) (Q := Q) (S := S) hS (by omega) hm b1 b2 (H.1.1 (32 + 2 * i + 0) (by omega)).1 (H.1.1 (32 + 2 * i + 0) (by omega)).2 b3 b4 H.2.2.1 (gr_b H (by omega))
  refine gi_cx_iff ?_ Q
  simp only [e28, x28_0, x28_1, x28_2, x28_3, x28_4, x28_7, x28_9, x28_10, x28_13, x28_14, x28_15, x28_16, x28_19, x28_22, ldI_1, ldI_2, ldI_3, ldI_4, ldR_0, e29, x29_0, x29_1, x29_4, x29_5, x29_7, x29_8, x29_9, x29_10, x29_11, x29_12, x29_13, x29_14, x29_15, ldI_1, ldI_2, ldI_3, ldR_0, e30, x30_0, x30_1, x30_4, x30_5, x30_6, x30_7, x30_8, x30_9, x30_10, ldI_1, ldI_2, ldR_0, I_pI, R_pI, c_pI, n_pI, u_pI, t_pI, l_pI, I_pR, R_pR, c_pR, n_pR, u_pR, t_pR, l_pR, get_s, Option.toList, List.nil_append, List.cons_append, List.length_nil, List.length_cons, gi_B, tg_1 hS, tg_2 hS, tg_3 hS, tg_4 hS, tg_5 hS, tg_6 hS, tg_7 hS, tg_8 hS, tg_9 hS, tg_10 hS, tg_75 hS, tg_79 hS, tg_80 hS, tg_81 hS, tg_82 hS, tg_83 hS, tg_84 hS, tg_85 hS, tg_86 hS, tg_87 hS, tg_88 hS, tg_89 hS, tg_90 hS, tg_91 hS, tg_92 hS, tg_93 hS, tg_94 hS, tg_95 hS, tg_96 hS, tg_97 hS, tg_98 hS, tg_99 hS, tg_100 hS, tg_101 hS, tg_102 hS, tg_103 hS, tg_104 hS, tg_105 hS, tg_106 hS, tg_107 hS, tg_108 hS, ln_2 hS, ln_3 hS, ln_4 hS, ln_5 hS, ln_7 hS, ln_9 hS, ln_10 hS, ln_75 hS, ln_80 hS, ln_81 hS, ln_82 hS, ln_83 hS, ln_84 hS, ln_85 hS, ln_86 hS, ln_87 hS, ln_88 hS, ln_89 hS, ln_90 hS, ln_91 hS, ln_92 hS, ln_93 hS, ln_94 hS, ln_95 hS, ln_96 hS, ln_97 hS, ln_98 hS, ln_99 hS, ln_100 hS, ln_101 hS, ln_102 hS, ln_103 hS, ln_104 hS, ln_105 hS, ln_106 hS, ln_107 hS, ln_108 hS, rf_1_0 hS, rf_1_1 hS, rf_1_2 hS, rf_1_3 hS, rf_1_4 hS, rf_1_5 hS, rf_1_6 hS, rf_6_0 hS, rf_8_1 hS, rf_8_2 hS, rf_79_1 hS, rf_79_2 hS, rf_79_3 hS, rf_79_4 hS, rf_79_5 hS, rf_79_6 hS, rf_79_7 hS, rf_79_8 hS, rf_79_9 hS, rf_79_10 hS, rf_79_11 hS, rf_79_12 hS, rf_79_13 hS, rf_79_14 hS, rf_79_15 hS, rf_79_16 hS, rf_79_17 hS, rf_79_18 hS, rf_79_19 hS, rf_79_20 hS, rf_79_21 hS, rf_79_22 hS, rf_79_24 hS, rf_79_25 hS, rf_79_26 hS, rf_79_27 hS, rf_79_28 hS, rf_79_29 hS, rf_79_30 hS, true_and, and_true, false_and, and_false, not_true_eq_false, not_false_eq_true, true_implies, false_implies, implies_true, Classical.not_not, ite_true, ite_false, Option.some.injEq, Sum.inl.injEq, exists_eq', eq_self, true_or, or_true, false_or, or_false, Nat.reduceEqDiff, Nat.reduceLeDiff, Nat.reduceAdd, Nat.zero_le, one_ne0, if_neg one_ne0', lt_102_103, lt_102_104, lt_102_105, lt_102_106, lt_99_107, lt_100_107, lt_101_107, lt_103_107, lt_104_107, lt_105_107, lt_106_107, lt_98_99, lt_98_100, lt_98_101, lt_98_106, z0, z1, z2, z3, q1, q2, q3, q4, H.1.2.1, cc, b201]
theorem c_38_10 {d i : Nat} {m : Int32} {h : gi_H} {U : gi_T} {Q : gi_P} {S : gi_Z} (hS : gi_S h) (H : QC h S) (hs : -1 ≤ (S 103 (32 + 2 * i + 0)).toInt) (hi : i < 16) : gi_cx (d + 4) 38 [.inr (.inr (some 8)), .inl 1, .inl (nI i), .inl 0, .inl m] (qst h U) Q ↔ Q none (qst h (upq U (32 + 2 * i + 0) (AD S m (32 + 2 * i + 0) (U (32 + 2 * i + 0))))) := by
  obtain ⟨q1, q2, q3, q4⟩ := quo hS (p := 32 + 2 * i + 0) (by omega)
  have z0 : ((1 : Int32) * 16 + nI i) * 2 + 0 = nI (32 + 2 * i + 0) := by
    show (nI 1 * 16 + nI i) * 2 + nI 0 = _
    rw [ixC]
    congr 1; omega
  have z1 : vp_in ((1 : Int32) * 2 + 0) 4 := by rw [vp_in_iff]; decide
  have z2 : ((1 : Int32) * 2 + 0).toNatClampNeg = 2 := by decide
  have z3 : gi_I (qst h U) 10 2 = gr_ S (32 + 2 * i + 0) := by rw [I_qstb (by omega), H.2.2 2 (by omega), grx_1 hi (by omega)]
  have z4 : gi_I (qst h U) 8 0 = S 79 0 := by rw [I_qstb (by omega), H.2.1]
  have z5 := (H.1 (32 + 2 * i + 0) (by omega)).1
  have cc := fun {m now g : Int32} {Q : gi_P} => c_39 (d := d) (p := 32 + 2 * i + 0) (m := m) (now := now) (g := g) (U := U) (Q := Q) hS (by omega) (by rw [z5]; exact hs)
  rw [z5] at cc
  refine gi_cx_iff ?_ Q
  unfold AD
  simp only [e38, x38_0, x38_1, x38_2, x38_3, x38_4, x38_7, x38_9, x38_10, x38_13, x38_14, x38_15, x38_16, x38_19, x38_22, ldI_1, ldI_2, ldI_3, ldI_4, ldR_0, e29, x29_0, x29_1, x29_4, x29_5, x29_7, x29_8, x29_9, x29_10, x29_11, x29_12, x29_13, x29_14, x29_15, ldI_1, ldI_2, ldI_3, ldR_0, e30, x30_0, x30_1, x30_4, x30_5, x30_6, x30_7, x30_8, x30_9, x30_10, ldI_1, ldI_2, ldR_0, t_qst, l_qst, R_qst, I_pI, R_pI, c_pI, n_pI, u_pI, t_pI, l_pI, I_pR, R_pR, c_pR, n_pR, u_pR, t_pR, l_pR, get_s, Option.toList, List.nil_append, List.cons_append, List.length_nil, List.length_cons, gi_B, tg_1 hS, tg_2 hS, tg_3 hS, tg_4 hS, tg_5 hS, tg_6 hS, tg_7 hS, tg_8 hS, tg_9 hS, tg_10 hS, tg_75 hS, tg_79 hS, tg_80 hS, tg_81 hS, tg_82 hS, tg_83 hS, tg_84 hS, tg_85 hS, tg_86 hS, tg_87 hS, tg_88 hS, tg_89 hS, tg_90 hS, tg_91 hS, tg_92 hS, tg_93 hS, tg_94 hS, tg_95 hS, tg_96 hS, tg_97 hS, tg_98 hS, tg_99 hS, tg_100 hS, tg_101 hS, tg_102 hS, tg_103 hS, tg_104 hS, tg_105 hS, tg_106 hS, tg_107 hS, tg_108 hS, ln_2 hS, ln_3 hS, ln_4 hS, ln_5 hS, ln_7 hS, ln_9 hS, ln_10 hS, ln_75 hS, ln_80 hS, ln_81 hS, ln_82 hS, ln_83 hS, ln_84 hS, ln_85 hS, ln_86 hS, ln_87 hS, ln_88 hS, ln_89 hS, ln_90 hS, ln_91 hS, ln_92 hS, ln_93 hS, ln_94 hS, ln_95 hS, ln_96 hS, ln_97 hS, ln_98 hS, ln_99 hS, ln_100 hS, ln_101 hS, ln_102 hS, ln_103 hS, ln_104 hS, ln_105 hS, ln_106 hS, ln_107 hS, ln_108 hS, rf_1_0 hS, rf_1_1 hS, rf_1_2 hS, rf_1_3 hS, rf_1_4 hS, rf_1_5 hS, rf_1_6 hS, rf_6_0 hS, rf_8_1 hS, rf_8_2 hS, rf_79_1 hS, rf_79_2 hS, rf_79_3 hS, rf_79_4 hS, rf_79_5 hS, rf_79_6 hS, rf_79_7 hS, rf_79_8 hS, rf_79_9 hS, rf_79_10 hS, rf_79_11 hS, rf_79_12 hS, rf_79_13 hS, rf_79_14 hS, rf_79_15 hS, rf_79_16 hS, rf_79_17 hS, rf_79_18 hS, rf_79_19 hS, rf_79_20 hS, rf_79_21 hS, rf_79_22 hS, rf_79_24 hS, rf_79_25 hS, rf_79_26 hS, rf_79_27 hS, rf_79_28 hS, rf_79_29 hS, rf_79_30 hS, true_and, and_true, false_and, and_false, not_true_eq_false, not_false_eq_true, true_implies, false_implies, implies_true, Classical.not_not, ite_true, ite_false, Option.some.injEq, Sum.inl.injEq, exists_eq', eq_self, true_or, or_true, false_or, or_false, Nat.reduceEqDiff, Nat.reduceLeDiff, Nat.reduceAdd, Nat.zero_le, one_ne0, if_neg one_ne0', lt_102_103, lt_102_104, lt_102_105, lt_102_106, lt_99_107, lt_100_107, lt_101_107, lt_103_107, lt_104_107, lt_105_107, lt_106_107, lt_98_99, lt_98_100, lt_98_101, lt_98_106, z0, z1, z2, z3, z4, q1, q2, q3, q4, cc]
theorem c_28_01 {d i m : Nat} {h : gi_H} {Q : gi_P} {S : gi_Z} (hS : gi_S h) (H : QR h S) (hi : i < 16) (hm : m ≤ 100) : gi_cx (d + 3) 28 [.inr (.inr (some 8)), .inl 0, .inl (nI i), .inl 1, .inl (nI m)] h Q ↔ Q (some (.inl (b2 (rf_ S (2 * i + 1) m (U0 h (2 * i + 1)))))) h := by
  obtain ⟨q1, q2, q3, q4⟩ := quo hS (p := 2 * i + 1) (by omega)
  have z0 : ((0 : Int32) * 16 + nI i) * 2 + 1 = nI (2 * i + 1) := by
    show (nI 0 * 16 + nI i) * 2 + nI 1 = _
    rw [ixC]
    congr 1; omega
  have z1 : vp_in ((0 : Int32) * 2 + 1) 4 := by rw [vp_in_iff]; decide
  have z2 : ((0 : Int32) * 2 + 1).toNatClampNeg = 1 := by decide
  have z3 : gi_I h 10 1 = gr_ S (2 * i + 1) := by rw [H.1.2.2 1 (by omega), grx_0 hi (by omega)]
  obtain ⟨b1, b2, b3, b4⟩ := H.2.1 (2 * i + 1) (by omega)
  have cc := fun {Q : gi_P} => c_31 (d := d) (p := 2 * i + 1) (k := 2 * i + 1) (m0 := m) (Q := Q) (S := S) hS (by omega) hm b1 b2 (H.1.1 (2 * i + 1) (by omega)).1 (H.1.1 (2 * i + 1) (by omega)).2 b3 b4 H.2.2.1 (gr_b H (by omega))
  refine gi_cx_iff ?_ Q
  simp only [e28, x28_0, x28_1, x28_2, x28_3, x28_4, x28_7, x28_9, x28_10, x28_13, x28_14, x28_15, x28_16, x28_19, x28_22, ldI_1, ldI_2, ldI_3, ldI_4, ldR_0, e29, x29_0, x29_1, x29_4, x29_5, x29_7, x29_8, x29_9, x29_10, x29_11, x29_12, x29_13, x29_14, x29_15, ldI_1, ldI_2, ldI_3, ldR_0, e30, x30_0, x30_1, x30_4, x30_5, x30_6, x30_7, x30_8, x30_9, x30_10, ldI_1, ldI_2, ldR_0, I_pI, R_pI, c_pI, n_pI, u_pI, t_pI, l_pI, I_pR, R_pR, c_pR, n_pR, u_pR, t_pR, l_pR, get_s, Option.toList, List.nil_append, List.cons_append, List.length_nil, List.length_cons, gi_B, tg_1 hS, tg_2 hS, tg_3 hS, tg_4 hS, tg_5 hS, tg_6 hS, tg_7 hS, tg_8 hS, tg_9 hS, tg_10 hS, tg_75 hS, tg_79 hS, tg_80 hS, tg_81 hS, tg_82 hS, tg_83 hS, tg_84 hS, tg_85 hS, tg_86 hS, tg_87 hS, tg_88 hS, tg_89 hS, tg_90 hS, tg_91 hS, tg_92 hS, tg_93 hS, tg_94 hS, tg_95 hS, tg_96 hS, tg_97 hS, tg_98 hS, tg_99 hS, tg_100 hS, tg_101 hS, tg_102 hS, tg_103 hS, tg_104 hS, tg_105 hS, tg_106 hS, tg_107 hS, tg_108 hS, ln_2 hS, ln_3 hS, ln_4 hS, ln_5 hS, ln_7 hS, ln_9 hS, ln_10 hS, ln_75 hS, ln_80 hS, ln_81 hS, ln_82 hS, ln_83 hS, ln_84 hS, ln_85 hS, ln_86 hS, ln_87 hS, ln_88 hS, ln_89 hS, ln_90 hS, ln_91 hS, ln_92 hS, ln_93 hS, ln_94 hS, ln_95 hS, ln_96 hS, ln_97 hS, ln_98 hS, ln_99 hS, ln_100 hS, ln_101 hS, ln_102 hS, ln_103 hS, ln_104 hS, ln_105 hS, ln_106 hS, ln_107 hS, ln_108 hS, rf_1_0 hS, rf_1_1 hS, rf_1_2 hS, rf_1_3 hS, rf_1_4 hS, rf_1_5 hS, rf_1_6 hS, rf_6_0 hS, rf_8_1 hS, rf_8_2 hS, rf_79_1 hS, rf_79_2 hS, rf_79_3 hS, rf_79_4 hS, rf_79_5 hS, rf_79_6 hS, rf_79_7 hS, rf_79_8 hS, rf_79_9 hS, rf_79_10 hS, rf_79_11 hS, rf_79_12 hS, rf_79_13 hS, rf_79_14 hS, rf_79_15 hS, rf_79_16 hS, rf_79_17 hS, rf_79_18 hS, rf_79_19 hS, rf_79_20 hS, rf_79_21 hS, rf_79_22 hS, rf_79_24 hS, rf_79_25 hS, rf_79_26 hS, rf_79_27 hS, rf_79_28 hS, rf_79_29 hS, rf_79_30 hS, true_and, and_true, false_and, and_false, not_true_eq_false, not_false_eq_true, true_implies, false_implies, implies_true, Classical.not_not, ite_true, ite_false, Option.some.injEq, Sum.inl.injEq, exists_eq', eq_self, true_or, or_true, false_or, or_false, Nat.reduceEqDiff, Nat.reduceLeDiff, Nat.reduceAdd, Nat.zero_le, one_ne0, if_neg one_ne0', lt_102_103, lt_102_104, lt_102_105, lt_102_106, lt_99_107, lt_100_107, lt_101_107, lt_103_107, lt_104_107, lt_105_107, lt_106_107, lt_98_99, lt_98_100, lt_98_101, lt_98_106, z0, z1, z2, z3, q1, q2, q3, q4, H.1.2.1, cc, b201]
theorem c_38_01 {d i : Nat} {m : Int32} {h : gi_H} {U : gi_T} {Q : gi_P} {S : gi_Z} (hS : gi_S h) (H : QC h S) (hs : -1 ≤ (S 103 (2 * i + 1)).toInt) (hi : i < 16) : gi_cx (d + 4) 38 [.inr (.inr (some 8)), .inl 0, .inl (nI i), .inl 1, .inl m] (qst h U) Q ↔ Q none (qst h (upq U (2 * i + 1) (AD S m (2 * i + 1) (U (2 * i + 1))))) := by
  obtain ⟨q1, q2, q3, q4⟩ := quo hS (p := 2 * i + 1) (by omega)
  have z0 : ((0 : Int32) * 16 + nI i) * 2 + 1 = nI (2 * i + 1) := by
    show (nI 0 * 16 + nI i) * 2 + nI 1 = _
    rw [ixC]
    congr 1; omega
  have z1 : vp_in ((0 : Int32) * 2 + 1) 4 := by rw [vp_in_iff]; decide
  have z2 : ((0 : Int32) * 2 + 1).toNatClampNeg = 1 := by decide
  have z3 : gi_I (qst h U) 10 1 = gr_ S (2 * i + 1) := by rw [I_qstb (by omega), H.2.2 1 (by omega), grx_0 hi (by omega)]
  have z4 : gi_I (qst h U) 8 0 = S 79 0 := by rw [I_qstb (by omega), H.2.1]
  have z5 := (H.1 (2 * i + 1) (by omega)).1
  have cc := fun {m now g : Int32} {Q : gi_P} => c_39 (d := d) (p := 2 * i + 1) (m := m) (now := now) (g := g) (U := U) (Q := Q) hS (by omega) (by rw [z5]; exact hs)
  rw [z5] at cc
  refine gi_cx_iff ?_ Q
  unfold AD
  simp only [e38, x38_0, x38_1, x38_2, x38_3, x38_4, x38_7, x38_9, x38_10, x38_13, x38_14, x38_15, x38_16, x38_19, x38_22, ldI_1, ldI_2, ldI_3, ldI_4, ldR_0, e29, x29_0, x29_1, x29_4, x29_5, x29_7, x29_8, x29_9, x29_10, x29_11, x29_12, x29_13, x29_14, x29_15, ldI_1, ldI_2, ldI_3, ldR_0, e30, x30_0, x30_1, x30_4, x30_5, x30_6, x30_7, x30_8, x30_9, x30_10, ldI_1, ldI_2, ldR_0, t_qst, l_qst, R_qst, I_pI, R_pI, c_pI, n_pI, u_pI, t_pI, l_pI, I_pR, R_pR, c_pR, n_pR, u_pR, t_pR, l_pR, get_s, Option.toList, List.nil_append, List.cons_append, List.length_nil, List.length_cons, gi_B, tg_1 hS, tg_2 hS, tg_3 hS, tg_4 hS, tg_5 hS, tg_6 hS, tg_7 hS, tg_8 hS, tg_9 hS, tg_10 hS, tg_75 hS, tg_79 hS, tg_80 hS, tg_81 hS, tg_82 hS, tg_83 hS, tg_84 hS, tg_85 hS, tg_86 hS, tg_87 hS, tg_88 hS, tg_89 hS, tg_90 hS, tg_91 hS, tg_92 hS, tg_93 hS, tg_94 hS, tg_95 hS, tg_96 hS, tg_97 hS, tg_98 hS, tg_99 hS, tg_100 hS, tg_101 hS, tg_102 hS, tg_103 hS, tg_104 hS, tg_105 hS, tg_106 hS, tg_107 hS, tg_108 hS, ln_2 hS, ln_3 hS, ln_4 hS, ln_5 hS, ln_7 hS, ln_9 hS, ln_10 hS, ln_75 hS, ln_80 hS, ln_81 hS, ln_82 hS, ln_83 hS, ln_84 hS, ln_85 hS, ln_86 hS, ln_87 hS, ln_88 hS, ln_89 hS, ln_90 hS, ln_91 hS, ln_92 hS, ln_93 hS, ln_94 hS, ln_95 hS, ln_96 hS, ln_97 hS, ln_98 hS, ln_99 hS, ln_100 hS, ln_101 hS, ln_102 hS, ln_103 hS, ln_104 hS, ln_105 hS, ln_106 hS, ln_107 hS, ln_108 hS, rf_1_0 hS, rf_1_1 hS, rf_1_2 hS, rf_1_3 hS, rf_1_4 hS, rf_1_5 hS, rf_1_6 hS, rf_6_0 hS, rf_8_1 hS, rf_8_2 hS, rf_79_1 hS, rf_79_2 hS, rf_79_3 hS, rf_79_4 hS, rf_79_5 hS, rf_79_6 hS, rf_79_7 hS, rf_79_8 hS, rf_79_9 hS, rf_79_10 hS, rf_79_11 hS, rf_79_12 hS, rf_79_13 hS, rf_79_14 hS, rf_79_15 hS, rf_79_16 hS, rf_79_17 hS, rf_79_18 hS, rf_79_19 hS, rf_79_20 hS, rf_79_21 hS, rf_79_22 hS, rf_79_24 hS, rf_79_25 hS, rf_79_26 hS, rf_79_27 hS, rf_79_28 hS, rf_79_29 hS, rf_79_30 hS, true_and, and_true, false_and, and_false, not_true_eq_false, not_false_eq_true, true_implies, false_implies, implies_true, Classical.not_not, ite_true, ite_false, Option.some.injEq, Sum.inl.injEq, exists_eq', eq_self, true_or, or_true, false_or, or_false, Nat.reduceEqDiff, Nat.reduceLeDiff, Nat.reduceAdd, Nat.zero_le, one_ne0, if_neg one_ne0', lt_102_103, lt_102_104, lt_102_105, lt_102_106, lt_99_107, lt_100_107, lt_101_107, lt_103_107, lt_104_107, lt_105_107, lt_106_107, lt_98_99, lt_98_100, lt_98_101, lt_98_106, z0, z1, z2, z3, z4, q1, q2, q3, q4, cc]
theorem c_28_11 {d i m : Nat} {h : gi_H} {Q : gi_P} {S : gi_Z} (hS : gi_S h) (H : QR h S) (hi : i < 16) (hm : m ≤ 100) : gi_cx (d + 3) 28 [.inr (.inr (some 8)), .inl 1, .inl (nI i), .inl 1, .inl (nI m)] h Q ↔ Q (some (.inl (b2 (rf_ S (32 + 2 * i + 1) m (U0 h (32 + 2 * i + 1)))))) h := by
  obtain ⟨q1, q2, q3, q4⟩ := quo hS (p := 32 + 2 * i + 1) (by omega)
  have z0 : ((1 : Int32) * 16 + nI i) * 2 + 1 = nI (32 + 2 * i + 1) := by
    show (nI 1 * 16 + nI i) * 2 + nI 1 = _
    rw [ixC]
    congr 1; omega
  have z1 : vp_in ((1 : Int32) * 2 + 1) 4 := by rw [vp_in_iff]; decide
  have z2 : ((1 : Int32) * 2 + 1).toNatClampNeg = 3 := by decide
  have z3 : gi_I h 10 3 = gr_ S (32 + 2 * i + 1) := by rw [H.1.2.2 3 (by omega), grx_1 hi (by omega)]
  obtain ⟨b1, b2, b3, b4⟩ := H.2.1 (32 + 2 * i + 1) (by omega)
  have cc := fun {Q : gi_P} => c_31 (d := d) (p := 32 + 2 * i + 1) (k := 32 + 2 * i + 1) (m0 := m) (Q := Q) (S := S) hS (by omega) hm b1 b2 (H.1.1 (32 + 2 * i + 1) (by omega)).1 (H.1.1 (32 + 2 * i + 1) (by omega)).2 b3 b4 H.2.2.1 (gr_b H (by omega))
  refine gi_cx_iff ?_ Q
  simp only [e28, x28_0, x28_1, x28_2, x28_3, x28_4, x28_7, x28_9, x28_10, x28_13, x28_14, x28_15, x28_16, x28_19, x28_22, ldI_1, ldI_2, ldI_3, ldI_4, ldR_0, e29, x29_0, x29_1, x29_4, x29_5, x29_7, x29_8, x29_9, x29_10, x29_11, x29_12, x29_13, x29_14, x29_15, ldI_1, ldI_2, ldI_3, ldR_0, e30, x30_0, x30_1, x30_4, x30_5, x30_6, x30_7, x30_8, x30_9, x30_10, ldI_1, ldI_2, ldR_0, I_pI, R_pI, c_pI, n_pI, u_pI, t_pI, l_pI, I_pR, R_pR, c_pR, n_pR, u_pR, t_pR, l_pR, get_s, Option.toList, List.nil_append, List.cons_append, List.length_nil, List.length_cons, gi_B, tg_1 hS, tg_2 hS, tg_3 hS, tg_4 hS, tg_5 hS, tg_6 hS, tg_7 hS, tg_8 hS, tg_9 hS, tg_10 hS, tg_75 hS, tg_79 hS, tg_80 hS, tg_81 hS, tg_82 hS, tg_83 hS, tg_84 hS, tg_85 hS, tg_86 hS, tg_87 hS, tg_88 hS, tg_89 hS, tg_90 hS, tg_91 hS, tg_92 hS, tg_93 hS, tg_94 hS, tg_95 hS, tg_96 hS, tg_97 hS, tg_98 hS, tg_99 hS, tg_100 hS, tg_101 hS, tg_102 hS, tg_103 hS, tg_104 hS, tg_105 hS, tg_106 hS, tg_107 hS, tg_108 hS, ln_2 hS, ln_3 hS, ln_4 hS, ln_5 hS, ln_7 hS, ln_9 hS, ln_10 hS, ln_75 hS, ln_80 hS, ln_81 hS, ln_82 hS, ln_83 hS, ln_84 hS, ln_85 hS, ln_86 hS, ln_87 hS, ln_88 hS, ln_89 hS, ln_90 hS, ln_91 hS, ln_92 hS, ln_93 hS, ln_94 hS, ln_95 hS, ln_96 hS, ln_97 hS, ln_98 hS, ln_99 hS, ln_100 hS, ln_101 hS, ln_102 hS, ln_103 hS, ln_104 hS, ln_105 hS, ln_106 hS, ln_107 hS, ln_108 hS, rf_1_0 hS, rf_1_1 hS, rf_1_2 hS, rf_1_3 hS, rf_1_4 hS, rf_1_5 hS, rf_1_6 hS, rf_6_0 hS, rf_8_1 hS, rf_8_2 hS, rf_79_1 hS, rf_79_2 hS, rf_79_3 hS, rf_79_4 hS, rf_79_5 hS, rf_79_6 hS, rf_79_7 hS, rf_79_8 hS, rf_79_9 hS, rf_79_10 hS, rf_79_11 hS, rf_79_12 hS, rf_79_13 hS, rf_79_14 hS, rf_79_15 hS, rf_79_16 hS, rf_79_17 hS, rf_79_18 hS, rf_79_19 hS, rf_79_20 hS, rf_79_21 hS, rf_79_22 hS, rf_79_24 hS, rf_79_25 hS, rf_79_26 hS, rf_79_27 hS, rf_79_28 hS, rf_79_29 hS, rf_79_30 hS, true_and, and_true, false_and, and_false, not_true_eq_false, not_false_eq_true, true_implies, false_implies, implies_true, Classical.not_not, ite_true, ite_false, Option.some.injEq, Sum.inl.injEq, exists_eq', eq_self, true_or, or_true, false_or, or_false, Nat.reduceEqDiff, Nat.reduceLeDiff, Nat.reduceAdd, Nat.zero_le, one_ne0, if_neg one_ne0', lt_102_103, lt_102_104, lt_102_105, lt_102_106, lt_99_107, lt_100_107, lt_101_107, lt_103_107, lt_104_107, lt_105_107, lt_106_107, lt_98_99, lt_98_100, lt_98_101, lt_98_106, z0, z1, z2, z3, q1, q2, q3, q4, H.1.2.1, cc, b201]
theorem c_38_11 {d i : Nat} {m : Int32} {h : gi_H} {U : gi_T} {Q : gi_P} {S : gi_Z} (hS : gi_S h) (H : QC h S) (hs : -1 ≤ (S 103 (32 + 2 * i + 1)).toInt) (hi : i < 16) : gi_cx (d + 4) 38 [.inr (.inr (some 8)), .inl 1, .inl (nI i), .inl 1, .inl m] (qst h U) Q ↔ Q none (qst h (upq U (32 + 2 * i + 1) (AD S m (32 + 2 * i + 1) (U (32 + 2 * i + 1))))) := by
  obtain ⟨q1, q2, q3, q4⟩ := quo hS (p := 32 + 2 * i + 1) (by omega)
  have z0 : ((1 : Int32) * 16 + nI i) * 2 + 1 = nI (32 + 2 * i + 1) := by
    show (nI 1 * 16 + nI i) * 2 + nI 1 = _
    rw [ixC]
    congr 1; omega
  have z1 : vp_in ((1 : Int32) * 2 + 1) 4 := by rw [vp_in_iff]; decide
  have z2 : ((1 : Int32) * 2 + 1).toNatClampNeg = 3 := by decide
  have z3 : gi_I (qst h U) 10 3 = gr_ S (32 + 2 * i + 1) := by rw [I_qstb (by omega), H.2.2 3 (by omega), grx_1 hi (by omega)]
  have z4 : gi_I (qst h U) 8 0 = S 79 0 := by rw [I_qstb (by omega), H.2.1]
  have z5 := (H.1 (32 + 2 * i + 1) (by omega)).1
  have cc := fun {m now g : Int32} {Q : gi_P} => c_39 (d := d) (p := 32 + 2 * i + 1) (m := m) (now := now) (g := g) (U := U) (Q := Q) hS (by omega) (by rw [z5]; exact hs)
  rw [z5] at cc
  refine gi_cx_iff ?_ Q
  unfold AD
  simp only [e38, x38_0, x38_1, x38_2, x38_3, x38_4, x38_7, x38_9, x38_10, x38_13, x38_14, x38_15, x38_16, x38_19, x38_22, ldI_1, ldI_2, ldI_3, ldI_4, ldR_0, e29, x29_0, x29_1, x29_4, x29_5, x29_7, x29_8, x29_9, x29_10, x29_11, x29_12, x29_13, x29_14, x29_15, ldI_1, ldI_2, ldI_3, ldR_0, e30, x30_0, x30_1, x30_4, x30_5, x30_6, x30_7, x30_8, x30_9, x30_10, ldI_1, ldI_2, ldR_0, t_qst, l_qst, R_qst, I_pI, R_pI, c_pI, n_pI, u_pI, t_pI, l_pI, I_pR, R_pR, c_pR, n_pR, u_pR, t_pR, l_pR, get_s, Option.toList, List.nil_append, List.cons_append, List.length_nil, List.length_cons, gi_B, tg_1 hS, tg_2 hS, tg_3 hS, tg_4 hS, tg_5 hS, tg_6 hS, tg_7 hS, tg_8 hS, tg_9 hS, tg_10 hS, tg_75 hS, tg_79 hS, tg_80 hS, tg_81 hS, tg_82 hS, tg_83 hS, tg_84 hS, tg_85 hS, tg_86 hS, tg_87 hS, tg_88 hS, tg_89 hS, tg_90 hS, tg_91 hS, tg_92 hS, tg_93 hS, tg_94 hS, tg_95 hS, tg_96 hS, tg_97 hS, tg_98 hS, tg_99 hS, tg_100 hS, tg_101 hS, tg_102 hS, tg_103 hS, tg_104 hS, tg_105 hS, tg_106 hS, tg_107 hS, tg_108 hS, ln_2 hS, ln_3 hS, ln_4 hS, ln_5 hS, ln_7 hS, ln_9 hS, ln_10 hS, ln_75 hS, ln_80 hS, ln_81 hS, ln_82 hS, ln_83 hS, ln_84 hS, ln_85 hS, ln_86 hS, ln_87 hS, ln_88 hS, ln_89 hS, ln_90 hS, ln_91 hS, ln_92 hS, ln_93 hS, ln_94 hS, ln_95 hS, ln_96 hS, ln_97 hS, ln_98 hS, ln_99 hS, ln_100 hS, ln_101 hS, ln_102 hS, ln_103 hS, ln_104 hS, ln_105 hS, ln_106 hS, ln_107 hS, ln_108 hS, rf_1_0 hS, rf_1_1 hS, rf_1_2 hS, rf_1_3 hS, rf_1_4 hS, rf_1_5 hS, rf_1_6 hS, rf_6_0 hS, rf_8_1 hS, rf_8_2 hS, rf_79_1 hS, rf_79_2 hS, rf_79_3 hS, rf_79_4 hS, rf_79_5 hS, rf_79_6 hS, rf_79_7 hS, rf_79_8 hS, rf_79_9 hS, rf_79_10 hS, rf_79_11 hS, rf_79_12 hS, rf_79_13 hS, rf_79_14 hS, rf_79_15 hS, rf_79_16 hS, rf_79_17 hS, rf_79_18 hS, rf_79_19 hS, rf_79_20 hS, rf_79_21 hS, rf_79_22 hS, rf_79_24 hS, rf_79_25 hS, rf_79_26 hS, rf_79_27 hS, rf_79_28 hS, rf_79_29 hS, rf_79_30 hS, true_and, and_true, false_and, and_false, not_true_eq_false, not_false_eq_true, true_implies, false_implies, implies_true, Classical.not_not, ite_true, ite_false, Option.some.injEq, Sum.inl.injEq, exists_eq', eq_self, true_or, or_true, false_or, or_false, Nat.reduceEqDiff, Nat.reduceLeDiff, Nat.reduceAdd, Nat.zero_le, one_ne0, if_neg one_ne0', lt_102_103, lt_102_104, lt_102_105, lt_102_106, lt_99_107, lt_100_107, lt_101_107, lt_103_107, lt_104_107, lt_105_107, lt_106_107, lt_98_99, lt_98_100, lt_98_101, lt_98_106, z0, z1, z2, z3, z4, q1, q2, q3, q4, cc]
theorem c_27_0 {d u i a ow gr m : Nat} {h : gi_H} {Q : gi_P} {S : gi_Z} (hS : gi_S h) (H : QR h S) (hu : u < 16) (hi : i < 64) (ho : ow < 16) (hg : gr < 16) (ta : gi_tag h (some a) = 5) (e1 : gi_I h a 2 = nI ow) (e2 : gi_I h a 3 = nI gr) (hm : m ≤ 100) : gi_cx (d + 4) 27 [.inr (.inr (some 1)), .inl (nI u), .inl (nI i), .inr (.inr (some a)), .inl 0, .inl (nI m)] h Q ↔ Q (some (.inl (b2 ((!(decide (u = 0) || decide (i = 0))) && (rf_ S (2 * ow + 0) m (U0 h (2 * ow + 0)) || rf_ S (32 + 2 * gr + 0) m (U0 h (32 + 2 * gr + 0))))))) h := by
  have n1 : (nI i = 0) = (i = 0) := propext (nI_eq (a := i) (b := 0) (by omega) (by omega))
  refine gi_cx_iff ?_ Q
  rcases em_ (u = 0) with a1 | a1
  · simp only [e27, x27_0, x27_1, x27_4, x27_5, x27_8, x27_9, x27_10, x27_11, x27_14, x27_15, x27_16, x27_19, x27_21, x27_23, x27_26, x27_29, x27_30, x27_33, x27_34, x27_35, x27_38, x27_40, x27_42, x27_45, x27_48, x27_49, x27_52, x27_53, ldI_1, ldI_2, ldI_4, ldI_5, ldR_0, ldR_3, I_pI, R_pI, c_pI, n_pI, u_pI, t_pI, l_pI, I_pR, R_pR, c_pR, n_pR, u_pR, t_pR, l_pR, get_s, Option.toList, List.nil_append, List.cons_append, List.length_nil, List.length_cons, gi_B, true_and, and_true, false_and, and_false, not_true_eq_false, not_false_eq_true, true_implies, false_implies, implies_true, Classical.not_not, ite_true, ite_false, Option.some.injEq, Sum.inl.injEq, exists_eq', eq_self, true_or, or_true, false_or, or_false, Nat.reduceEqDiff, Nat.reduceLeDiff, Nat.reduceAdd, Nat.zero_le, one_ne0, if_neg one_ne0', lt_102_103, lt_102_104, lt_102_105, lt_102_106, lt_99_107, lt_100_107, lt_101_107, lt_103_107, lt_104_107, lt_105_107, lt_106_107, lt_98_99, lt_98_100, lt_98_101, lt_98_106, nI_0iff hu, a1, b2f, decide_true, decide_false, Bool.not_true, Bool.not_false, Bool.true_and, Bool.false_and, Bool.and_true, Bool.and_false, cond_true, cond_false, Bool.true_or]
  · rcases em_ (i = 0) with a2 | a2
    · simp only [e27, x27_0, x27_1, x27_4, x27_5, x27_8, x27_9, x27_10, x27_11, x27_14, x27_15, x27_16, x27_19, x27_21, x27_23, x27_26, x27_29, x27_30, x27_33, x27_34, x27_35, x27_38, x27_40, x27_42, x27_45, x27_48, x27_49, x27_52, x27_53, ldI_1, ldI_2, ldI_4, ldI_5, ldR_0, ldR_3, I_pI, R_pI, c_pI, n_pI, u_pI, t_pI, l_pI, I_pR, R_pR, c_pR, n_pR, u_pR, t_pR, l_pR, get_s, Option.toList, List.nil_append, List.cons_append, List.length_nil, List.length_cons, gi_B, true_and, and_true, false_and, and_false, not_true_eq_false, not_false_eq_true, true_implies, false_implies, implies_true, Classical.not_not, ite_true, ite_false, Option.some.injEq, Sum.inl.injEq, exists_eq', eq_self, true_or, or_true, false_or, or_false, Nat.reduceEqDiff, Nat.reduceLeDiff, Nat.reduceAdd, Nat.zero_le, one_ne0, if_neg one_ne0', lt_102_103, lt_102_104, lt_102_105, lt_102_106, lt_99_107, lt_100_107, lt_101_107, lt_103_107, lt_104_107, lt_105_107, lt_106_107, lt_98_99, lt_98_100, lt_98_101, lt_98_106, nI_0iff hu, n1, a1, a2, b2f, decide_true, decide_false, Bool.not_true, Bool.not_false, Bool.true_and, Bool.false_and, Bool.and_true, Bool.and_false, cond_true, cond_false, Bool.or_true]
    · cases r1 : rf_ S (2 * ow + 0) m (U0 h (2 * ow + 0)) <;> cases r2 : rf_ S (32 + 2 * gr + 0) m (U0 h (32 + 2 * gr + 0)) <;> simp only [e27, x27_0, x27_1, x27_4, x27_5, x27_8, x27_9, x27_10, x27_11, x27_14, x27_15, x27_16, x27_19, x27_21, x27_23, x27_26, x27_29, x27_30, x27_33, x27_34, x27_35, x27_38, x27_40, x27_42, x27_45, x27_48, x27_49, x27_52, x27_53, ldI_1, ldI_2, ldI_4, ldI_5, ldR_0, ldR_3, I_pI, R_pI, c_pI, n_pI, u_pI, t_pI, l_pI, I_pR, R_pR, c_pR, n_pR, u_pR, t_pR, l_pR, get_s, Option.toList, List.nil_append, List.cons_append, List.length_nil, List.length_cons, gi_B, tg_1 hS, tg_2 hS, tg_3 hS, tg_4 hS, tg_5 hS, tg_6 hS, tg_7 hS, tg_8 hS, tg_9 hS, tg_10 hS, tg_75 hS, tg_79 hS, tg_80 hS, tg_81 hS, tg_82 hS, tg_83 hS, tg_84 hS, tg_85 hS, tg_86 hS, tg_87 hS, tg_88 hS, tg_89 hS, tg_90 hS, tg_91 hS, tg_92 hS, tg_93 hS, tg_94 hS, tg_95 hS, tg_96 hS, tg_97 hS, tg_98 hS, tg_99 hS, tg_100 hS, tg_101 hS, tg_102 hS, tg_103 hS, tg_104 hS, tg_105 hS, tg_106 hS, tg_107 hS, tg_108 hS, ln_2 hS, ln_3 hS, ln_4 hS, ln_5 hS, ln_7 hS, ln_9 hS, ln_10 hS, ln_75 hS, ln_80 hS, ln_81 hS, ln_82 hS, ln_83 hS, ln_84 hS, ln_85 hS, ln_86 hS, ln_87 hS, ln_88 hS, ln_89 hS, ln_90 hS, ln_91 hS, ln_92 hS, ln_93 hS, ln_94 hS, ln_95 hS, ln_96 hS, ln_97 hS, ln_98 hS, ln_99 hS, ln_100 hS, ln_101 hS, ln_102 hS, ln_103 hS, ln_104 hS, ln_105 hS, ln_106 hS, ln_107 hS, ln_108 hS, rf_1_0 hS, rf_1_1 hS, rf_1_2 hS, rf_1_3 hS, rf_1_4 hS, rf_1_5 hS, rf_1_6 hS, rf_6_0 hS, rf_8_1 hS, rf_8_2 hS, rf_79_1 hS, rf_79_2 hS, rf_79_3 hS, rf_79_4 hS, rf_79_5 hS, rf_79_6 hS, rf_79_7 hS, rf_79_8 hS, rf_79_9 hS, rf_79_10 hS, rf_79_11 hS, rf_79_12 hS, rf_79_13 hS, rf_79_14 hS, rf_79_15 hS, rf_79_16 hS, rf_79_17 hS, rf_79_18 hS, rf_79_19 hS, rf_79_20 hS, rf_79_21 hS, rf_79_22 hS, rf_79_24 hS, rf_79_25 hS, rf_79_26 hS, rf_79_27 hS, rf_79_28 hS, rf_79_29 hS, rf_79_30 hS, true_and, and_true, false_and, and_false, not_true_eq_false, not_false_eq_true, true_implies, false_implies, implies_true, Classical.not_not, ite_true, ite_false, Option.some.injEq, Sum.inl.injEq, exists_eq', eq_self, true_or, or_true, false_or, or_false, Nat.reduceEqDiff, Nat.reduceLeDiff, Nat.reduceAdd, Nat.zero_le, one_ne0, if_neg one_ne0', lt_102_103, lt_102_104, lt_102_105, lt_102_106, lt_99_107, lt_100_107, lt_101_107, lt_103_107, lt_104_107, lt_105_107, lt_106_107, lt_98_99, lt_98_100, lt_98_101, lt_98_106, nI_0iff hu, n1, a1, a2, ta, e1, e2, c_28_00 hS H ho hm, c_28_10 hS H hg hm, r1, r2, b2t, b2f, decide_true, decide_false, Bool.not_true, Bool.not_false, Bool.true_and, Bool.false_and, Bool.and_true, Bool.and_false, cond_true, cond_false, Bool.or_self, Bool.or_true, Bool.true_or, Bool.or_false]
theorem c_37_0 {d i a ow gr : Nat} {m : Int32} {h : gi_H} {Q : gi_P} {S : gi_Z} (hS : gi_S h) (H : QC h S) (hs : ∀ p, p < 64 → -1 ≤ (S 103 p).toInt) (h0 : 0 < i) (hi : i < 64) (da : dy a) (ho : ow < 16) (hg : gr < 16) (ta : gi_tag h (some a) = 5) (e1 : gi_I h a 2 = nI ow) (e2 : gi_I h a 3 = nI gr) : gi_cx (d + 5) 37 [.inr (.inr (some 1)), .inl (nI i), .inr (.inr (some a)), .inl 0, .inl m] h Q ↔ Q none (qst h (bo_ (AD S m) (2 * ow + 0) (32 + 2 * gr + 0) (U0 h))) := by
  have n1 : (nI i = 0) = False := eq_false (nI_ne0 h0 (by omega))
  have z3 : upq (U0 h) (2 * ow + 0) (AD S m (2 * ow + 0) (U0 h (2 * ow + 0))) (32 + 2 * gr + 0) = U0 h (32 + 2 * gr + 0) := upq_ne (by omega)
  have z4 := bo_u (F := AD S m) (T := U0 h) (p := 2 * ow + 0) (q := 32 + 2 * gr + 0) (by omega)
  rw [z3] at z4
  have e2' : ∀ U, gi_I (qst h U) a 3 = nI gr := fun U => by rw [I_qstb (by unfold dy at da; omega)]; exact e2
  have f1 := fun {Q : gi_P} => c_38_00 (d := d) (m := m) (U := U0 h) (Q := Q) hS H (hs (2 * ow + 0) (by omega)) ho
  rw [qst_self] at f1
  refine gi_cx_iff ?_ Q
  simp only [e37, x37_0, x37_1, x37_4, x37_5, x37_8, x37_9, x37_10, x37_13, x37_14, x37_16, x37_19, x37_20, x37_23, x37_24, x37_25, x37_28, x37_29, x37_31, x37_34, ldI_1, ldI_3, ldI_4, ldR_0, ldR_2, t_qst, R_qst, I_pI, R_pI, c_pI, n_pI, u_pI, t_pI, l_pI, I_pR, R_pR, c_pR, n_pR, u_pR, t_pR, l_pR, get_s, Option.toList, List.nil_append, List.cons_append, List.length_nil, List.length_cons, gi_B, tg_1 hS, tg_2 hS, tg_3 hS, tg_4 hS, tg_5 hS, tg_6 hS, tg_7 hS, tg_8 hS, tg_9 hS, tg_10 hS, tg_75 hS, tg_79 hS, tg_80 hS, tg_81 hS, tg_82 hS, tg_83 hS, tg_84 hS, tg_85 hS, tg_86 hS, tg_87 hS, tg_88 hS, tg_89 hS, tg_90 hS, tg_91 hS, tg_92 hS, tg_93 hS, tg_94 hS, tg_95 hS, tg_96 hS, tg_97 hS, tg_98 hS, tg_99 hS, tg_100 hS, tg_101 hS, tg_102 hS, tg_103 hS, tg_104 hS, tg_105 hS, tg_106 hS, tg_107 hS, tg_108 hS, ln_2 hS, ln_3 hS, ln_4 hS, ln_5 hS, ln_7 hS, ln_9 hS, ln_10 hS, ln_75 hS, ln_80 hS, ln_81 hS, ln_82 hS, ln_83 hS, ln_84 hS, ln_85 hS, ln_86 hS, ln_87 hS, ln_88 hS, ln_89 hS, ln_90 hS, ln_91 hS, ln_92 hS, ln_93 hS, ln_94 hS, ln_95 hS, ln_96 hS, ln_97 hS, ln_98 hS, ln_99 hS, ln_100 hS, ln_101 hS, ln_102 hS, ln_103 hS, ln_104 hS, ln_105 hS, ln_106 hS, ln_107 hS, ln_108 hS, rf_1_0 hS, rf_1_1 hS, rf_1_2 hS, rf_1_3 hS, rf_1_4 hS, rf_1_5 hS, rf_1_6 hS, rf_6_0 hS, rf_8_1 hS, rf_8_2 hS, rf_79_1 hS, rf_79_2 hS, rf_79_3 hS, rf_79_4 hS, rf_79_5 hS, rf_79_6 hS, rf_79_7 hS, rf_79_8 hS, rf_79_9 hS, rf_79_10 hS, rf_79_11 hS, rf_79_12 hS, rf_79_13 hS, rf_79_14 hS, rf_79_15 hS, rf_79_16 hS, rf_79_17 hS, rf_79_18 hS, rf_79_19 hS, rf_79_20 hS, rf_79_21 hS, rf_79_22 hS, rf_79_24 hS, rf_79_25 hS, rf_79_26 hS, rf_79_27 hS, rf_79_28 hS, rf_79_29 hS, rf_79_30 hS, true_and, and_true, false_and, and_false, not_true_eq_false, not_false_eq_true, true_implies, false_implies, implies_true, Classical.not_not, ite_true, ite_false, Option.some.injEq, Sum.inl.injEq, exists_eq', eq_self, true_or, or_true, false_or, or_false, Nat.reduceEqDiff, Nat.reduceLeDiff, Nat.reduceAdd, Nat.zero_le, one_ne0, if_neg one_ne0', lt_102_103, lt_102_104, lt_102_105, lt_102_106, lt_99_107, lt_100_107, lt_101_107, lt_103_107, lt_104_107, lt_105_107, lt_106_107, lt_98_99, lt_98_100, lt_98_101, lt_98_106, n1, ta, e1, e2', f1, c_38_10 hS H (hs (32 + 2 * gr + 0) (by omega)) hg, z3, z4]
theorem c_37_0z {d a : Nat} {m : Int32} {h : gi_H} {Q : gi_P} : gi_cx (d + 5) 37 [.inr (.inr (some 1)), .inl (nI 0), .inr (.inr (some a)), .inl 0, .inl m] h Q ↔ Q none h := by
  have n1 : (nI 0 = 0) = True := eq_true rfl
  refine gi_cx_iff ?_ Q
  simp only [e37, x37_0, x37_1, x37_4, x37_5, x37_8, x37_9, x37_10, x37_13, x37_14, x37_16, x37_19, x37_20, x37_23, x37_24, x37_25, x37_28, x37_29, x37_31, x37_34, ldI_1, ldI_3, ldI_4, ldR_0, ldR_2, I_pI, R_pI, c_pI, n_pI, u_pI, t_pI, l_pI, I_pR, R_pR, c_pR, n_pR, u_pR, t_pR, l_pR, get_s, Option.toList, List.nil_append, List.cons_append, List.length_nil, List.length_cons, gi_B, true_and, and_true, false_and, and_false, not_true_eq_false, not_false_eq_true, true_implies, false_implies, implies_true, Classical.not_not, ite_true, ite_false, Option.some.injEq, Sum.inl.injEq, exists_eq', eq_self, true_or, or_true, false_or, or_false, Nat.reduceEqDiff, Nat.reduceLeDiff, Nat.reduceAdd, Nat.zero_le, one_ne0, if_neg one_ne0', lt_102_103, lt_102_104, lt_102_105, lt_102_106, lt_99_107, lt_100_107, lt_101_107, lt_103_107, lt_104_107, lt_105_107, lt_106_107, lt_98_99, lt_98_100, lt_98_101, lt_98_106, n1]
theorem c_27_1 {d u i a ow gr m : Nat} {h : gi_H} {Q : gi_P} {S : gi_Z} (hS : gi_S h) (H : QR h S) (hu : u < 16) (hi : i < 64) (ho : ow < 16) (hg : gr < 16) (ta : gi_tag h (some a) = 5) (e1 : gi_I h a 2 = nI ow) (e2 : gi_I h a 3 = nI gr) (hm : m ≤ 100) : gi_cx (d + 4) 27 [.inr (.inr (some 1)), .inl (nI u), .inl (nI i), .inr (.inr (some a)), .inl 1, .inl (nI m)] h Q ↔ Q (some (.inl (b2 ((!(decide (u = 0) || decide (i = 0))) && (rf_ S (2 * ow + 1) m (U0 h (2 * ow + 1)) || rf_ S (32 + 2 * gr + 1) m (U0 h (32 + 2 * gr + 1))))))) h := by
  have n1 : (nI i = 0) = (i = 0) := propext (nI_eq (a := i) (b := 0) (by omega) (by omega))
  refine gi_cx_iff ?_ Q
  rcases em_ (u = 0) with a1 | a1
  · simp only [e27, x27_0, x27_1, x27_4, x27_5, x27_8, x27_9, x27_10, x27_11, x27_14, x27_15, x27_16, x27_19, x27_21, x27_23, x27_26, x27_29, x27_30, x27_33, x27_34, x27_35, x27_38, x27_40, x27_42, x27_45, x27_48, x27_49, x27_52, x27_53, ldI_1, ldI_2, ldI_4, ldI_5, ldR_0, ldR_3, I_pI, R_pI, c_pI, n_pI, u_pI, t_pI, l_pI, I_pR, R_pR, c_pR, n_pR, u_pR, t_pR, l_pR, get_s, Option.toList, List.nil_append, List.cons_append, List.length_nil, List.length_cons, gi_B, true_and, and_true, false_and, and_false, not_true_eq_false, not_false_eq_true, true_implies, false_implies, implies_true, Classical.not_not, ite_true, ite_false, Option.some.injEq, Sum.inl.injEq, exists_eq', eq_self, true_or, or_true, false_or, or_false, Nat.reduceEqDiff, Nat.reduceLeDiff, Nat.reduceAdd, Nat.zero_le, one_ne0, if_neg one_ne0', lt_102_103, lt_102_104, lt_102_105, lt_102_106, lt_99_107, lt_100_107, lt_101_107, lt_103_107, lt_104_107, lt_105_107, lt_106_107, lt_98_99, lt_98_100, lt_98_101, lt_98_106, nI_0iff hu, a1, b2f, decide_true, decide_false, Bool.not_true, Bool.not_false, Bool.true_and, Bool.false_and, Bool.and_true, Bool.and_false, cond_true, cond_false, Bool.true_or]
  · rcases em_ (i = 0) with a2 | a2
    · simp only [e27, x27_0, x27_1, x27_4, x27_5, x27_8, x27_9, x27_10, x27_11, x27_14, x27_15, x27_16, x27_19, x27_21, x27_23, x27_26, x27_29, x27_30, x27_33, x27_34, x27_35, x27_38, x27_40, x27_42, x27_45, x27_48, x27_49, x27_52, x27_53, ldI_1, ldI_2, ldI_4, ldI_5, ldR_0, ldR_3, I_pI, R_pI, c_pI, n_pI, u_pI, t_pI, l_pI, I_pR, R_pR, c_pR, n_pR, u_pR, t_pR, l_pR, get_s, Option.toList, List.nil_append, List.cons_append, List.length_nil, List.length_cons, gi_B, true_and, and_true, false_and, and_false, not_true_eq_false, not_false_eq_true, true_implies, false_implies, implies_true, Classical.not_not, ite_true, ite_false, Option.some.injEq, Sum.inl.injEq, exists_eq', eq_self, true_or, or_true, false_or, or_false, Nat.reduceEqDiff, Nat.reduceLeDiff, Nat.reduceAdd, Nat.zero_le, one_ne0, if_neg one_ne0', lt_102_103, lt_102_104, lt_102_105, lt_102_106, lt_99_107, lt_100_107, lt_101_107, lt_103_107, lt_104_107, lt_105_107, lt_106_107, lt_98_99, lt_98_100, lt_98_101, lt_98_106, nI_0iff hu, n1, a1, a2, b2f, decide_true, decide_false, Bool.not_true, Bool.not_false, Bool.true_and, Bool.false_and, Bool.and_true, Bool.and_false, cond_true, cond_false, Bool.or_true]
    · cases r1 : rf_ S (2 * ow + 1) m (U0 h (2 * ow + 1)) <;> cases r2 : rf_ S (32 + 2 * gr + 1) m (U0 h (32 + 2 * gr + 1)) <;> simp only [e27, x27_0, x27_1, x27_4, x27_5, x27_8, x27_9, x27_10, x27_11, x27_14, x27_15, x27_16, x27_19, x27_21, x27_23, x27_26, x27_29, x27_30, x27_33, x27_34, x27_35, x27_38, x27_40, x27_42, x27_45, x27_48, x27_49, x27_52, x27_53, ldI_1, ldI_2, ldI_4, ldI_5, ldR_0, ldR_3, I_pI, R_pI, c_pI, n_pI, u_pI, t_pI, l_pI, I_pR, R_pR, c_pR, n_pR, u_pR, t_pR, l_pR, get_s, Option.toList, List.nil_append, List.cons_append, List.length_nil, List.length_cons, gi_B, tg_1 hS, tg_2 hS, tg_3 hS, tg_4 hS, tg_5 hS, tg_6 hS, tg_7 hS, tg_8 hS, tg_9 hS, tg_10 hS, tg_75 hS, tg_79 hS, tg_80 hS, tg_81 hS, tg_82 hS, tg_83 hS, tg_84 hS, tg_85 hS, tg_86 hS, tg_87 hS, tg_88 hS, tg_89 hS, tg_90 hS, tg_91 hS, tg_92 hS, tg_93 hS, tg_94 hS, tg_95 hS, tg_96 hS, tg_97 hS, tg_98 hS, tg_99 hS, tg_100 hS, tg_101 hS, tg_102 hS, tg_103 hS, tg_104 hS, tg_105 hS, tg_106 hS, tg_107 hS, tg_108 hS, ln_2 hS, ln_3 hS, ln_4 hS, ln_5 hS, ln_7 hS, ln_9 hS, ln_10 hS, ln_75 hS, ln_80 hS, ln_81 hS, ln_82 hS, ln_83 hS, ln_84 hS, ln_85 hS, ln_86 hS, ln_87 hS, ln_88 hS, ln_89 hS, ln_90 hS, ln_91 hS, ln_92 hS, ln_93 hS, ln_94 hS, ln_95 hS, ln_96 hS, ln_97 hS, ln_98 hS, ln_99 hS, ln_100 hS, ln_101 hS, ln_102 hS, ln_103 hS, ln_104 hS, ln_105 hS, ln_106 hS, ln_107 hS, ln_108 hS, rf_1_0 hS, rf_1_1 hS, rf_1_2 hS, rf_1_3 hS, rf_1_4 hS, rf_1_5 hS, rf_1_6 hS, rf_6_0 hS, rf_8_1 hS, rf_8_2 hS, rf_79_1 hS, rf_79_2 hS, rf_79_3 hS, rf_79_4 hS, rf_79_5 hS, rf_79_6 hS, rf_79_7 hS, rf_79_8 hS, rf_79_9 hS, rf_79_10 hS, rf_79_11 hS, rf_79_12 hS, rf_79_13 hS, rf_79_14 hS, rf_79_15 hS, rf_79_16 hS, rf_79_17 hS, rf_79_18 hS, rf_79_19 hS, rf_79_20 hS, rf_79_21 hS, rf_79_22 hS, rf_79_24 hS, rf_79_25 hS, rf_79_26 hS, rf_79_27 hS, rf_79_28 hS, rf_79_29 hS, rf_79_30 hS, true_and, and_true, false_and, and_false, not_true_eq_false, not_false_eq_true, true_implies, false_implies, implies_true, Classical.not_not, ite_true, ite_false, Option.some.injEq, Sum.inl.injEq, exists_eq', eq_self, true_or, or_true, false_or, or_false, Nat.reduceEqDiff, Nat.reduceLeDiff, Nat.reduceAdd, Nat.zero_le, one_ne0, if_neg one_ne0', lt_102_103, lt_102_104, lt_102_105, lt_102_106, lt_99_107, lt_100_107, lt_101_107, lt_103_107, lt_104_107, lt_105_107, lt_106_107, lt_98_99, lt_98_100, lt_98_101, lt_98_106, nI_0iff hu, n1, a1, a2, ta, e1, e2, c_28_01 hS H ho hm, c_28_11 hS H hg hm, r1, r2, b2t, b2f, decide_true, decide_false, Bool.not_true, Bool.not_false, Bool.true_and, Bool.false_and, Bool.and_true, Bool.and_false, cond_true, cond_false, Bool.or_self, Bool.or_true, Bool.true_or, Bool.or_false]
theorem c_37_1 {d i a ow gr : Nat} {m : Int32} {h : gi_H} {Q : gi_P} {S : gi_Z} (hS : gi_S h) (H : QC h S) (hs : ∀ p, p < 64 → -1 ≤ (S 103 p).toInt) (h0 : 0 < i) (hi : i < 64) (da : dy a) (ho : ow < 16) (hg : gr < 16) (ta : gi_tag h (some a) = 5) (e1 : gi_I h a 2 = nI ow) (e2 : gi_I h a 3 = nI gr) : gi_cx (d + 5) 37 [.inr (.inr (some 1)), .inl (nI i), .inr (.inr (some a)), .inl 1, .inl m] h Q ↔ Q none (qst h (bo_ (AD S m) (2 * ow + 1) (32 + 2 * gr + 1) (U0 h))) := by
  have n1 : (nI i = 0) = False := eq_false (nI_ne0 h0 (by omega))
  have z3 : upq (U0 h) (2 * ow + 1) (AD S m (2 * ow + 1) (U0 h (2 * ow + 1))) (32 + 2 * gr + 1) = U0 h (32 + 2 * gr + 1) := upq_ne (by omega)
  have z4 := bo_u (F := AD S m) (T := U0 h) (p := 2 * ow + 1) (q := 32 + 2 * gr + 1) (by omega)
  rw [z3] at z4
  have e2' : ∀ U, gi_I (qst h U) a 3 = nI gr := fun U => by rw [I_qstb (by unfold dy at da; omega)]; exact e2
  have f1 := fun {Q : gi_P} => c_38_01 (d := d) (m := m) (U := U0 h) (Q := Q) hS H (hs (2 * ow + 1) (by omega)) ho
  rw [qst_self] at f1
  refine gi_cx_iff ?_ Q
  simp only [e37, x37_0, x37_1, x37_4, x37_5, x37_8, x37_9, x37_10, x37_13, x37_14, x37_16, x37_19, x37_20, x37_23, x37_24, x37_25, x37_28, x37_29, x37_31, x37_34, ldI_1, ldI_3, ldI_4, ldR_0, ldR_2, t_qst, R_qst, I_pI, R_pI, c_pI, n_pI, u_pI, t_pI, l_pI, I_pR, R_pR, c_pR, n_pR, u_pR, t_pR, l_pR, get_s, Option.toList, List.nil_append, List.cons_append, List.length_nil, List.length_cons, gi_B, tg_1 hS, tg_2 hS, tg_3 hS, tg_4 hS, tg_5 hS, tg_6 hS, tg_7 hS, tg_8 hS, tg_9 hS, tg_10 hS, tg_75 hS, tg_79 hS, tg_80 hS, tg_81 hS, tg_82 hS, tg_83 hS, tg_84 hS, tg_85 hS, tg_86 hS, tg_87 hS, tg_88 hS, tg_89 hS, tg_90 hS, tg_91 hS, tg_92 hS, tg_93 hS, tg_94 hS, tg_95 hS, tg_96 hS, tg_97 hS, tg_98 hS, tg_99 hS, tg_100 hS, tg_101 hS, tg_102 hS, tg_103 hS, tg_104 hS, tg_105 hS, tg_106 hS, tg_107 hS, tg_108 hS, ln_2 hS, ln_3 hS, ln_4 hS, ln_5 hS, ln_7 hS, ln_9 hS, ln_10 hS, ln_75 hS, ln_80 hS, ln_81 hS, ln_82 hS, ln_83 hS, ln_84 hS, ln_85 hS, ln_86 hS, ln_87 hS, ln_88 hS, ln_89 hS, ln_90 hS, ln_91 hS, ln_92 hS, ln_93 hS, ln_94 hS, ln_95 hS, ln_96 hS, ln_97 hS, ln_98 hS, ln_99 hS, ln_100 hS, ln_101 hS, ln_102 hS, ln_103 hS, ln_104 hS, ln_105 hS, ln_106 hS, ln_107 hS, ln_108 hS, rf_1_0 hS, rf_1_1 hS, rf_1_2 hS, rf_1_3 hS, rf_1_4 hS, rf_1_5 hS, rf_1_6 hS, rf_6_0 hS, rf_8_1 hS, rf_8_2 hS, rf_79_1 hS, rf_79_2 hS, rf_79_3 hS, rf_79_4 hS, rf_79_5 hS, rf_79_6 hS, rf_79_7 hS, rf_79_8 hS, rf_79_9 hS, rf_79_10 hS, rf_79_11 hS, rf_79_12 hS, rf_79_13 hS, rf_79_14 hS, rf_79_15 hS, rf_79_16 hS, rf_79_17 hS, rf_79_18 hS, rf_79_19 hS, rf_79_20 hS, rf_79_21 hS, rf_79_22 hS, rf_79_24 hS, rf_79_25 hS, rf_79_26 hS, rf_79_27 hS, rf_79_28 hS, rf_79_29 hS, rf_79_30 hS, true_and, and_true, false_and, and_false, not_true_eq_false, not_false_eq_true, true_implies, false_implies, implies_true, Classical.not_not, ite_true, ite_false, Option.some.injEq, Sum.inl.injEq, exists_eq', eq_self, true_or, or_true, false_or, or_false, Nat.reduceEqDiff, Nat.reduceLeDiff, Nat.reduceAdd, Nat.zero_le, one_ne0, if_neg one_ne0', lt_102_103, lt_102_104, lt_102_105, lt_102_106, lt_99_107, lt_100_107, lt_101_107, lt_103_107, lt_104_107, lt_105_107, lt_106_107, lt_98_99, lt_98_100, lt_98_101, lt_98_106, n1, ta, e1, e2', f1, c_38_11 hS H (hs (32 + 2 * gr + 1) (by omega)) hg, z3, z4]
theorem c_37_1z {d a : Nat} {m : Int32} {h : gi_H} {Q : gi_P} : gi_cx (d + 5) 37 [.inr (.inr (some 1)), .inl (nI 0), .inr (.inr (some a)), .inl 1, .inl m] h Q ↔ Q none h := by
  have n1 : (nI 0 = 0) = True := eq_true rfl
  refine gi_cx_iff ?_ Q
  simp only [e37, x37_0, x37_1, x37_4, x37_5, x37_8, x37_9, x37_10, x37_13, x37_14, x37_16, x37_19, x37_20, x37_23, x37_24, x37_25, x37_28, x37_29, x37_31, x37_34, ldI_1, ldI_3, ldI_4, ldR_0, ldR_2, I_pI, R_pI, c_pI, n_pI, u_pI, t_pI, l_pI, I_pR, R_pR, c_pR, n_pR, u_pR, t_pR, l_pR, get_s, Option.toList, List.nil_append, List.cons_append, List.length_nil, List.length_cons, gi_B, true_and, and_true, false_and, and_false, not_true_eq_false, not_false_eq_true, true_implies, false_implies, implies_true, Classical.not_not, ite_true, ite_false, Option.some.injEq, Sum.inl.injEq, exists_eq', eq_self, true_or, or_true, false_or, or_false, Nat.reduceEqDiff, Nat.reduceLeDiff, Nat.reduceAdd, Nat.zero_le, one_ne0, if_neg one_ne0', lt_102_103, lt_102_104, lt_102_105, lt_102_106, lt_99_107, lt_100_107, lt_101_107, lt_103_107, lt_104_107, lt_105_107, lt_106_107, lt_98_99, lt_98_100, lt_98_101, lt_98_106, n1]
/-! sums of charges -/
def it_ (F : Int32 × Int32 → Int32 × Int32) : Nat → Int32 × Int32 → Int32 × Int32
  | 0, x => x
  | n + 1, x => F (it_ F n x)
theorem rf_s {S : gi_Z} {k : Nat} : ∀ n x, rf_ S k (n + 1) x = (rf_ S k n x || !GD S k (it_ (CH S k) n x))
  | 0, x => by
    unfold rf_ rf_ it_
    cases GD S k x <;> rfl
  | n + 1, x => by
    have e : ∀ n x, it_ (CH S k) n (CH S k x) = it_ (CH S k) (n + 1) x := by
      intro n
      induction n with
      | zero => intro x; rfl
      | succ n ih => intro x; unfold it_; rw [ih]
    rw [rf_, rf_s n (CH S k x), e, rf_, Bool.or_assoc]
theorem ov_i {s n : Int32} : (ov s n = true) = (0 ≤ s.toInt ∧ s.toInt < n.toInt) := propext (by
  unfold ov
  rw [Bool.and_eq_true, decide_eq_true_eq, Bool.not_eq_true', decide_eq_false_iff_not, i32_le, i32_le, ti_0]
  omega)
def iv (s : Int32) (B : Int) (x : Int32 × Int32) : Prop := (-B ≤ x.1.toInt ∧ x.1.toInt ≤ B) ∧ (-1 ≤ x.2.toInt ∧ x.2.toInt ≤ 1100000) ∧ (0 ≤ x.2.toInt ↔ 0 ≤ s.toInt ∧ s.toInt < x.1.toInt)
theorem ad_2 {s now g m : Int32} {x : Int32 × Int32} : (ad1 s now g m x).2 = if 0 ≤ s.toInt ∧ s.toInt < (x.1 + m).toInt then (if x.2 = -1 then now + g else x.2) else -1 := by
  unfold ad1
  have e := ov_i (s := s) (n := x.1 + m)
  by_cases w : 0 ≤ s.toInt ∧ s.toInt < (x.1 + m).toInt
  · rw [if_pos w, show ov s (x.1 + m) = true from e ▸ w]
    by_cases w2 : x.2 = -1 <;> simp [w2]
  · rw [if_neg w]
    have : ov s (x.1 + m) = false := by
      cases q : ov s (x.1 + m) with
      | false => rfl
      | true => exact absurd (e ▸ q) w
    rw [this]; rfl
theorem m1_i {x : Int32} : (x = -1) = (x.toInt = -1) := propext (by rw [i32_eq, ti_m1])
theorem ad_iv {s now g m : Int32} {B C : Int} {x : Int32 × Int32} (h : iv s B x) (hB : B + C ≤ 2000000000) (hm : -C ≤ m.toInt ∧ m.toInt ≤ C) (hn : 0 ≤ now.toInt ∧ now.toInt ≤ 1000000) (hg : 0 ≤ g.toInt ∧ g.toInt ≤ 100000) : iv s (B + C) (ad1 s now g m x) := by
  obtain ⟨h1, h2, h3⟩ := h
  have e1 : (ad1 s now g m x).1 = x.1 + m := rfl
  have a := i32_add (x := x.1) (y := m) (by omega) (by omega)
  have b := i32_add (x := now) (y := g) (by omega) (by omega)
  unfold iv
  rw [e1, ad_2, a]
  by_cases w : 0 ≤ s.toInt ∧ s.toInt < x.1.toInt + m.toInt
  · rw [if_pos w]
    by_cases w2 : x.2 = -1
    · rw [if_pos w2, b]; omega
    · rw [if_neg w2]; rw [m1_i] at w2; omega
  · rw [if_neg w, ti_m1]; omega
theorem ad_0 {s now g : Int32} {B : Int} {x : Int32 × Int32} (h : iv s B x) : ad1 s now g 0 x = x := by
  obtain ⟨h1, h2, h3⟩ := h
  refine Prod.ext (Int32.add_zero _) ?_
  rw [ad_2, Int32.add_zero]
  by_cases w : 0 ≤ s.toInt ∧ s.toInt < x.1.toInt
  · rw [if_pos w, if_neg (by rw [m1_i]; omega)]
  · rw [if_neg w]
    exact Int32.toInt_inj.mp (by rw [ti_m1]; omega)
theorem ch_n {s now g : Int32} {B : Int} {x : Int32 × Int32} (h : iv s B x) (hn : 0 ≤ now.toInt ∧ now.toInt ≤ 1000000) (hg : 0 ≤ g.toInt ∧ g.toInt ≤ 100000) : ∀ n : Nat, B + n ≤ 2000000000 → it_ (ch1 s now g) n x = ad1 s now g (nI n) x
  | 0, hB => (ad_0 h).symm
  | n + 1, hB => by
    have ih := ch_n h hn hg n (by omega)
    unfold it_
    rw [ih]
    obtain ⟨h1, h2, h3⟩ := h
    have b := i32_add (x := now) (y := g) (by omega) (by omega)
    have c1 := i32_add (x := x.1) (y := nI n) (by rw [nI_toInt (by omega)]; omega) (by rw [nI_toInt (by omega)]; omega)
    have c2 := i32_add (x := x.1) (y := nI (n + 1)) (by rw [nI_toInt (by omega)]; omega) (by rw [nI_toInt (by omega)]; omega)
    rw [nI_toInt (by omega)] at c1 c2
    have f1 : (ad1 s now g (nI n) x).1 = x.1 + nI n := rfl
    refine Prod.ext nx_c ?_
    rw [ad_2, c2]
    unfold ch1
    rw [f1, nx_c, ad_2, c1]
    have e := ov_i (s := s) (n := x.1 + nI (n + 1))
    rw [c2] at e
    by_cases w : 0 ≤ s.toInt ∧ s.toInt < x.1.toInt + ((n + 1 : Nat) : Int)
    · rw [if_pos w, show ov s (x.1 + nI (n + 1)) = true from e ▸ w, Bool.true_and]
      by_cases w1 : 0 ≤ s.toInt ∧ s.toInt < x.1.toInt + (n : Int)
      · rw [if_pos w1]
        by_cases w2 : x.2 = -1
        · rw [if_pos w2, decide_eq_true (by rw [i32_le, b, ti_0]; omega)]; rfl
        · rw [if_neg w2]; rw [m1_i] at w2
          rw [decide_eq_true (by rw [i32_le, ti_0]; omega)]; rfl
      · rw [if_neg w1, decide_eq_false (by decide), if_pos (by rw [m1_i]; omega)]; rfl
    · have w1 : ¬ (0 ≤ s.toInt ∧ s.toInt < x.1.toInt + (n : Int)) := by omega
      have : ov s (x.1 + nI (n + 1)) = false := by
        cases q : ov s (x.1 + nI (n + 1)) with
        | false => rfl
        | true => exact absurd (e ▸ q) w
      rw [if_neg w, if_neg w1, this]; rfl
theorem neg_i {n : Nat} (hn : n < 2147483648) : (-(nI n)).toInt = -(n : Int) := by
  rw [Int32.toInt_neg, nI_toInt hn]
  exact Int.bmod_eq_of_le (by omega) (by omega)
theorem ds_c {c : Int32} {n : Nat} : c + -(nI n) - 1 = c + -(nI (n + 1)) := by
  rw [← nI_il, Int32.neg_add, Int32.sub_eq_add_neg, Int32.sub_eq_add_neg, Int32.add_assoc]
theorem ds_n {s now g : Int32} {B : Int} {x : Int32 × Int32} (h : iv s B x) : ∀ n : Nat, B + n ≤ 2000000000 → it_ (ds1 s) n x = ad1 s now g (-(nI n)) x
  | 0, hB => (ad_0 h).symm
  | n + 1, hB => by
    have ih := ds_n (now := now) (g := g) h n (by omega)
    unfold it_
    rw [ih]
    obtain ⟨h1, h2, h3⟩ := h
    have c1 := i32_add (x := x.1) (y := -(nI n)) (by rw [neg_i (by omega)]; omega) (by rw [neg_i (by omega)]; omega)
    have c2 := i32_add (x := x.1) (y := -(nI (n + 1))) (by rw [neg_i (by omega)]; omega) (by rw [neg_i (by omega)]; omega)
    rw [neg_i (by omega)] at c1 c2
    have f1 : (ad1 s now g (-(nI n)) x).1 = x.1 + -(nI n) := rfl
    refine Prod.ext ds_c ?_
    rw [ad_2, c2]
    unfold ds1
    rw [f1, ds_c, ad_2, c1]
    have e := ov_i (s := s) (n := x.1 + -(nI (n + 1)))
    rw [c2] at e
    by_cases w : 0 ≤ s.toInt ∧ s.toInt < x.1.toInt + -((n + 1 : Nat) : Int)
    · rw [if_pos w, show ov s (x.1 + -(nI (n + 1))) = true from e ▸ w, if_pos (by omega)]; rfl
    · have : ov s (x.1 + -(nI (n + 1))) = false := by
        cases q : ov s (x.1 + -(nI (n + 1))) with
        | false => rfl
        | true => exact absurd (e ▸ q) w
      rw [if_neg w, this]; rfl

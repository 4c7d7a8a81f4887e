/-! take: class and model -/
set_option maxRecDepth 100000

theorem ly_ge {f : Nat → Int32} : ∀ m j t s {p : Nat × Nat}, ly_ f j m t s = some p → s ≤ p.2
  | 0, j, t, s, p, h => by cases h; exact Nat.le_refl _
  | m + 1, j, t, s, p, h => by
    unfold ly_ at h
    split at h
    · exact ly_ge m _ _ _ h
    · split at h
      · exact ly_ge m _ _ _ h
      · split at h
        · have := ly_ge m _ _ _ h; omega
        · cases h
/-- with one less, nothing comes to lie beside -/
theorem ly_z {f g : Nat → Int32} : ∀ m j t t' s {p : Nat × Nat}, (∀ k, j ≤ k → k < j + m → g k = f k ∨ g k < 0) → t' ≤ t → ly_ f j m t s = some p → p.2 = s → ∃ t1, ly_ g j m t' s = some (t1, s)
  | 0, j, t, t', s, p, _, _, h, e => ⟨t', rfl⟩
  | m + 1, j, t, t', s, p, hg, ht, h, e => by
    unfold ly_ at h ⊢
    have nx : ∀ k, j + 1 ≤ k → k < j + 1 + m → g k = f k ∨ g k < 0 := fun k h1 h2 => hg k (by omega) (by omega)
    by_cases w : f j < 0
    · rw [if_pos w] at h
      have gj : g j < 0 := by
        rcases hg j (by omega) (by omega) with q | q
        · rw [q]; exact w
        · exact q
      rw [if_pos gj]
      exact ly_z m (j + 1) t t' s nx ht h e
    · rw [if_neg w] at h
      by_cases w2 : t + (3 + (f j).toNatClampNeg) ≤ 40
      · rw [if_pos w2] at h
        rcases hg j (by omega) (by omega) with q | q
        · rw [q, if_neg w, if_pos (by omega)]
          exact ly_z m (j + 1) _ _ s nx (by omega) h e
        · rw [if_pos q]
          exact ly_z m (j + 1) _ _ s nx (by omega) h e
      · rw [if_neg w2] at h
        split at h
        · have := ly_ge m _ _ _ h; omega
        · cases h
theorem fo_m1 {f : Nat → Int32} : ∀ m j t s v, j + m ≤ 32 → fo_ f (-1) j m t s v = v
  | 0, _, _, _, _, _ => rfl
  | m + 1, j, t, s, v, h => by
    unfold fo_
    rw [if_neg (nI_nm1 (by omega)), if_neg (nI_nm1 (by omega))]
    split
    · exact fo_m1 m _ _ _ _ (by omega)
    · split
      · exact fo_m1 m _ _ _ _ (by omega)
      · split
        · exact fo_m1 m _ _ _ _ (by omega)
        · rfl
theorem c_80 {d e : Nat} {h : gi_H} {Q : gi_P} (t1 : gi_tag h (some e) = 7) (r0 : gi_R h e 0 = some (e + 1)) (t2 : gi_tag h (some (e + 1)) = 101) : gi_cx (d + 1) 80 [.inr (.inr (some e))] h Q ↔ Q (some (.inl (nI (gi_len h (some (e + 1)))))) h := by
  refine gi_cx_iff ?_ Q
  simp only [e80, x80_0, x80_1, x80_4, x80_5, ldR_0, I_pI, R_pI, c_pI, n_pI, u_pI, t_pI, l_pI, I_pR, R_pR, c_pR, n_pR, u_pR, t_pR, l_pR, get_s, Option.toList, List.nil_append, List.cons_append, List.length_nil, List.length_cons, gi_B, true_and, and_true, false_and, and_false, not_true_eq_false, not_false_eq_true, true_implies, false_implies, implies_true, Classical.not_not, ite_true, ite_false, Option.some.injEq, Sum.inl.injEq, exists_eq', eq_self, true_or, or_true, false_or, or_false, Nat.reduceEqDiff, Nat.reduceLeDiff, Nat.reduceAdd, Nat.zero_le, one_ne0, if_neg one_ne0', lt_102_103, lt_102_104, lt_102_105, lt_102_106, lt_99_107, lt_100_107, lt_101_107, lt_103_107, lt_104_107, lt_105_107, lt_106_107, lt_98_99, lt_98_100, lt_98_101, lt_98_106, t1, r0, t2, nI_of_len]
theorem c_116_z {d : Nat} {w : Int32} {h : gi_H} {Q : gi_P} : gi_cx (d + 1) 116 [.inr (.inr (some 79)), .inl (nI 0), .inl w] h Q ↔ Q none h := by
  refine gi_cx_iff ?_ Q
  have z : (nI 0 ≤ 0) = True := eq_true (Int32.le_refl _)
  simp only [e116, x116_0, x116_1, x116_4, x116_5, x116_6, x116_7, x116_10, x116_11, x116_12, x116_13, x116_16, x116_17, x116_18, x116_19, x116_22, x116_23, x116_24, x116_25, x116_28, ldI_1, ldI_2, ldR_0, I_pI, R_pI, c_pI, n_pI, u_pI, t_pI, l_pI, I_pR, R_pR, c_pR, n_pR, u_pR, t_pR, l_pR, get_s, Option.toList, List.nil_append, List.cons_append, List.length_nil, List.length_cons, gi_B, true_and, and_true, false_and, and_false, not_true_eq_false, not_false_eq_true, true_implies, false_implies, implies_true, Classical.not_not, ite_true, ite_false, Option.some.injEq, Sum.inl.injEq, exists_eq', eq_self, true_or, or_true, false_or, or_false, Nat.reduceEqDiff, Nat.reduceLeDiff, Nat.reduceAdd, Nat.zero_le, one_ne0, if_neg one_ne0', lt_102_103, lt_102_104, lt_102_105, lt_102_106, lt_99_107, lt_100_107, lt_101_107, lt_103_107, lt_104_107, lt_105_107, lt_106_107, lt_98_99, lt_98_100, lt_98_101, lt_98_106, z]
theorem c_108_z {d : Nat} {w : Int32} {h : gi_H} {Q : gi_P} : gi_cx (d + 1) 108 [.inr (.inr (some 79)), .inl (nI 0), .inl w] h Q ↔ Q (some (.inl 1)) h := by
  refine gi_cx_iff ?_ Q
  have z : (nI 0 = 0) = True := eq_true rfl
  simp only [e108, x108_0, x108_1, x108_4, x108_5, x108_6, x108_7, x108_8, x108_9, x108_12, x108_13, x108_14, x108_15, x108_18, x108_19, x108_20, x108_21, x108_22, x108_25, x108_26, x108_27, x108_28, x108_31, x108_34, x108_35, x108_38, x108_39, x108_42, x108_43, ldI_1, ldI_2, ldI_3, ldR_0, stI_3i, stI_3n, stI_3r, I_pI, R_pI, c_pI, n_pI, u_pI, t_pI, l_pI, I_pR, R_pR, c_pR, n_pR, u_pR, t_pR, l_pR, get_s, Option.toList, List.nil_append, List.cons_append, List.length_nil, List.length_cons, gi_B, true_and, and_true, false_and, and_false, not_true_eq_false, not_false_eq_true, true_implies, false_implies, implies_true, Classical.not_not, ite_true, ite_false, Option.some.injEq, Sum.inl.injEq, exists_eq', eq_self, true_or, or_true, false_or, or_false, Nat.reduceEqDiff, Nat.reduceLeDiff, Nat.reduceAdd, Nat.zero_le, one_ne0, if_neg one_ne0', lt_102_103, lt_102_104, lt_102_105, lt_102_106, lt_99_107, lt_100_107, lt_101_107, lt_103_107, lt_104_107, lt_105_107, lt_106_107, lt_98_99, lt_98_100, lt_98_101, lt_98_106, z]
/-- quotas told anew, but not for the root -/
def qz (n : Nat) (F : Nat → Int32 × Int32 → Int32 × Int32) (x y : Nat) (T : gi_T) : gi_T := if n = 0 then T else bo_ F x y T
theorem qst_h {h g : gi_H} (e : ∀ x y, x < 76 → gi_I g x y = gi_I h x y) : qst g (U0 h) = g := by
  refine gi_ext (fun _ => rfl) (fun x y => ?_) (fun _ _ => rfl) rfl rfl
  rw [I_qst]
  by_cases w1 : 11 ≤ x ∧ x < 75 ∧ y = 0
  · rw [if_pos w1, e x y (by omega)]; unfold U0; rw [show 11 + (x - 11) = x by omega, w1.2.2]
  · rw [if_neg w1]
    by_cases w2 : 11 ≤ x ∧ x < 75 ∧ y = 1
    · rw [if_pos w2, e x y (by omega)]; unfold U0; rw [show 11 + (x - 11) = x by omega, w2.2.2]
    · rw [if_neg w2]
theorem c37n {L : Nat} {xs : Nat → Int32} {c d n a ow gr : Nat} {m : Int32} {h g : gi_H} {Q : gi_P} (J : jH L xs c h) (hc : c ≤ 7142) (hn : n < 64) (da : dy a) (ho : ow < 16) (hg : gr < 16) (hS : gi_S g) (e : ∀ x y, x < 76 → gi_I g x y = gi_I h x y) (ta : gi_tag g (some a) = 5) (e1 : gi_I g a 2 = nI ow) (e2 : gi_I g a 3 = nI gr) : gi_cx (d + 5) 37 [.inr (.inr (some 1)), .inl (nI n), .inr (.inr (some a)), .inl 0, .inl m] g Q ↔ Q none (qst g (qz n (AD (gi_I h) m) (2 * ow + 0) (32 + 2 * gr + 0) (U0 h))) := by
  by_cases w : n = 0
  · subst w
    rw [c_37_0z]
    unfold qz
    rw [if_pos rfl, qst_h e]
  · rw [c37h J hc hn (Nat.pos_of_ne_zero w) da ho hg hS e ta e1 e2]
    unfold qz
    rw [if_neg w]
/-- a side block that is not needed goes -/
theorem c_81r {L : Nat} {xs : Nat → Int32} {c d n a ow gr b : Nat} {h g : gi_H} {Q : gi_P} (J : jH L xs c h) (hc : c ≤ 7142) (hn : n < 64) (da : dy a) (ho : ow < 16) (hg : gr < 16) (hS : gi_S g) (e : ∀ x y, x < 76 → gi_I g x y = gi_I h x y) (ta : gi_tag g (some a) = 5) (e1 : gi_I g a 2 = nI ow) (e2 : gi_I g a 3 = nI gr) (hb : b < 256) (e6 : gi_I g a 6 = nI b) : gi_cx (d + 6) 81 [.inr (.inr (some 1)), .inl (nI n), .inr (.inr (some a)), .inl 0] g Q ↔ Q none (qst (gi_pI (gi_pR g 7 b none) a 6 (-1)) (qz n (AD (gi_I h) (-1)) (2 * ow + 0) (32 + 2 * gr + 0) (U0 h))) := by
  refine gi_cx_iff ?_ Q
  have ne : (nI b = -1) = False := eq_false (fun z => by
    have := congrArg Int32.toInt z
    rw [nI_toInt (by omega), ti_m1] at this
    omega)
  have hSr : gi_S (gi_pR g 7 b none) := S_pR hS (by omega)
  have hSp : gi_S (gi_pI (gi_pR g 7 b none) a 6 (-1)) := hSr
  have c37 := fun {d : Nat} {m : Int32} {Q : gi_P} => c37n (d := d) (m := m) (g := gi_pI (gi_pR g 7 b none) a 6 (-1)) (Q := Q) J hc hn da ho hg hSp (fun x y hx => by rw [I_pI, if_neg (by unfold dy at da; omega)]; exact e x y hx) ta (by rw [I_pI, if_neg (by omega)]; exact e1) (by rw [I_pI, if_neg (by omega)]; exact e2)
  have z0 : ((0 : Int32) = 0) = True := eq_true rfl
  simp only [e81, x81_0, x81_1, x81_4, x81_5, x81_8, x81_9, x81_12, x81_13, x81_14, x81_17, x81_20, x81_23, x81_24, x81_25, x81_26, x81_27, x81_28, x81_31, x81_34, x81_35, x81_38, x81_39, x81_42, x81_43, x81_46, x81_47, x81_50, x81_51, x81_54, x81_57, x81_58, x81_59, x81_62, x81_63, x81_64, x81_65, x81_66, x81_67, x81_70, ldI_1, ldI_3, ldR_0, ldR_2, I_pI, R_pI, c_pI, n_pI, u_pI, t_pI, l_pI, I_pR, R_pR, c_pR, n_pR, u_pR, t_pR, l_pR, get_s, Option.toList, List.nil_append, List.cons_append, List.length_nil, List.length_cons, gi_B, true_and, and_true, false_and, and_false, not_true_eq_false, not_false_eq_true, true_implies, false_implies, implies_true, Classical.not_not, ite_true, ite_false, Option.some.injEq, Sum.inl.injEq, exists_eq', eq_self, true_or, or_true, false_or, or_false, Nat.reduceEqDiff, Nat.reduceLeDiff, Nat.reduceAdd, Nat.zero_le, one_ne0, if_neg one_ne0', lt_102_103, lt_102_104, lt_102_105, lt_102_106, lt_99_107, lt_100_107, lt_101_107, lt_103_107, lt_104_107, lt_105_107, lt_106_107, lt_98_99, lt_98_100, lt_98_101, lt_98_106, tg_1 hS, tg_6 hS, rf_1_4 hS, tg_1 hSr, tg_1 hSp, ta, e6, ne, z0, c_45 hS hb, c37]
theorem c_81n {d n a : Nat} {w : Int32} {g : gi_H} {Q : gi_P} (ta : gi_tag g (some a) = 5) (hw : ((w = 0) = True ∧ (gi_I g a 6 = -1) = True) ∨ ((w = 0) = False ∧ (gi_I g a 6 = -1) = False)) : gi_cx (d + 1) 81 [.inr (.inr (some 1)), .inl (nI n), .inr (.inr (some a)), .inl w] g Q ↔ Q none g := by
  refine gi_cx_iff ?_ Q
  rcases hw with ⟨w1, w2⟩ | ⟨w1, w2⟩ <;> simp only [e81, x81_0, x81_1, x81_4, x81_5, x81_8, x81_9, x81_12, x81_13, x81_14, x81_17, x81_20, x81_23, x81_24, x81_25, x81_26, x81_27, x81_28, x81_31, x81_34, x81_35, x81_38, x81_39, x81_42, x81_43, x81_46, x81_47, x81_50, x81_51, x81_54, x81_57, x81_58, x81_59, x81_62, x81_63, x81_64, x81_65, x81_66, x81_67, x81_70, ldI_1, ldI_3, ldR_0, ldR_2, I_pI, R_pI, c_pI, n_pI, u_pI, t_pI, l_pI, I_pR, R_pR, c_pR, n_pR, u_pR, t_pR, l_pR, get_s, Option.toList, List.nil_append, List.cons_append, List.length_nil, List.length_cons, gi_B, true_and, and_true, false_and, and_false, not_true_eq_false, not_false_eq_true, true_implies, false_implies, implies_true, Classical.not_not, ite_true, ite_false, Option.some.injEq, Sum.inl.injEq, exists_eq', eq_self, true_or, or_true, false_or, or_false, Nat.reduceEqDiff, Nat.reduceLeDiff, Nat.reduceAdd, Nat.zero_le, one_ne0, if_neg one_ne0', lt_102_103, lt_102_104, lt_102_105, lt_102_106, lt_99_107, lt_100_107, lt_101_107, lt_103_107, lt_104_107, lt_105_107, lt_106_107, lt_98_99, lt_98_100, lt_98_101, lt_98_106, ta, w1, w2]
/-- the model's side block goes -/
theorem c_136r {d n ow gr b : Nat} {s : Int32} {k : gi_H} {Q : gi_P} {S : gi_Z} (hS : gi_S k) (hq : QS k S) (hn : n < 64) (ho : ow < 16) (hg : gr < 16) (e1 : gi_I k 85 n = nI ow) (e2 : gi_I k 86 n = nI gr) (hs : (s = 0) = True) (hb : b < 256) (e9 : gi_I k 90 n = nI b) : gi_cx (d + 4) 136 [.inr (.inr (some 79)), .inl (nI n), .inl s] k Q ↔ Q none (rw2 (rw2 (gi_pI (gi_pI k 91 b 0) 90 n (-1)) 107 108 (qz n (DS S) (2 * ow + 0) (32 + 2 * gr + 0) (T0 k))) 102 105 (K0 (gi_pI (gi_pI k 91 b 0) 90 n (-1)) (qz n (DS S) (2 * ow + 0) (32 + 2 * gr + 0) (T0 k)))) := by
  refine gi_cx_iff ?_ Q
  have ev : vp_in (nI n) 64 := vp_in_nI hn (by omega)
  have ec : (nI n).toNatClampNeg = n := nI_clamp (by omega)
  have y1 : vp_in (nI b) 256 := vp_in_nI hb (by omega)
  have y2 : (nI b).toNatClampNeg = b := nI_clamp (by omega)
  have lt : (nI b < 0) = False := eq_false (by rw [i32_lt, nI_toInt (by omega), ti_0]; omega)
  have b0 : (0 : Int32) &&& 1 = 0 := by decide
  have hSk : gi_S (gi_pI (gi_pI k 91 b 0) 90 n (-1)) := hS
  have eT : T0 (gi_pI (gi_pI k 91 b 0) 90 n (-1)) = T0 k := T0_c (fun x y hx => by rw [I_pI, if_neg (by omega), I_pI, if_neg (by omega)])
  unfold qz
  by_cases w : n = 0
  · subst w
    rw [if_pos rfl]
    simp only [e136, x136_0, x136_1, x136_4, x136_5, x136_8, x136_9, x136_10, x136_13, x136_14, x136_17, x136_18, x136_21, x136_22, x136_23, x136_24, x136_25, x136_26, x136_29, x136_30, x136_31, x136_32, x136_33, x136_36, x136_37, x136_38, x136_39, x136_42, x136_43, x136_46, ldI_1, ldI_2, ldR_0, I_pI, R_pI, c_pI, n_pI, u_pI, t_pI, l_pI, I_pR, R_pR, c_pR, n_pR, u_pR, t_pR, l_pR, get_s, Option.toList, List.nil_append, List.cons_append, List.length_nil, List.length_cons, gi_B, true_and, and_true, false_and, and_false, not_true_eq_false, not_false_eq_true, true_implies, false_implies, implies_true, Classical.not_not, ite_true, ite_false, Option.some.injEq, Sum.inl.injEq, exists_eq', eq_self, true_or, or_true, false_or, or_false, Nat.reduceEqDiff, Nat.reduceLeDiff, Nat.reduceAdd, Nat.zero_le, one_ne0, if_neg one_ne0', lt_102_103, lt_102_104, lt_102_105, lt_102_106, lt_99_107, lt_100_107, lt_101_107, lt_103_107, lt_104_107, lt_105_107, lt_106_107, lt_98_99, lt_98_100, lt_98_101, lt_98_106, tg_1 hS, tg_2 hS, tg_3 hS, tg_4 hS, tg_5 hS, tg_6 hS, tg_7 hS, tg_8 hS, tg_9 hS, tg_10 hS, tg_75 hS, tg_79 hS, tg_80 hS, tg_81 hS, tg_82 hS, tg_83 hS, tg_84 hS, tg_85 hS, tg_86 hS, tg_87 hS, tg_88 hS, tg_89 hS, tg_90 hS, tg_91 hS, tg_92 hS, tg_93 hS, tg_94 hS, tg_95 hS, tg_96 hS, tg_97 hS, tg_98 hS, tg_99 hS, tg_100 hS, tg_101 hS, tg_102 hS, tg_103 hS, tg_104 hS, tg_105 hS, tg_106 hS, tg_107 hS, tg_108 hS, ln_2 hS, ln_3 hS, ln_4 hS, ln_5 hS, ln_7 hS, ln_9 hS, ln_10 hS, ln_75 hS, ln_80 hS, ln_81 hS, ln_82 hS, ln_83 hS, ln_84 hS, ln_85 hS, ln_86 hS, ln_87 hS, ln_88 hS, ln_89 hS, ln_90 hS, ln_91 hS, ln_92 hS, ln_93 hS, ln_94 hS, ln_95 hS, ln_96 hS, ln_97 hS, ln_98 hS, ln_99 hS, ln_100 hS, ln_101 hS, ln_102 hS, ln_103 hS, ln_104 hS, ln_105 hS, ln_106 hS, ln_107 hS, ln_108 hS, rf_1_0 hS, rf_1_1 hS, rf_1_2 hS, rf_1_3 hS, rf_1_4 hS, rf_1_5 hS, rf_1_6 hS, rf_6_0 hS, rf_8_1 hS, rf_8_2 hS, rf_79_1 hS, rf_79_2 hS, rf_79_3 hS, rf_79_4 hS, rf_79_5 hS, rf_79_6 hS, rf_79_7 hS, rf_79_8 hS, rf_79_9 hS, rf_79_10 hS, rf_79_11 hS, rf_79_12 hS, rf_79_13 hS, rf_79_14 hS, rf_79_15 hS, rf_79_16 hS, rf_79_17 hS, rf_79_18 hS, rf_79_19 hS, rf_79_20 hS, rf_79_21 hS, rf_79_22 hS, rf_79_24 hS, rf_79_25 hS, rf_79_26 hS, rf_79_27 hS, rf_79_28 hS, rf_79_29 hS, rf_79_30 hS, ev, ec, y1, y2, hs, e9, lt, b0, c_107 hSk, tri, eT, t_rw2, c_116_z, c_111 hSk, tg_79 hSk, Nat.reduceEqDiff]
  · rw [if_neg w]
    have c116 := fun {d : Nat} {Q : gi_P} => c_116_0 (d := d) (h := gi_pI (gi_pI k 91 b 0) 90 n (-1)) (T := T0 k) (Q := Q) (S := S) hS ⟨hq.1, hq.2.1, hq.2.2⟩ hn (Nat.pos_of_ne_zero w) ho hg e1 e2
    simp only [e136, x136_0, x136_1, x136_4, x136_5, x136_8, x136_9, x136_10, x136_13, x136_14, x136_17, x136_18, x136_21, x136_22, x136_23, x136_24, x136_25, x136_26, x136_29, x136_30, x136_31, x136_32, x136_33, x136_36, x136_37, x136_38, x136_39, x136_42, x136_43, x136_46, ldI_1, ldI_2, ldR_0, I_pI, R_pI, c_pI, n_pI, u_pI, t_pI, l_pI, I_pR, R_pR, c_pR, n_pR, u_pR, t_pR, l_pR, get_s, Option.toList, List.nil_append, List.cons_append, List.length_nil, List.length_cons, gi_B, true_and, and_true, false_and, and_false, not_true_eq_false, not_false_eq_true, true_implies, false_implies, implies_true, Classical.not_not, ite_true, ite_false, Option.some.injEq, Sum.inl.injEq, exists_eq', eq_self, true_or, or_true, false_or, or_false, Nat.reduceEqDiff, Nat.reduceLeDiff, Nat.reduceAdd, Nat.zero_le, one_ne0, if_neg one_ne0', lt_102_103, lt_102_104, lt_102_105, lt_102_106, lt_99_107, lt_100_107, lt_101_107, lt_103_107, lt_104_107, lt_105_107, lt_106_107, lt_98_99, lt_98_100, lt_98_101, lt_98_106, tg_1 hS, tg_2 hS, tg_3 hS, tg_4 hS, tg_5 hS, tg_6 hS, tg_7 hS, tg_8 hS, tg_9 hS, tg_10 hS, tg_75 hS, tg_79 hS, tg_80 hS, tg_81 hS, tg_82 hS, tg_83 hS, tg_84 hS, tg_85 hS, tg_86 hS, tg_87 hS, tg_88 hS, tg_89 hS, tg_90 hS, tg_91 hS, tg_92 hS, tg_93 hS, tg_94 hS, tg_95 hS, tg_96 hS, tg_97 hS, tg_98 hS, tg_99 hS, tg_100 hS, tg_101 hS, tg_102 hS, tg_103 hS, tg_104 hS, tg_105 hS, tg_106 hS, tg_107 hS, tg_108 hS, ln_2 hS, ln_3 hS, ln_4 hS, ln_5 hS, ln_7 hS, ln_9 hS, ln_10 hS, ln_75 hS, ln_80 hS, ln_81 hS, ln_82 hS, ln_83 hS, ln_84 hS, ln_85 hS, ln_86 hS, ln_87 hS, ln_88 hS, ln_89 hS, ln_90 hS, ln_91 hS, ln_92 hS, ln_93 hS, ln_94 hS, ln_95 hS, ln_96 hS, ln_97 hS, ln_98 hS, ln_99 hS, ln_100 hS, ln_101 hS, ln_102 hS, ln_103 hS, ln_104 hS, ln_105 hS, ln_106 hS, ln_107 hS, ln_108 hS, rf_1_0 hS, rf_1_1 hS, rf_1_2 hS, rf_1_3 hS, rf_1_4 hS, rf_1_5 hS, rf_1_6 hS, rf_6_0 hS, rf_8_1 hS, rf_8_2 hS, rf_79_1 hS, rf_79_2 hS, rf_79_3 hS, rf_79_4 hS, rf_79_5 hS, rf_79_6 hS, rf_79_7 hS, rf_79_8 hS, rf_79_9 hS, rf_79_10 hS, rf_79_11 hS, rf_79_12 hS, rf_79_13 hS, rf_79_14 hS, rf_79_15 hS, rf_79_16 hS, rf_79_17 hS, rf_79_18 hS, rf_79_19 hS, rf_79_20 hS, rf_79_21 hS, rf_79_22 hS, rf_79_24 hS, rf_79_25 hS, rf_79_26 hS, rf_79_27 hS, rf_79_28 hS, rf_79_29 hS, rf_79_30 hS, ev, ec, y1, y2, hs, e9, lt, b0, c_107 hSk, tri, eT, t_rw2, c116, c_111 hSk, tg_79 hSk, Nat.reduceEqDiff]
theorem c_136n {d n : Nat} {s : Int32} {k : gi_H} {Q : gi_P} (hS : gi_S k) (hn : n < 64) (hw : (s = 0) = False ∨ ((s = 0) = True ∧ gi_I k 90 n = -1)) : gi_cx (d + 1) 136 [.inr (.inr (some 79)), .inl (nI n), .inl s] k Q ↔ Q none k := by
  refine gi_cx_iff ?_ Q
  have ev : vp_in (nI n) 64 := vp_in_nI hn (by omega)
  have ec : (nI n).toNatClampNeg = n := nI_clamp (by omega)
  have lt : ((-1 : Int32) < 0) = True := by decide
  rcases hw with w | ⟨w, w2⟩
  · simp only [e136, x136_0, x136_1, x136_4, x136_5, x136_8, x136_9, x136_10, x136_13, x136_14, x136_17, x136_18, x136_21, x136_22, x136_23, x136_24, x136_25, x136_26, x136_29, x136_30, x136_31, x136_32, x136_33, x136_36, x136_37, x136_38, x136_39, x136_42, x136_43, x136_46, ldI_1, ldI_2, ldR_0, I_pI, R_pI, c_pI, n_pI, u_pI, t_pI, l_pI, I_pR, R_pR, c_pR, n_pR, u_pR, t_pR, l_pR, get_s, Option.toList, List.nil_append, List.cons_append, List.length_nil, List.length_cons, gi_B, true_and, and_true, false_and, and_false, not_true_eq_false, not_false_eq_true, true_implies, false_implies, implies_true, Classical.not_not, ite_true, ite_false, Option.some.injEq, Sum.inl.injEq, exists_eq', eq_self, true_or, or_true, false_or, or_false, Nat.reduceEqDiff, Nat.reduceLeDiff, Nat.reduceAdd, Nat.zero_le, one_ne0, if_neg one_ne0', lt_102_103, lt_102_104, lt_102_105, lt_102_106, lt_99_107, lt_100_107, lt_101_107, lt_103_107, lt_104_107, lt_105_107, lt_106_107, lt_98_99, lt_98_100, lt_98_101, lt_98_106, tg_1 hS, tg_2 hS, tg_3 hS, tg_4 hS, tg_5 hS, tg_6 hS, tg_7 hS, tg_8 hS, tg_9 hS, tg_10 hS, tg_75 hS, tg_79 hS, tg_80 hS, tg_81 hS, tg_82 hS, tg_83 hS, tg_84 hS, tg_85 hS, tg_86 hS, tg_87 hS, tg_88 hS, tg_89 hS, tg_90 hS, tg_91 hS, tg_92 hS, tg_93 hS, tg_94 hS, tg_95 hS, tg_96 hS, tg_97 hS, tg_98 hS, tg_99 hS, tg_100 hS, tg_101 hS, tg_102 hS, tg_103 hS, tg_104 hS, tg_105 hS, tg_106 hS, tg_107 hS, tg_108 hS, ln_2 hS, ln_3 hS, ln_4 hS, ln_5 hS, ln_7 hS, ln_9 hS, ln_10 hS, ln_75 hS, ln_80 hS, ln_81 hS, ln_82 hS, ln_83 hS, ln_84 hS, ln_85 hS, ln_86 hS, ln_87 hS, ln_88 hS, ln_89 hS, ln_90 hS, ln_91 hS, ln_92 hS, ln_93 hS, ln_94 hS, ln_95 hS, ln_96 hS, ln_97 hS, ln_98 hS, ln_99 hS, ln_100 hS, ln_101 hS, ln_102 hS, ln_103 hS, ln_104 hS, ln_105 hS, ln_106 hS, ln_107 hS, ln_108 hS, rf_1_0 hS, rf_1_1 hS, rf_1_2 hS, rf_1_3 hS, rf_1_4 hS, rf_1_5 hS, rf_1_6 hS, rf_6_0 hS, rf_8_1 hS, rf_8_2 hS, rf_79_1 hS, rf_79_2 hS, rf_79_3 hS, rf_79_4 hS, rf_79_5 hS, rf_79_6 hS, rf_79_7 hS, rf_79_8 hS, rf_79_9 hS, rf_79_10 hS, rf_79_11 hS, rf_79_12 hS, rf_79_13 hS, rf_79_14 hS, rf_79_15 hS, rf_79_16 hS, rf_79_17 hS, rf_79_18 hS, rf_79_19 hS, rf_79_20 hS, rf_79_21 hS, rf_79_22 hS, rf_79_24 hS, rf_79_25 hS, rf_79_26 hS, rf_79_27 hS, rf_79_28 hS, rf_79_29 hS, rf_79_30 hS, w]
  · simp only [e136, x136_0, x136_1, x136_4, x136_5, x136_8, x136_9, x136_10, x136_13, x136_14, x136_17, x136_18, x136_21, x136_22, x136_23, x136_24, x136_25, x136_26, x136_29, x136_30, x136_31, x136_32, x136_33, x136_36, x136_37, x136_38, x136_39, x136_42, x136_43, x136_46, ldI_1, ldI_2, ldR_0, I_pI, R_pI, c_pI, n_pI, u_pI, t_pI, l_pI, I_pR, R_pR, c_pR, n_pR, u_pR, t_pR, l_pR, get_s, Option.toList, List.nil_append, List.cons_append, List.length_nil, List.length_cons, gi_B, true_and, and_true, false_and, and_false, not_true_eq_false, not_false_eq_true, true_implies, false_implies, implies_true, Classical.not_not, ite_true, ite_false, Option.some.injEq, Sum.inl.injEq, exists_eq', eq_self, true_or, or_true, false_or, or_false, Nat.reduceEqDiff, Nat.reduceLeDiff, Nat.reduceAdd, Nat.zero_le, one_ne0, if_neg one_ne0', lt_102_103, lt_102_104, lt_102_105, lt_102_106, lt_99_107, lt_100_107, lt_101_107, lt_103_107, lt_104_107, lt_105_107, lt_106_107, lt_98_99, lt_98_100, lt_98_101, lt_98_106, tg_1 hS, tg_2 hS, tg_3 hS, tg_4 hS, tg_5 hS, tg_6 hS, tg_7 hS, tg_8 hS, tg_9 hS, tg_10 hS, tg_75 hS, tg_79 hS, tg_80 hS, tg_81 hS, tg_82 hS, tg_83 hS, tg_84 hS, tg_85 hS, tg_86 hS, tg_87 hS, tg_88 hS, tg_89 hS, tg_90 hS, tg_91 hS, tg_92 hS, tg_93 hS, tg_94 hS, tg_95 hS, tg_96 hS, tg_97 hS, tg_98 hS, tg_99 hS, tg_100 hS, tg_101 hS, tg_102 hS, tg_103 hS, tg_104 hS, tg_105 hS, tg_106 hS, tg_107 hS, tg_108 hS, ln_2 hS, ln_3 hS, ln_4 hS, ln_5 hS, ln_7 hS, ln_9 hS, ln_10 hS, ln_75 hS, ln_80 hS, ln_81 hS, ln_82 hS, ln_83 hS, ln_84 hS, ln_85 hS, ln_86 hS, ln_87 hS, ln_88 hS, ln_89 hS, ln_90 hS, ln_91 hS, ln_92 hS, ln_93 hS, ln_94 hS, ln_95 hS, ln_96 hS, ln_97 hS, ln_98 hS, ln_99 hS, ln_100 hS, ln_101 hS, ln_102 hS, ln_103 hS, ln_104 hS, ln_105 hS, ln_106 hS, ln_107 hS, ln_108 hS, rf_1_0 hS, rf_1_1 hS, rf_1_2 hS, rf_1_3 hS, rf_1_4 hS, rf_1_5 hS, rf_1_6 hS, rf_6_0 hS, rf_8_1 hS, rf_8_2 hS, rf_79_1 hS, rf_79_2 hS, rf_79_3 hS, rf_79_4 hS, rf_79_5 hS, rf_79_6 hS, rf_79_7 hS, rf_79_8 hS, rf_79_9 hS, rf_79_10 hS, rf_79_11 hS, rf_79_12 hS, rf_79_13 hS, rf_79_14 hS, rf_79_15 hS, rf_79_16 hS, rf_79_17 hS, rf_79_18 hS, rf_79_19 hS, rf_79_20 hS, rf_79_21 hS, rf_79_22 hS, rf_79_24 hS, rf_79_25 hS, rf_79_26 hS, rf_79_27 hS, rf_79_28 hS, rf_79_29 hS, rf_79_30 hS, w, w2, ev, ec, lt]

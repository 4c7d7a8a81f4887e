/-! where attributes lie; pair: side -/
set_option maxRecDepth 100000
theorem stL_3r {k : gi_K} {p : Nat} {l0 l1 l3 l4 : Option gi_V} {y : Option Nat} {ls : gi_L} {st : List gi_V} {h : gi_H} {x : Int64} : gi_stL k p (l0 :: l1 :: some (.inr (.inr y)) :: l3 :: l4 :: ls) (.inr (.inl x) :: st) h 3 = k p (l0 :: l1 :: some (.inr (.inr y)) :: some (.inr (.inl x)) :: none :: ls) st h := propext ⟨fun q => q.2, fun q => ⟨by simp only [List.length_cons]; omega, q⟩⟩
theorem pI_self {h : gi_H} {a k : Nat} : gi_pI h a k (gi_I h a k) = h := by
  obtain ⟨h1, h2, h3, h4, h5⟩ := h
  unfold gi_pI gi_I
  simp only
  congr 2
  funext b j
  split
  · rename_i e
    rw [e.1, e.2]
  · rfl
theorem pI_pI {h : gi_H} {a k : Nat} {v w : Int32} : gi_pI (gi_pI h a k v) a k w = gi_pI h a k w := by
  obtain ⟨h1, h2, h3, h4, h5⟩ := h
  unfold gi_pI
  simp only
  congr 2
  funext b j
  split <;> rfl
def fo_ (f : Nat → Int32) (wt : Int32) : Nat → Nat → Nat → Nat → Int32 → Int32
  | _, 0, _, _, v => v
  | j, m + 1, t, s, v => if f j < 0 then fo_ f wt (j + 1) m t s v else if t + (3 + (f j).toNatClampNeg) ≤ 40 then fo_ f wt (j + 1) m (t + (3 + (f j).toNatClampNeg)) s (if nI j = wt then 0 else v) else if s + (3 + (f j).toNatClampNeg) ≤ 64 then fo_ f wt (j + 1) m t (s + (3 + (f j).toNatClampNeg)) (if nI j = wt then 1 else v) else v
def bs_ (f : Nat → Int32) : Nat → Nat → Nat → Nat → Int64 → Int64
  | _, 0, _, _, w => w
  | j, m + 1, t, s, w => if f j < 0 then bs_ f (j + 1) m t s w else if t + (3 + (f j).toNatClampNeg) ≤ 40 then bs_ f (j + 1) m (t + (3 + (f j).toNatClampNeg)) s w else if s + (3 + (f j).toNatClampNeg) ≤ 64 then bs_ f (j + 1) m t (s + (3 + (f j).toNatClampNeg)) (w ||| (1 <<< ((nI j).toInt64 &&& 63))) else -1
def lr_ (x : Option (Nat × Nat)) : Int32 := match x with
  | none => -1
  | some p => nI p.2
def lf_ (S : gi_Z) (i : Nat) (ch len : Int32) (j : Nat) : Int32 := if nI j = ch then len else S 99 (32 * i + j)
theorem n3 : (3 : Int32) = nI 3 := rfl
theorem g40 {x : Nat} (hx : x < 2147483648) : ((40 : Int32) < nI x) = ¬ (x ≤ 40) := propext (by rw [i32_lt, nI_toInt hx, ti_40]; omega)
theorem g64 {x : Nat} (hx : x < 2147483648) : ((64 : Int32) < nI x) = ¬ (x ≤ 64) := propext (by rw [i32_lt, nI_toInt hx, ti_64]; omega)
theorem lp_135 {d i : Nat} {ch len wt : Int32} {h : gi_H} {Q : gi_P} (hS : gi_S h) (hi : i < 64) (hf : ∀ j, j < 32 → (lf_ (gi_I h) i ch len j).toInt ≤ 60) : ∀ m j t s v l8, j + m = 32 → t ≤ 40 → s ≤ 64 → Q (some (.inl (lr_ (ly_ (lf_ (gi_I h) i ch len) j m t s)))) (gi_pI h 79 31 (fo_ (lf_ (gi_I h) i ch len) wt j m t s v)) → gi_ex (gi_cx d) 135 Q 9 [some (.inr (.inr (some 79))), some (.inl (nI i)), some (.inl ch), some (.inl len), some (.inl wt), some (.inl (nI t)), some (.inl (nI s)), some (.inl (nI j)), l8] [] (gi_pI h 79 31 v)
  | 0, j, t, s, v, l8, e, ht, hs, hq => by
    obtain rfl : j = 32 := by omega
    rw [x135_9]
    simp only [x135_0, x135_1, x135_3, x135_4, x135_6, x135_7, x135_11, x135_13, x135_16, x135_18, x135_19, x135_22, x135_23, x135_26, x135_27, x135_30, x135_32, x135_33, x135_34, x135_36, x135_37, x135_38, x135_40, x135_42, x135_45, x135_47, x135_48, x135_49, x135_51, x135_52, x135_54, x135_57, x135_59, x135_60, x135_62, x135_63, x135_64, x135_66, x135_67, x135_69, x135_71, x135_74, x135_75, x135_78, x135_79, x135_82, x135_85, x135_88, x135_90, x135_91, x135_92, x135_94, x135_95, x135_97, x135_100, x135_102, x135_103, x135_105, x135_106, x135_107, x135_109, x135_110, x135_112, x135_114, x135_117, x135_118, x135_121, x135_122, x135_125, x135_128, x135_131, x135_132, x135_133, x135_136, x135_139, x135_141, inc_7i, inc_7n, inc_7r, ldI_1, ldI_2, ldI_3, ldI_4, ldI_5, ldI_6, ldI_7, ldI_8, ldR_0, stI_5i, stI_5n, stI_5r, stI_6i, stI_6n, stI_6r, stI_7i, stI_7n, stI_7r, stI_8i, stI_8n, stI_8r, I_pI, R_pI, c_pI, n_pI, u_pI, t_pI, l_pI, I_pR, R_pR, c_pR, n_pR, u_pR, t_pR, l_pR, get_s, Option.toList, List.nil_append, List.cons_append, List.length_nil, List.length_cons, gi_B, true_and, and_true, false_and, and_false, not_true_eq_false, not_false_eq_true, true_implies, false_implies, implies_true, Classical.not_not, ite_true, ite_false, Option.some.injEq, Sum.inl.injEq, exists_eq', eq_self, true_or, or_true, false_or, or_false, Nat.reduceEqDiff, Nat.reduceLeDiff, Nat.reduceAdd, Nat.zero_le, one_ne0, if_neg one_ne0', lt_102_103, lt_102_104, lt_102_105, lt_102_106, lt_99_107, lt_100_107, lt_101_107, lt_103_107, lt_104_107, lt_105_107, lt_106_107, lt_98_99, lt_98_100, lt_98_101, lt_98_106, n32, lit_ge]
    exact hq
  | m + 1, j, t, s, v, l8, e, ht, hs, hq => by
    have z1 : vp_in (nI (32 * i + j)) 2048 := vp_in_nI (by omega) (by omega)
    have z2 : (nI (32 * i + j)).toNatClampNeg = 32 * i + j := nI_clamp (by omega)
    have z4 : ((32 : Int32) ≤ nI j) = False := lit_le (N := 32) (by omega) (by omega)
    have nx := fun t s v l8 => lp_135 (d := d) (Q := Q) (wt := wt) hS hi hf m (j + 1) t s v l8 (by omega)
    have hfj := hf j (by omega)
    have key : ∀ x, lf_ (gi_I h) i ch len j = x → gi_ex (gi_cx d) 135 Q 40 [some (.inr (.inr (some 79))), some (.inl (nI i)), some (.inl ch), some (.inl len), some (.inl wt), some (.inl (nI t)), some (.inl (nI s)), some (.inl (nI j)), some (.inl x)] [] (gi_pI h 79 31 v) := by
      intro x hx
      rw [hx] at hfj
      unfold ly_ fo_ at hq
      simp only [hx] at hq
      rcases em_ (x < 0) with w1 | w1
      · simp only [w1, if_true] at hq
        simp only [x135_40, x135_42, x135_45, x135_47, x135_48, x135_49, x135_51, x135_52, x135_54, x135_57, x135_59, x135_60, x135_62, x135_63, x135_64, x135_66, x135_67, x135_69, x135_71, x135_74, x135_75, x135_78, x135_79, x135_82, x135_85, x135_88, x135_90, x135_91, x135_92, x135_94, x135_95, x135_97, x135_100, x135_102, x135_103, x135_105, x135_106, x135_107, x135_109, x135_110, x135_112, x135_114, x135_117, x135_118, x135_121, x135_122, x135_125, x135_128, x135_131, x135_132, x135_133, x135_136, x135_139, x135_141, inc_7i, inc_7n, inc_7r, ldI_4, ldI_5, ldI_6, ldI_7, ldI_8, ldR_0, stI_5i, stI_5n, stI_5r, stI_6i, stI_6n, stI_6r, I_pI, R_pI, c_pI, n_pI, u_pI, t_pI, l_pI, I_pR, R_pR, c_pR, n_pR, u_pR, t_pR, l_pR, get_s, Option.toList, List.nil_append, List.cons_append, List.length_nil, List.length_cons, gi_B, true_and, and_true, false_and, and_false, not_true_eq_false, not_false_eq_true, true_implies, false_implies, implies_true, Classical.not_not, ite_true, ite_false, Option.some.injEq, Sum.inl.injEq, exists_eq', eq_self, true_or, or_true, false_or, or_false, Nat.reduceEqDiff, Nat.reduceLeDiff, Nat.reduceAdd, Nat.zero_le, one_ne0, if_neg one_ne0', lt_102_103, lt_102_104, lt_102_105, lt_102_106, lt_99_107, lt_100_107, lt_101_107, lt_103_107, lt_104_107, lt_105_107, lt_106_107, lt_98_99, lt_98_100, lt_98_101, lt_98_106, w1, nI_i1]
        exact nx _ _ _ _ ht hs hq
      · obtain ⟨k, hk, rfl⟩ := nI_of (x := x) (of_eq_false w1)
        rw [nI_toInt hk] at hfj
        simp only [w1, if_false, nI_clamp hk] at hq
        rcases em_ (t + (3 + k) ≤ 40) with w2 | w2
        · simp only [w2, if_true] at hq
          rcases em_ (nI j = wt) with w3 | w3
          · simp only [w3, if_true] at hq
            simp only [x135_40, x135_42, x135_45, x135_47, x135_48, x135_49, x135_51, x135_52, x135_54, x135_57, x135_59, x135_60, x135_62, x135_63, x135_64, x135_66, x135_67, x135_69, x135_71, x135_74, x135_75, x135_78, x135_79, x135_82, x135_85, x135_88, x135_90, x135_91, x135_92, x135_94, x135_95, x135_97, x135_100, x135_102, x135_103, x135_105, x135_106, x135_107, x135_109, x135_110, x135_112, x135_114, x135_117, x135_118, x135_121, x135_122, x135_125, x135_128, x135_131, x135_132, x135_133, x135_136, x135_139, x135_141, inc_7i, inc_7n, inc_7r, ldI_4, ldI_5, ldI_6, ldI_7, ldI_8, ldR_0, stI_5i, stI_5n, stI_5r, stI_6i, stI_6n, stI_6r, I_pI, R_pI, c_pI, n_pI, u_pI, t_pI, l_pI, I_pR, R_pR, c_pR, n_pR, u_pR, t_pR, l_pR, get_s, Option.toList, List.nil_append, List.cons_append, List.length_nil, List.length_cons, gi_B, tg_1 hS, tg_2 hS, tg_3 hS, tg_4 hS, tg_5 hS, tg_6 hS, tg_7 hS, tg_8 hS, tg_9 hS, tg_10 hS, tg_75 hS, tg_79 hS, tg_80 hS, tg_81 hS, tg_82 hS, tg_83 hS, tg_84 hS, tg_85 hS, tg_86 hS, tg_87 hS, tg_88 hS, tg_89 hS, tg_90 hS, tg_91 hS, tg_92 hS, tg_93 hS, tg_94 hS, tg_95 hS, tg_96 hS, tg_97 hS, tg_98 hS, tg_99 hS, tg_100 hS, tg_101 hS, tg_102 hS, tg_103 hS, tg_104 hS, tg_105 hS, tg_106 hS, tg_107 hS, tg_108 hS, ln_2 hS, ln_3 hS, ln_4 hS, ln_5 hS, ln_7 hS, ln_9 hS, ln_10 hS, ln_75 hS, ln_80 hS, ln_81 hS, ln_82 hS, ln_83 hS, ln_84 hS, ln_85 hS, ln_86 hS, ln_87 hS, ln_88 hS, ln_89 hS, ln_90 hS, ln_91 hS, ln_92 hS, ln_93 hS, ln_94 hS, ln_95 hS, ln_96 hS, ln_97 hS, ln_98 hS, ln_99 hS, ln_100 hS, ln_101 hS, ln_102 hS, ln_103 hS, ln_104 hS, ln_105 hS, ln_106 hS, ln_107 hS, ln_108 hS, rf_1_0 hS, rf_1_1 hS, rf_1_2 hS, rf_1_3 hS, rf_1_4 hS, rf_1_5 hS, rf_1_6 hS, rf_6_0 hS, rf_8_1 hS, rf_8_2 hS, rf_79_1 hS, rf_79_2 hS, rf_79_3 hS, rf_79_4 hS, rf_79_5 hS, rf_79_6 hS, rf_79_7 hS, rf_79_8 hS, rf_79_9 hS, rf_79_10 hS, rf_79_11 hS, rf_79_12 hS, rf_79_13 hS, rf_79_14 hS, rf_79_15 hS, rf_79_16 hS, rf_79_17 hS, rf_79_18 hS, rf_79_19 hS, rf_79_20 hS, rf_79_21 hS, rf_79_22 hS, rf_79_24 hS, rf_79_25 hS, rf_79_26 hS, rf_79_27 hS, rf_79_28 hS, rf_79_29 hS, rf_79_30 hS, true_and, and_true, false_and, and_false, not_true_eq_false, not_false_eq_true, true_implies, false_implies, implies_true, Classical.not_not, ite_true, ite_false, Option.some.injEq, Sum.inl.injEq, exists_eq', eq_self, true_or, or_true, false_or, or_false, Nat.reduceEqDiff, Nat.reduceLeDiff, Nat.reduceAdd, Nat.zero_le, one_ne0, if_neg one_ne0', lt_102_103, lt_102_104, lt_102_105, lt_102_106, lt_99_107, lt_100_107, lt_101_107, lt_103_107, lt_104_107, lt_105_107, lt_106_107, lt_98_99, lt_98_100, lt_98_101, lt_98_106, n3, nI_add, Nat.add_assoc, g40 (show t + (3 + k) < 2147483648 by omega), w1, w2, w3, nI_i1, pI_pI]
            exact nx _ _ _ _ (of_eq_true w2) hs hq
          · simp only [w3, if_false] at hq
            simp only [x135_40, x135_42, x135_45, x135_47, x135_48, x135_49, x135_51, x135_52, x135_54, x135_57, x135_59, x135_60, x135_62, x135_63, x135_64, x135_66, x135_67, x135_69, x135_71, x135_74, x135_75, x135_78, x135_79, x135_82, x135_85, x135_88, x135_90, x135_91, x135_92, x135_94, x135_95, x135_97, x135_100, x135_102, x135_103, x135_105, x135_106, x135_107, x135_109, x135_110, x135_112, x135_114, x135_117, x135_118, x135_121, x135_122, x135_125, x135_128, x135_131, x135_132, x135_133, x135_136, x135_139, x135_141, inc_7i, inc_7n, inc_7r, ldI_4, ldI_5, ldI_6, ldI_7, ldI_8, ldR_0, stI_5i, stI_5n, stI_5r, stI_6i, stI_6n, stI_6r, I_pI, R_pI, c_pI, n_pI, u_pI, t_pI, l_pI, I_pR, R_pR, c_pR, n_pR, u_pR, t_pR, l_pR, get_s, Option.toList, List.nil_append, List.cons_append, List.length_nil, List.length_cons, gi_B, tg_1 hS, tg_2 hS, tg_3 hS, tg_4 hS, tg_5 hS, tg_6 hS, tg_7 hS, tg_8 hS, tg_9 hS, tg_10 hS, tg_75 hS, tg_79 hS, tg_80 hS, tg_81 hS, tg_82 hS, tg_83 hS, tg_84 hS, tg_85 hS, tg_86 hS, tg_87 hS, tg_88 hS, tg_89 hS, tg_90 hS, tg_91 hS, tg_92 hS, tg_93 hS, tg_94 hS, tg_95 hS, tg_96 hS, tg_97 hS, tg_98 hS, tg_99 hS, tg_100 hS, tg_101 hS, tg_102 hS, tg_103 hS, tg_104 hS, tg_105 hS, tg_106 hS, tg_107 hS, tg_108 hS, ln_2 hS, ln_3 hS, ln_4 hS, ln_5 hS, ln_7 hS, ln_9 hS, ln_10 hS, ln_75 hS, ln_80 hS, ln_81 hS, ln_82 hS, ln_83 hS, ln_84 hS, ln_85 hS, ln_86 hS, ln_87 hS, ln_88 hS, ln_89 hS, ln_90 hS, ln_91 hS, ln_92 hS, ln_93 hS, ln_94 hS, ln_95 hS, ln_96 hS, ln_97 hS, ln_98 hS, ln_99 hS, ln_100 hS, ln_101 hS, ln_102 hS, ln_103 hS, ln_104 hS, ln_105 hS, ln_106 hS, ln_107 hS, ln_108 hS, rf_1_0 hS, rf_1_1 hS, rf_1_2 hS, rf_1_3 hS, rf_1_4 hS, rf_1_5 hS, rf_1_6 hS, rf_6_0 hS, rf_8_1 hS, rf_8_2 hS, rf_79_1 hS, rf_79_2 hS, rf_79_3 hS, rf_79_4 hS, rf_79_5 hS, rf_79_6 hS, rf_79_7 hS, rf_79_8 hS, rf_79_9 hS, rf_79_10 hS, rf_79_11 hS, rf_79_12 hS, rf_79_13 hS, rf_79_14 hS, rf_79_15 hS, rf_79_16 hS, rf_79_17 hS, rf_79_18 hS, rf_79_19 hS, rf_79_20 hS, rf_79_21 hS, rf_79_22 hS, rf_79_24 hS, rf_79_25 hS, rf_79_26 hS, rf_79_27 hS, rf_79_28 hS, rf_79_29 hS, rf_79_30 hS, true_and, and_true, false_and, and_false, not_true_eq_false, not_false_eq_true, true_implies, false_implies, implies_true, Classical.not_not, ite_true, ite_false, Option.some.injEq, Sum.inl.injEq, exists_eq', eq_self, true_or, or_true, false_or, or_false, Nat.reduceEqDiff, Nat.reduceLeDiff, Nat.reduceAdd, Nat.zero_le, one_ne0, if_neg one_ne0', lt_102_103, lt_102_104, lt_102_105, lt_102_106, lt_99_107, lt_100_107, lt_101_107, lt_103_107, lt_104_107, lt_105_107, lt_106_107, lt_98_99, lt_98_100, lt_98_101, lt_98_106, n3, nI_add, Nat.add_assoc, g40 (show t + (3 + k) < 2147483648 by omega), w1, w2, w3, nI_i1, pI_pI]
            exact nx _ _ _ _ (of_eq_true w2) hs hq
        · simp only [w2, if_false] at hq
          rcases em_ (s + (3 + k) ≤ 64) with w4 | w4
          · simp only [w4, if_true] at hq
            rcases em_ (nI j = wt) with w3 | w3
            · simp only [w3, if_true] at hq
              simp only [x135_40, x135_42, x135_45, x135_47, x135_48, x135_49, x135_51, x135_52, x135_54, x135_57, x135_59, x135_60, x135_62, x135_63, x135_64, x135_66, x135_67, x135_69, x135_71, x135_74, x135_75, x135_78, x135_79, x135_82, x135_85, x135_88, x135_90, x135_91, x135_92, x135_94, x135_95, x135_97, x135_100, x135_102, x135_103, x135_105, x135_106, x135_107, x135_109, x135_110, x135_112, x135_114, x135_117, x135_118, x135_121, x135_122, x135_125, x135_128, x135_131, x135_132, x135_133, x135_136, x135_139, x135_141, inc_7i, inc_7n, inc_7r, ldI_4, ldI_5, ldI_6, ldI_7, ldI_8, ldR_0, stI_5i, stI_5n, stI_5r, stI_6i, stI_6n, stI_6r, I_pI, R_pI, c_pI, n_pI, u_pI, t_pI, l_pI, I_pR, R_pR, c_pR, n_pR, u_pR, t_pR, l_pR, get_s, Option.toList, List.nil_append, List.cons_append, List.length_nil, List.length_cons, gi_B, tg_1 hS, tg_2 hS, tg_3 hS, tg_4 hS, tg_5 hS, tg_6 hS, tg_7 hS, tg_8 hS, tg_9 hS, tg_10 hS, tg_75 hS, tg_79 hS, tg_80 hS, tg_81 hS, tg_82 hS, tg_83 hS, tg_84 hS, tg_85 hS, tg_86 hS, tg_87 hS, tg_88 hS, tg_89 hS, tg_90 hS, tg_91 hS, tg_92 hS, tg_93 hS, tg_94 hS, tg_95 hS, tg_96 hS, tg_97 hS, tg_98 hS, tg_99 hS, tg_100 hS, tg_101 hS, tg_102 hS, tg_103 hS, tg_104 hS, tg_105 hS, tg_106 hS, tg_107 hS, tg_108 hS, ln_2 hS, ln_3 hS, ln_4 hS, ln_5 hS, ln_7 hS, ln_9 hS, ln_10 hS, ln_75 hS, ln_80 hS, ln_81 hS, ln_82 hS, ln_83 hS, ln_84 hS, ln_85 hS, ln_86 hS, ln_87 hS, ln_88 hS, ln_89 hS, ln_90 hS, ln_91 hS, ln_92 hS, ln_93 hS, ln_94 hS, ln_95 hS, ln_96 hS, ln_97 hS, ln_98 hS, ln_99 hS, ln_100 hS, ln_101 hS, ln_102 hS, ln_103 hS, ln_104 hS, ln_105 hS, ln_106 hS, ln_107 hS, ln_108 hS, rf_1_0 hS, rf_1_1 hS, rf_1_2 hS, rf_1_3 hS, rf_1_4 hS, rf_1_5 hS, rf_1_6 hS, rf_6_0 hS, rf_8_1 hS, rf_8_2 hS, rf_79_1 hS, rf_79_2 hS, rf_79_3 hS, rf_79_4 hS, rf_79_5 hS, rf_79_6 hS, rf_79_7 hS, rf_79_8 hS, rf_79_9 hS, rf_79_10 hS, rf_79_11 hS, rf_79_12 hS, rf_79_13 hS, rf_79_14 hS, rf_79_15 hS, rf_79_16 hS, rf_79_17 hS, rf_79_18 hS, rf_79_19 hS, rf_79_20 hS, rf_79_21 hS, rf_79_22 hS, rf_79_24 hS, rf_79_25 hS, rf_79_26 hS, rf_79_27 hS, rf_79_28 hS, rf_79_29 hS, rf_79_30 hS, true_and, and_true, false_and, and_false, not_true_eq_false, not_false_eq_true, true_implies, false_implies, implies_true, Classical.not_not, ite_true, ite_false, Option.some.injEq, Sum.inl.injEq, exists_eq', eq_self, true_or, or_true, false_or, or_false, Nat.reduceEqDiff, Nat.reduceLeDiff, Nat.reduceAdd, Nat.zero_le, one_ne0, if_neg one_ne0', lt_102_103, lt_102_104, lt_102_105, lt_102_106, lt_99_107, lt_100_107, lt_101_107, lt_103_107, lt_104_107, lt_105_107, lt_106_107, lt_98_99, lt_98_100, lt_98_101, lt_98_106, n3, nI_add, Nat.add_assoc, g40 (show t + (3 + k) < 2147483648 by omega), g64 (show s + (3 + k) < 2147483648 by omega), w1, w2, w3, w4, nI_i1, pI_pI]
              exact nx _ _ _ _ ht (of_eq_true w4) hq
            · simp only [w3, if_false] at hq
              simp only [x135_40, x135_42, x135_45, x135_47, x135_48, x135_49, x135_51, x135_52, x135_54, x135_57, x135_59, x135_60, x135_62, x135_63, x135_64, x135_66, x135_67, x135_69, x135_71, x135_74, x135_75, x135_78, x135_79, x135_82, x135_85, x135_88, x135_90, x135_91, x135_92, x135_94, x135_95, x135_97, x135_100, x135_102, x135_103, x135_105, x135_106, x135_107, x135_109, x135_110, x135_112, x135_114, x135_117, x135_118, x135_121, x135_122, x135_125, x135_128, x135_131, x135_132, x135_133, x135_136, x135_139, x135_141, inc_7i, inc_7n, inc_7r, ldI_4, ldI_5, ldI_6, ldI_7, ldI_8, ldR_0, stI_5i, stI_5n, stI_5r, stI_6i, stI_6n, stI_6r, I_pI, R_pI, c_pI, n_pI, u_pI, t_pI, l_pI, I_pR, R_pR, c_pR, n_pR, u_pR, t_pR, l_pR, get_s, Option.toList, List.nil_append, List.cons_append, List.length_nil, List.length_cons, gi_B, tg_1 hS, tg_2 hS, tg_3 hS, tg_4 hS, tg_5 hS, tg_6 hS, tg_7 hS, tg_8 hS, tg_9 hS, tg_10 hS, tg_75 hS, tg_79 hS, tg_80 hS, tg_81 hS, tg_82 hS, tg_83 hS, tg_84 hS, tg_85 hS, tg_86 hS, tg_87 hS, tg_88 hS, tg_89 hS, tg_90 hS, tg_91 hS, tg_92 hS, tg_93 hS, tg_94 hS, tg_95 hS, tg_96 hS, tg_97 hS, tg_98 hS, tg_99 hS, tg_100 hS, tg_101 hS, tg_102 hS, tg_103 hS, tg_104 hS, tg_105 hS, tg_106 hS, tg_107 hS, tg_108 hS, ln_2 hS, ln_3 hS, ln_4 hS, ln_5 hS, ln_7 hS, ln_9 hS, ln_10 hS, ln_75 hS, ln_80 hS, ln_81 hS, ln_82 hS, ln_83 hS, ln_84 hS, ln_85 hS, ln_86 hS, ln_87 hS, ln_88 hS, ln_89 hS, ln_90 hS, ln_91 hS, ln_92 hS, ln_93 hS, ln_94 hS, ln_95 hS, ln_96 hS, ln_97 hS, ln_98 hS, ln_99 hS, ln_100 hS, ln_101 hS, ln_102 hS, ln_103 hS, ln_104 hS, ln_105 hS, ln_106 hS, ln_107 hS, ln_108 hS, rf_1_0 hS, rf_1_1 hS, rf_1_2 hS, rf_1_3 hS, rf_1_4 hS, rf_1_5 hS, rf_1_6 hS, rf_6_0 hS, rf_8_1 hS, rf_8_2 hS, rf_79_1 hS, rf_79_2 hS, rf_79_3 hS, rf_79_4 hS, rf_79_5 hS, rf_79_6 hS, rf_79_7 hS, rf_79_8 hS, rf_79_9 hS, rf_79_10 hS, rf_79_11 hS, rf_79_12 hS, rf_79_13 hS, rf_79_14 hS, rf_79_15 hS, rf_79_16 hS, rf_79_17 hS, rf_79_18 hS, rf_79_19 hS, rf_79_20 hS, rf_79_21 hS, rf_79_22 hS, rf_79_24 hS, rf_79_25 hS, rf_79_26 hS, rf_79_27 hS, rf_79_28 hS, rf_79_29 hS, rf_79_30 hS, true_and, and_true, false_and, and_false, not_true_eq_false, not_false_eq_true, true_implies, false_implies, implies_true, Classical.not_not, ite_true, ite_false, Option.some.injEq, Sum.inl.injEq, exists_eq', eq_self, true_or, or_true, false_or, or_false, Nat.reduceEqDiff, Nat.reduceLeDiff, Nat.reduceAdd, Nat.zero_le, one_ne0, if_neg one_ne0', lt_102_103, lt_102_104, lt_102_105, lt_102_106, lt_99_107, lt_100_107, lt_101_107, lt_103_107, lt_104_107, lt_105_107, lt_106_107, lt_98_99, lt_98_100, lt_98_101, lt_98_106, n3, nI_add, Nat.add_assoc, g40 (show t + (3 + k) < 2147483648 by omega), g64 (show s + (3 + k) < 2147483648 by omega), w1, w2, w3, w4, nI_i1, pI_pI]
              exact nx _ _ _ _ ht (of_eq_true w4) hq
          · simp only [w4, if_false] at hq
            simp only [x135_40, x135_42, x135_45, x135_47, x135_48, x135_49, x135_51, x135_52, x135_54, x135_57, x135_59, x135_60, x135_62, x135_63, x135_64, x135_66, x135_67, x135_69, x135_71, x135_74, x135_75, x135_78, x135_79, x135_82, x135_85, x135_88, x135_90, x135_91, x135_92, x135_94, x135_95, x135_97, x135_100, x135_102, x135_103, x135_105, x135_106, x135_107, x135_109, x135_110, x135_112, x135_114, x135_117, x135_118, x135_121, x135_122, x135_125, x135_128, x135_131, x135_132, x135_133, x135_136, x135_139, x135_141, inc_7i, inc_7n, inc_7r, ldI_4, ldI_5, ldI_6, ldI_7, ldI_8, ldR_0, stI_5i, stI_5n, stI_5r, stI_6i, stI_6n, stI_6r, I_pI, R_pI, c_pI, n_pI, u_pI, t_pI, l_pI, I_pR, R_pR, c_pR, n_pR, u_pR, t_pR, l_pR, get_s, Option.toList, List.nil_append, List.cons_append, List.length_nil, List.length_cons, gi_B, tg_1 hS, tg_2 hS, tg_3 hS, tg_4 hS, tg_5 hS, tg_6 hS, tg_7 hS, tg_8 hS, tg_9 hS, tg_10 hS, tg_75 hS, tg_79 hS, tg_80 hS, tg_81 hS, tg_82 hS, tg_83 hS, tg_84 hS, tg_85 hS, tg_86 hS, tg_87 hS, tg_88 hS, tg_89 hS, tg_90 hS, tg_91 hS, tg_92 hS, tg_93 hS, tg_94 hS, tg_95 hS, tg_96 hS, tg_97 hS, tg_98 hS, tg_99 hS, tg_100 hS, tg_101 hS, tg_102 hS, tg_103 hS, tg_104 hS, tg_105 hS, tg_106 hS, tg_107 hS, tg_108 hS, ln_2 hS, ln_3 hS, ln_4 hS, ln_5 hS, ln_7 hS, ln_9 hS, ln_10 hS, ln_75 hS, ln_80 hS, ln_81 hS, ln_82 hS, ln_83 hS, ln_84 hS, ln_85 hS, ln_86 hS, ln_87 hS, ln_88 hS, ln_89 hS, ln_90 hS, ln_91 hS, ln_92 hS, ln_93 hS, ln_94 hS, ln_95 hS, ln_96 hS, ln_97 hS, ln_98 hS, ln_99 hS, ln_100 hS, ln_101 hS, ln_102 hS, ln_103 hS, ln_104 hS, ln_105 hS, ln_106 hS, ln_107 hS, ln_108 hS, rf_1_0 hS, rf_1_1 hS, rf_1_2 hS, rf_1_3 hS, rf_1_4 hS, rf_1_5 hS, rf_1_6 hS, rf_6_0 hS, rf_8_1 hS, rf_8_2 hS, rf_79_1 hS, rf_79_2 hS, rf_79_3 hS, rf_79_4 hS, rf_79_5 hS, rf_79_6 hS, rf_79_7 hS, rf_79_8 hS, rf_79_9 hS, rf_79_10 hS, rf_79_11 hS, rf_79_12 hS, rf_79_13 hS, rf_79_14 hS, rf_79_15 hS, rf_79_16 hS, rf_79_17 hS, rf_79_18 hS, rf_79_19 hS, rf_79_20 hS, rf_79_21 hS, rf_79_22 hS, rf_79_24 hS, rf_79_25 hS, rf_79_26 hS, rf_79_27 hS, rf_79_28 hS, rf_79_29 hS, rf_79_30 hS, true_and, and_true, false_and, and_false, not_true_eq_false, not_false_eq_true, true_implies, false_implies, implies_true, Classical.not_not, ite_true, ite_false, Option.some.injEq, Sum.inl.injEq, exists_eq', eq_self, true_or, or_true, false_or, or_false, Nat.reduceEqDiff, Nat.reduceLeDiff, Nat.reduceAdd, Nat.zero_le, one_ne0, if_neg one_ne0', lt_102_103, lt_102_104, lt_102_105, lt_102_106, lt_99_107, lt_100_107, lt_101_107, lt_103_107, lt_104_107, lt_105_107, lt_106_107, lt_98_99, lt_98_100, lt_98_101, lt_98_106, n3, nI_add, Nat.add_assoc, g40 (show t + (3 + k) < 2147483648 by omega), g64 (show s + (3 + k) < 2147483648 by omega), w1, w2, w4]
            exact hq
    rw [x135_9]
    rcases em_ (nI j = ch) with w1 | w1
    · have := key len (by unfold lf_; simp only [w1, if_true])
      simp only [x135_0, x135_1, x135_3, x135_4, x135_6, x135_7, x135_11, x135_13, x135_16, x135_18, x135_19, x135_22, x135_23, x135_26, x135_27, x135_30, x135_32, x135_33, x135_34, x135_36, x135_37, x135_38, ldI_1, ldI_2, ldI_3, ldI_7, ldR_0, stI_5i, stI_5n, stI_5r, stI_6i, stI_6n, stI_6r, stI_7i, stI_7n, stI_7r, stI_8i, stI_8n, stI_8r, I_pI, R_pI, c_pI, n_pI, u_pI, t_pI, l_pI, I_pR, R_pR, c_pR, n_pR, u_pR, t_pR, l_pR, get_s, Option.toList, List.nil_append, List.cons_append, List.length_nil, List.length_cons, gi_B, true_and, and_true, false_and, and_false, not_true_eq_false, not_false_eq_true, true_implies, false_implies, implies_true, Classical.not_not, ite_true, ite_false, Option.some.injEq, Sum.inl.injEq, exists_eq', eq_self, true_or, or_true, false_or, or_false, Nat.reduceEqDiff, Nat.reduceLeDiff, Nat.reduceAdd, Nat.zero_le, one_ne0, if_neg one_ne0', lt_102_103, lt_102_104, lt_102_105, lt_102_106, lt_99_107, lt_100_107, lt_101_107, lt_103_107, lt_104_107, lt_105_107, lt_106_107, lt_98_99, lt_98_100, lt_98_101, lt_98_106, z4, w1]
      exact this
    · have := key (gi_I h 99 (32 * i + j)) (by unfold lf_; simp only [w1, if_false])
      simp only [x135_0, x135_1, x135_3, x135_4, x135_6, x135_7, x135_11, x135_13, x135_16, x135_18, x135_19, x135_22, x135_23, x135_26, x135_27, x135_30, x135_32, x135_33, x135_34, x135_36, x135_37, x135_38, ldI_1, ldI_2, ldI_3, ldI_7, ldR_0, stI_5i, stI_5n, stI_5r, stI_6i, stI_6n, stI_6r, stI_7i, stI_7n, stI_7r, stI_8i, stI_8n, stI_8r, I_pI, R_pI, c_pI, n_pI, u_pI, t_pI, l_pI, I_pR, R_pR, c_pR, n_pR, u_pR, t_pR, l_pR, get_s, Option.toList, List.nil_append, List.cons_append, List.length_nil, List.length_cons, gi_B, tg_1 hS, tg_2 hS, tg_3 hS, tg_4 hS, tg_5 hS, tg_6 hS, tg_7 hS, tg_8 hS, tg_9 hS, tg_10 hS, tg_75 hS, tg_79 hS, tg_80 hS, tg_81 hS, tg_82 hS, tg_83 hS, tg_84 hS, tg_85 hS, tg_86 hS, tg_87 hS, tg_88 hS, tg_89 hS, tg_90 hS, tg_91 hS, tg_92 hS, tg_93 hS, tg_94 hS, tg_95 hS, tg_96 hS, tg_97 hS, tg_98 hS, tg_99 hS, tg_100 hS, tg_101 hS, tg_102 hS, tg_103 hS, tg_104 hS, tg_105 hS, tg_106 hS, tg_107 hS, tg_108 hS, ln_2 hS, ln_3 hS, ln_4 hS, ln_5 hS, ln_7 hS, ln_9 hS, ln_10 hS, ln_75 hS, ln_80 hS, ln_81 hS, ln_82 hS, ln_83 hS, ln_84 hS, ln_85 hS, ln_86 hS, ln_87 hS, ln_88 hS, ln_89 hS, ln_90 hS, ln_91 hS, ln_92 hS, ln_93 hS, ln_94 hS, ln_95 hS, ln_96 hS, ln_97 hS, ln_98 hS, ln_99 hS, ln_100 hS, ln_101 hS, ln_102 hS, ln_103 hS, ln_104 hS, ln_105 hS, ln_106 hS, ln_107 hS, ln_108 hS, rf_1_0 hS, rf_1_1 hS, rf_1_2 hS, rf_1_3 hS, rf_1_4 hS, rf_1_5 hS, rf_1_6 hS, rf_6_0 hS, rf_8_1 hS, rf_8_2 hS, rf_79_1 hS, rf_79_2 hS, rf_79_3 hS, rf_79_4 hS, rf_79_5 hS, rf_79_6 hS, rf_79_7 hS, rf_79_8 hS, rf_79_9 hS, rf_79_10 hS, rf_79_11 hS, rf_79_12 hS, rf_79_13 hS, rf_79_14 hS, rf_79_15 hS, rf_79_16 hS, rf_79_17 hS, rf_79_18 hS, rf_79_19 hS, rf_79_20 hS, rf_79_21 hS, rf_79_22 hS, rf_79_24 hS, rf_79_25 hS, rf_79_26 hS, rf_79_27 hS, rf_79_28 hS, rf_79_29 hS, rf_79_30 hS, true_and, and_true, false_and, and_false, not_true_eq_false, not_false_eq_true, true_implies, false_implies, implies_true, Classical.not_not, ite_true, ite_false, Option.some.injEq, Sum.inl.injEq, exists_eq', eq_self, true_or, or_true, false_or, or_false, Nat.reduceEqDiff, Nat.reduceLeDiff, Nat.reduceAdd, Nat.zero_le, one_ne0, if_neg one_ne0', lt_102_103, lt_102_104, lt_102_105, lt_102_106, lt_99_107, lt_100_107, lt_101_107, lt_103_107, lt_104_107, lt_105_107, lt_106_107, lt_98_99, lt_98_100, lt_98_101, lt_98_106, z4, w1, ixE, z1, z2]
      exact this
theorem c_135 {d i : Nat} {ch len wt : Int32} {h : gi_H} {Q : gi_P} (hS : gi_S h) (hi : i < 64) (hf : ∀ j, j < 32 → (lf_ (gi_I h) i ch len j).toInt ≤ 60) : gi_cx (d + 1) 135 [.inr (.inr (some 79)), .inl (nI i), .inl ch, .inl len, .inl wt] h Q ↔ Q (some (.inl (lr_ (ly_ (lf_ (gi_I h) i ch len) 0 32 0 0)))) (gi_pI h 79 31 (fo_ (lf_ (gi_I h) i ch len) wt 0 32 0 0 (gi_I h 79 31))) := by
  refine gi_cx_iff ?_ Q
  rw [e135]
  simp only [x135_0, x135_1, x135_3, x135_4, x135_6, x135_7, x135_11, x135_13, x135_16, x135_18, x135_19, x135_22, x135_23, x135_26, x135_27, x135_30, x135_32, x135_33, x135_34, x135_36, x135_37, x135_38, x135_40, x135_42, x135_45, x135_47, x135_48, x135_49, x135_51, x135_52, x135_54, x135_57, x135_59, x135_60, x135_62, x135_63, x135_64, x135_66, x135_67, x135_69, x135_71, x135_74, x135_75, x135_78, x135_79, x135_82, x135_85, x135_88, x135_90, x135_91, x135_92, x135_94, x135_95, x135_97, x135_100, x135_102, x135_103, x135_105, x135_106, x135_107, x135_109, x135_110, x135_112, x135_114, x135_117, x135_118, x135_121, x135_122, x135_125, x135_128, x135_131, x135_132, x135_133, x135_136, x135_139, x135_141, inc_7i, inc_7n, inc_7r, ldI_1, ldI_2, ldI_3, ldI_4, ldI_5, ldI_6, ldI_7, ldI_8, ldR_0, stI_5i, stI_5n, stI_5r, stI_6i, stI_6n, stI_6r, stI_7i, stI_7n, stI_7r, stI_8i, stI_8n, stI_8r, I_pI, R_pI, c_pI, n_pI, u_pI, t_pI, l_pI, I_pR, R_pR, c_pR, n_pR, u_pR, t_pR, l_pR, get_s, Option.toList, List.nil_append, List.cons_append, List.length_nil, List.length_cons, gi_B, true_and, and_true, false_and, and_false, not_true_eq_false, not_false_eq_true, true_implies, false_implies, implies_true, Classical.not_not, ite_true, ite_false, Option.some.injEq, Sum.inl.injEq, exists_eq', eq_self, true_or, or_true, false_or, or_false, Nat.reduceEqDiff, Nat.reduceLeDiff, Nat.reduceAdd, Nat.zero_le, one_ne0, if_neg one_ne0', lt_102_103, lt_102_104, lt_102_105, lt_102_106, lt_99_107, lt_100_107, lt_101_107, lt_103_107, lt_104_107, lt_105_107, lt_106_107, lt_98_99, lt_98_100, lt_98_101, lt_98_106]
  have := lp_135 (d := d) (Q := fun r1 h1 => r1 = some (.inl (lr_ (ly_ (lf_ (gi_I h) i ch len) 0 32 0 0))) ∧ h1 = gi_pI h 79 31 (fo_ (lf_ (gi_I h) i ch len) wt 0 32 0 0 (gi_I h 79 31))) (wt := wt) hS hi hf 32 0 0 0 (gi_I h 79 31) none rfl (by omega) (by omega) ⟨rfl, rfl⟩
  rw [pI_self] at this
  exact this
/-- an attribute, or none, of so many bytes -/
def at_ (h : gi_H) (len : Int32) (r : Option Nat) : Prop := (r = none ∧ len = -1) ∨ ∃ b m, r = some b ∧ gi_tag h (some b) = 7 ∧ gi_R h b 0 = some (b + 1) ∧ gi_tag h (some (b + 1)) = 101 ∧ gi_len h (some (b + 1)) = m ∧ m ≤ 60 ∧ len = nI m
theorem rT_at {h : gi_H} {S : gi_Z} {j : Nat} {r : Option Nat} (H : rT h S j r) : at_ h (S 99 j) r := by
  cases r with
  | none => exact Or.inl ⟨rfl, H.1 rfl⟩
  | some b =>
    obtain ⟨d1, d2, h1, h2, h3, h4, h5, h6⟩ := H.2 b rfl
    obtain ⟨m, hm, em⟩ := nI_of (x := S 99 j) (by rw [i32_lt, ti_0]; omega)
    rw [em, nI_clamp hm] at h3
    rw [em, nI_toInt hm] at h5
    exact Or.inr ⟨b, m, rfl, by rw [tag_s, h1], h2, by rw [tag_s, h3], by rw [len_s, h3], by omega, em⟩
theorem nm1 {m : Nat} (hm : m ≤ 60) : (nI m < 0) = False := eq_false (nI_pos (by omega))
theorem lp_79 {d n a : Nat} {ch len : Int32} {r : Option Nat} {h : gi_H} {Q : gi_P} {S : gi_Z} (hN : rN h S n a) (hr : at_ h len r) : ∀ m j t s w l8 l9, j + m = 32 → t ≤ 40 → s ≤ 64 → Q (some (.inr (.inl (bs_ (lf_ S n ch len) j m t s w)))) h → gi_ex (gi_cx (d + 1)) 79 Q 11 [some (.inr (.inr (some a))), some (.inl ch), some (.inr (.inr r)), some (.inr (.inl w)), none, some (.inl (nI t)), some (.inl (nI s)), some (.inl (nI j)), l8, l9] [] h
  | 0, j, t, s, w, l8, l9, e, ht, hs, hq => by
    obtain rfl : j = 32 := by omega
    rw [x79_11]
    simp only [x79_13, x79_15, x79_112, x79_113, ldI_7, ldL_3, I_pI, R_pI, c_pI, n_pI, u_pI, t_pI, l_pI, I_pR, R_pR, c_pR, n_pR, u_pR, t_pR, l_pR, get_s, Option.toList, List.nil_append, List.cons_append, List.length_nil, List.length_cons, gi_B, true_and, and_true, false_and, and_false, not_true_eq_false, not_false_eq_true, true_implies, false_implies, implies_true, Classical.not_not, ite_true, ite_false, Option.some.injEq, Sum.inl.injEq, exists_eq', eq_self, true_or, or_true, false_or, or_false, Nat.reduceEqDiff, Nat.reduceLeDiff, Nat.reduceAdd, Nat.zero_le, one_ne0, if_neg one_ne0', lt_102_103, lt_102_104, lt_102_105, lt_102_106, lt_99_107, lt_100_107, lt_101_107, lt_103_107, lt_104_107, lt_105_107, lt_106_107, lt_98_99, lt_98_100, lt_98_101, lt_98_106, n32, lit_ge]
    exact hq
  | m + 1, j, t, s, w, l8, l9, e, ht, hs, hq => by
    obtain ⟨t0, t1, t2, t3, t4⟩ := rN_t hN
    have z1 : vp_in (nI j) 32 := vp_in_nI (by omega) (by omega)
    have z2 : (nI j).toNatClampNeg = j := nI_clamp (by omega)
    have z4 : ((32 : Int32) ≤ nI j) = False := lit_le (N := 32) (by omega) (by omega)
    have nx := fun t s w l8 l9 => lp_79 (d := d) (Q := Q) (ch := ch) hN hr m (j + 1) t s w l8 l9 (by omega)
    have key : ∀ x e, lf_ S n ch len j = x → at_ h x e → gi_ex (gi_cx (d + 1)) 79 Q 35 [some (.inr (.inr (some a))), some (.inl ch), some (.inr (.inr r)), some (.inr (.inl w)), none, some (.inl (nI t)), some (.inl (nI s)), some (.inl (nI j)), l8, l9] [.inr (.inr e)] h := by
      intro x e hx he
      unfold bs_ at hq
      simp only [hx] at hq
      rcases he with ⟨rfl, rfl⟩ | ⟨b, k, rfl, b1, b2, b3, b4, hk, rfl⟩
      · have y1 : (nI t + 0) = nI t := by rw [show (0 : Int32) = nI 0 from rfl, nI_add]; rfl
        have y2 := eq_true ht
        have y3 : ((-1 : Int32) < 0) = True := by decide
        simp only [y3, if_true] at hq
        simp only [x79_35, x79_37, x79_39, x79_42, x79_43, x79_46, x79_47, x79_49, x79_52, x79_53, x79_55, x79_57, x79_59, x79_60, x79_62, x79_65, x79_67, x79_69, x79_70, x79_72, x79_75, x79_77, x79_79, x79_80, x79_82, x79_85, x79_87, x79_89, x79_90, x79_92, x79_93, x79_94, x79_96, x79_97, x79_98, x79_99, x79_102, x79_105, x79_106, x79_109, x79_112, x79_113, stL_3r, inc_7i, inc_7n, inc_7r, ldI_5, ldI_6, ldI_7, ldI_9, ldL_3, ldR_8, stI_5i, stI_5n, stI_5r, stI_6i, stI_6n, stI_6r, stI_9i, stI_9n, stI_9r, stR_8i, stR_8n, stR_8r, I_pI, R_pI, c_pI, n_pI, u_pI, t_pI, l_pI, I_pR, R_pR, c_pR, n_pR, u_pR, t_pR, l_pR, get_s, Option.toList, List.nil_append, List.cons_append, List.length_nil, List.length_cons, gi_B, true_and, and_true, false_and, and_false, not_true_eq_false, not_false_eq_true, true_implies, false_implies, implies_true, Classical.not_not, ite_true, ite_false, Option.some.injEq, Sum.inl.injEq, exists_eq', eq_self, true_or, or_true, false_or, or_false, Nat.reduceEqDiff, Nat.reduceLeDiff, Nat.reduceAdd, Nat.zero_le, one_ne0, if_neg one_ne0', lt_102_103, lt_102_104, lt_102_105, lt_102_106, lt_99_107, lt_100_107, lt_101_107, lt_103_107, lt_104_107, lt_105_107, lt_106_107, lt_98_99, lt_98_100, lt_98_101, lt_98_106, y1, g40 (show t < 2147483648 by omega), y2, nI_i1]
        exact nx _ _ _ _ _ ht hs hq
      · have w1 := nm1 hk
        simp only [w1, if_false, nI_clamp (show k < 2 ^ 31 by omega)] at hq
        rcases em_ (t + (3 + k) ≤ 40) with w2 | w2
        · simp only [w2, if_true] at hq
          simp only [x79_35, x79_37, x79_39, x79_42, x79_43, x79_46, x79_47, x79_49, x79_52, x79_53, x79_55, x79_57, x79_59, x79_60, x79_62, x79_65, x79_67, x79_69, x79_70, x79_72, x79_75, x79_77, x79_79, x79_80, x79_82, x79_85, x79_87, x79_89, x79_90, x79_92, x79_93, x79_94, x79_96, x79_97, x79_98, x79_99, x79_102, x79_105, x79_106, x79_109, x79_112, x79_113, stL_3r, inc_7i, inc_7n, inc_7r, ldI_5, ldI_6, ldI_7, ldI_9, ldL_3, ldR_8, stI_5i, stI_5n, stI_5r, stI_6i, stI_6n, stI_6r, stI_9i, stI_9n, stI_9r, stR_8i, stR_8n, stR_8r, e80, x80_0, x80_1, x80_4, x80_5, ldR_0, I_pI, R_pI, c_pI, n_pI, u_pI, t_pI, l_pI, I_pR, R_pR, c_pR, n_pR, u_pR, t_pR, l_pR, get_s, Option.toList, List.nil_append, List.cons_append, List.length_nil, List.length_cons, gi_B, true_and, and_true, false_and, and_false, not_true_eq_false, not_false_eq_true, true_implies, false_implies, implies_true, Classical.not_not, ite_true, ite_false, Option.some.injEq, Sum.inl.injEq, exists_eq', eq_self, true_or, or_true, false_or, or_false, Nat.reduceEqDiff, Nat.reduceLeDiff, Nat.reduceAdd, Nat.zero_le, one_ne0, if_neg one_ne0', lt_102_103, lt_102_104, lt_102_105, lt_102_106, lt_99_107, lt_100_107, lt_101_107, lt_103_107, lt_104_107, lt_105_107, lt_106_107, lt_98_99, lt_98_100, lt_98_101, lt_98_106, so_ne, b1, b2, b3, b4, show Int32.ofNat k = nI k from rfl, n3, nI_add, g40 (show t + (3 + k) < 2147483648 by omega), w2, nI_i1]
          exact nx _ _ _ _ _ (of_eq_true w2) hs hq
        · simp only [w2, if_false] at hq
          rcases em_ (s + (3 + k) ≤ 64) with w4 | w4
          · simp only [w4, if_true] at hq
            simp only [x79_35, x79_37, x79_39, x79_42, x79_43, x79_46, x79_47, x79_49, x79_52, x79_53, x79_55, x79_57, x79_59, x79_60, x79_62, x79_65, x79_67, x79_69, x79_70, x79_72, x79_75, x79_77, x79_79, x79_80, x79_82, x79_85, x79_87, x79_89, x79_90, x79_92, x79_93, x79_94, x79_96, x79_97, x79_98, x79_99, x79_102, x79_105, x79_106, x79_109, x79_112, x79_113, stL_3r, inc_7i, inc_7n, inc_7r, ldI_5, ldI_6, ldI_7, ldI_9, ldL_3, ldR_8, stI_5i, stI_5n, stI_5r, stI_6i, stI_6n, stI_6r, stI_9i, stI_9n, stI_9r, stR_8i, stR_8n, stR_8r, e80, x80_0, x80_1, x80_4, x80_5, ldR_0, I_pI, R_pI, c_pI, n_pI, u_pI, t_pI, l_pI, I_pR, R_pR, c_pR, n_pR, u_pR, t_pR, l_pR, get_s, Option.toList, List.nil_append, List.cons_append, List.length_nil, List.length_cons, gi_B, true_and, and_true, false_and, and_false, not_true_eq_false, not_false_eq_true, true_implies, false_implies, implies_true, Classical.not_not, ite_true, ite_false, Option.some.injEq, Sum.inl.injEq, exists_eq', eq_self, true_or, or_true, false_or, or_false, Nat.reduceEqDiff, Nat.reduceLeDiff, Nat.reduceAdd, Nat.zero_le, one_ne0, if_neg one_ne0', lt_102_103, lt_102_104, lt_102_105, lt_102_106, lt_99_107, lt_100_107, lt_101_107, lt_103_107, lt_104_107, lt_105_107, lt_106_107, lt_98_99, lt_98_100, lt_98_101, lt_98_106, so_ne, b1, b2, b3, b4, show Int32.ofNat k = nI k from rfl, n3, nI_add, g40 (show t + (3 + k) < 2147483648 by omega), g64 (show s + (3 + k) < 2147483648 by omega), w2, w4, nI_i1]
            exact nx _ _ _ _ _ ht (of_eq_true w4) hq
          · simp only [w4, if_false] at hq
            simp only [x79_35, x79_37, x79_39, x79_42, x79_43, x79_46, x79_47, x79_49, x79_52, x79_53, x79_55, x79_57, x79_59, x79_60, x79_62, x79_65, x79_67, x79_69, x79_70, x79_72, x79_75, x79_77, x79_79, x79_80, x79_82, x79_85, x79_87, x79_89, x79_90, x79_92, x79_93, x79_94, x79_96, x79_97, x79_98, x79_99, x79_102, x79_105, x79_106, x79_109, x79_112, x79_113, stL_3r, inc_7i, inc_7n, inc_7r, ldI_5, ldI_6, ldI_7, ldI_9, ldL_3, ldR_8, stI_5i, stI_5n, stI_5r, stI_6i, stI_6n, stI_6r, stI_9i, stI_9n, stI_9r, stR_8i, stR_8n, stR_8r, e80, x80_0, x80_1, x80_4, x80_5, ldR_0, I_pI, R_pI, c_pI, n_pI, u_pI, t_pI, l_pI, I_pR, R_pR, c_pR, n_pR, u_pR, t_pR, l_pR, get_s, Option.toList, List.nil_append, List.cons_append, List.length_nil, List.length_cons, gi_B, true_and, and_true, false_and, and_false, not_true_eq_false, not_false_eq_true, true_implies, false_implies, implies_true, Classical.not_not, ite_true, ite_false, Option.some.injEq, Sum.inl.injEq, exists_eq', eq_self, true_or, or_true, false_or, or_false, Nat.reduceEqDiff, Nat.reduceLeDiff, Nat.reduceAdd, Nat.zero_le, one_ne0, if_neg one_ne0', lt_102_103, lt_102_104, lt_102_105, lt_102_106, lt_99_107, lt_100_107, lt_101_107, lt_103_107, lt_104_107, lt_105_107, lt_106_107, lt_98_99, lt_98_100, lt_98_101, lt_98_106, so_ne, b1, b2, b3, b4, show Int32.ofNat k = nI k from rfl, n3, nI_add, g40 (show t + (3 + k) < 2147483648 by omega), g64 (show s + (3 + k) < 2147483648 by omega), w2, w4]
            exact hq
    obtain ⟨d1, d2, d3, c1, c2, c3, f7, f8, k0, k1, k2, k3, k4, k5, k6, kp, kl, kf, kt⟩ := id hN
    rw [x79_11]
    rcases em_ (nI j = ch) with w1 | w1
    · have := key len r (by unfold lf_; simp only [w1, if_true]) hr
      simp only [x79_0, x79_1, x79_2, x79_3, x79_5, x79_6, x79_8, x79_9, x79_13, x79_15, x79_18, x79_20, x79_21, x79_24, x79_25, x79_28, x79_29, x79_32, x79_34, stL_3r, ldI_1, ldI_7, ldR_0, ldR_2, stI_5i, stI_5n, stI_5r, stI_6i, stI_6n, stI_6r, stI_7i, stI_7n, stI_7r, I_pI, R_pI, c_pI, n_pI, u_pI, t_pI, l_pI, I_pR, R_pR, c_pR, n_pR, u_pR, t_pR, l_pR, get_s, Option.toList, List.nil_append, List.cons_append, List.length_nil, List.length_cons, gi_B, true_and, and_true, false_and, and_false, not_true_eq_false, not_false_eq_true, true_implies, false_implies, implies_true, Classical.not_not, ite_true, ite_false, Option.some.injEq, Sum.inl.injEq, exists_eq', eq_self, true_or, or_true, false_or, or_false, Nat.reduceEqDiff, Nat.reduceLeDiff, Nat.reduceAdd, Nat.zero_le, one_ne0, if_neg one_ne0', lt_102_103, lt_102_104, lt_102_105, lt_102_106, lt_99_107, lt_100_107, lt_101_107, lt_103_107, lt_104_107, lt_105_107, lt_106_107, lt_98_99, lt_98_100, lt_98_101, lt_98_106, z4, w1]
      exact this
    · have := key (S 99 (32 * n + j)) (gi_R h (a + 2) j) (by unfold lf_; simp only [w1, if_false]) (rT_at (kt j (by omega)))
      simp only [x79_0, x79_1, x79_2, x79_3, x79_5, x79_6, x79_8, x79_9, x79_13, x79_15, x79_18, x79_20, x79_21, x79_24, x79_25, x79_28, x79_29, x79_32, x79_34, stL_3r, ldI_1, ldI_7, ldR_0, ldR_2, stI_5i, stI_5n, stI_5r, stI_6i, stI_6n, stI_6r, stI_7i, stI_7n, stI_7r, I_pI, R_pI, c_pI, n_pI, u_pI, t_pI, l_pI, I_pR, R_pR, c_pR, n_pR, u_pR, t_pR, l_pR, get_s, Option.toList, List.nil_append, List.cons_append, List.length_nil, List.length_cons, gi_B, true_and, and_true, false_and, and_false, not_true_eq_false, not_false_eq_true, true_implies, false_implies, implies_true, Classical.not_not, ite_true, ite_false, Option.some.injEq, Sum.inl.injEq, exists_eq', eq_self, true_or, or_true, false_or, or_false, Nat.reduceEqDiff, Nat.reduceLeDiff, Nat.reduceAdd, Nat.zero_le, one_ne0, if_neg one_ne0', lt_102_103, lt_102_104, lt_102_105, lt_102_106, lt_99_107, lt_100_107, lt_101_107, lt_103_107, lt_104_107, lt_105_107, lt_106_107, lt_98_99, lt_98_100, lt_98_101, lt_98_106, z4, w1, t0, t3, t4, f8, z1, z2]
      exact this
theorem c_79 {d n a : Nat} {ch len : Int32} {r : Option Nat} {h : gi_H} {Q : gi_P} {S : gi_Z} (hN : rN h S n a) (hr : at_ h len r) : gi_cx (d + 2) 79 [.inr (.inr (some a)), .inl ch, .inr (.inr r)] h Q ↔ Q (some (.inr (.inl (bs_ (lf_ S n ch len) 0 32 0 0 0)))) h := by
  refine gi_cx_iff ?_ Q
  rw [e79]
  simp only [x79_0, x79_1, x79_2, x79_3, x79_5, x79_6, x79_8, x79_9, stL_3r, stI_5i, stI_5n, stI_5r, stI_6i, stI_6n, stI_6r, stI_7i, stI_7n, stI_7r, I_pI, R_pI, c_pI, n_pI, u_pI, t_pI, l_pI, I_pR, R_pR, c_pR, n_pR, u_pR, t_pR, l_pR, get_s, Option.toList, List.nil_append, List.cons_append, List.length_nil, List.length_cons, gi_B, true_and, and_true, false_and, and_false, not_true_eq_false, not_false_eq_true, true_implies, false_implies, implies_true, Classical.not_not, ite_true, ite_false, Option.some.injEq, Sum.inl.injEq, exists_eq', eq_self, true_or, or_true, false_or, or_false, Nat.reduceEqDiff, Nat.reduceLeDiff, Nat.reduceAdd, Nat.zero_le, one_ne0, if_neg one_ne0', lt_102_103, lt_102_104, lt_102_105, lt_102_106, lt_99_107, lt_100_107, lt_101_107, lt_103_107, lt_104_107, lt_105_107, lt_106_107, lt_98_99, lt_98_100, lt_98_101, lt_98_106]
  exact lp_79 (ch := ch) hN hr 32 0 0 0 0 none none rfl (by omega) (by omega) ⟨rfl, rfl⟩
/-! bits of a long -/
def bit_ (w : Int64) (i : Nat) : Bool := w.toBitVec.getLsbD i
theorem sh1 : ∀ j, j < 32 → ((1 : Int64) <<< ((nI j).toInt64 &&& 63)).toBitVec = BitVec.twoPow 64 j := by decide +kernel
theorem bit_or {w : Int64} {i j : Nat} (hj : j < 32) (hi : i < 64) : bit_ (w ||| (1 <<< ((nI j).toInt64 &&& 63))) i = (bit_ w i || decide (i = j)) := by
  unfold bit_
  rw [Int64.toBitVec_or, sh1 j hj, BitVec.getLsbD_or, BitVec.getLsbD_twoPow]
  congr 1
  by_cases e : i = j
  · subst e; simp [hi]
  · have : ¬ j = i := fun q => e q.symm
    simp [e, this]
theorem bs_lo {f : Nat → Int32} {wt v : Int32} {i : Nat} (hi : i < 64) : ∀ m j t s w v, j + m ≤ 32 → (i < j ∨ j + m ≤ i) → (∃ p, ly_ f j m t s = some p) → bit_ (bs_ f j m t s w) i = bit_ w i ∧ (i < j → fo_ f (nI i) j m t s v = v)
  | 0, j, t, s, w, v, _, _, _ => ⟨rfl, fun _ => rfl⟩
  | m + 1, j, t, s, w, v, e, hij, hp => by
    unfold ly_ at hp
    unfold bs_ fo_
    have ne : i < j → (nI j = nI i) = False := fun q => eq_false (fun z => by have := (nI_eq (a := j) (b := i) (by omega) (by omega)).mp z; omega)
    rcases em_ (f j < 0) with w1 | w1
    · simp only [w1, if_true] at hp ⊢
      obtain ⟨q1, q2⟩ := bs_lo (f := f) (wt := wt) (v := v) hi m (j + 1) t s w v (by omega) (by omega) hp
      exact ⟨q1, fun z => q2 (by omega)⟩
    · simp only [w1, if_false] at hp ⊢
      rcases em_ (t + (3 + (f j).toNatClampNeg) ≤ 40) with w2 | w2
      · simp only [w2, if_true] at hp ⊢
        obtain ⟨q1, q2⟩ := bs_lo (f := f) (wt := wt) (v := v) hi m (j + 1) _ s w v (by omega) (by omega) hp
        exact ⟨q1, fun z => by rw [if_neg (of_eq_false (ne z))]; exact q2 (by omega)⟩
      · simp only [w2, if_false] at hp ⊢
        rcases em_ (s + (3 + (f j).toNatClampNeg) ≤ 64) with w3 | w3
        · simp only [w3, if_true] at hp ⊢
          obtain ⟨q1, q2⟩ := bs_lo (f := f) (wt := wt) (v := v) hi m (j + 1) t _ (w ||| (1 <<< ((nI j).toInt64 &&& 63))) v (by omega) (by omega) hp
          refine ⟨?_, fun z => by rw [if_neg (of_eq_false (ne z))]; exact q2 (by omega)⟩
          rw [q1, bit_or (by omega) hi, decide_eq_false (by omega), Bool.or_false]
        · simp only [w3, if_false] at hp
          obtain ⟨p, hp⟩ := hp
          cases hp
theorem bs_at {f : Nat → Int32} {i : Nat} (hi : i < 32) (hf : ¬ f i < 0) : ∀ m j t s w v, j + m = 32 → j ≤ i → bit_ w i = false → (∃ p, ly_ f j m t s = some p) → fo_ f (nI i) j m t s v = if bit_ (bs_ f j m t s w) i = true then 1 else 0
  | 0, j, t, s, w, v, e, hij, _, _ => by omega
  | m + 1, j, t, s, w, v, e, hij, hw, hp => by
    unfold ly_ at hp
    unfold bs_ fo_
    by_cases hji : j = i
    · subst hji
      simp only [hf, if_false, if_true] at hp ⊢
      rcases em_ (t + (3 + (f j).toNatClampNeg) ≤ 40) with w2 | w2
      · simp only [w2, if_true] at hp ⊢
        obtain ⟨q1, q2⟩ := bs_lo (f := f) (i := j) (wt := 0) (v := 0) (by omega) m (j + 1) _ s w 0 (by omega) (by omega) hp
        rw [q1, hw, q2 (by omega)]
        rfl
      · simp only [w2, if_false] at hp ⊢
        rcases em_ (s + (3 + (f j).toNatClampNeg) ≤ 64) with w3 | w3
        · simp only [w3, if_true] at hp ⊢
          obtain ⟨q1, q2⟩ := bs_lo (f := f) (i := j) (wt := 0) (v := 0) (by omega) m (j + 1) t _ (w ||| (1 <<< ((nI j).toInt64 &&& 63))) 1 (by omega) (by omega) hp
          rw [q1, bit_or hi (by omega), q2 (by omega), decide_eq_true rfl, Bool.or_true]
          rfl
        · simp only [w3, if_false] at hp
          obtain ⟨p, hp⟩ := hp
          cases hp
    · have ne : (nI j = nI i) = False := eq_false (fun z => hji ((nI_eq (a := j) (b := i) (by omega) (by omega)).mp z))
      simp only [ne, if_false]
      rcases em_ (f j < 0) with w1 | w1
      · simp only [w1, if_true] at hp ⊢
        exact bs_at hi hf m (j + 1) t s w v (by omega) (by omega) hw hp
      · simp only [w1, if_false] at hp ⊢
        rcases em_ (t + (3 + (f j).toNatClampNeg) ≤ 40) with w2 | w2
        · simp only [w2, if_true] at hp ⊢
          exact bs_at hi hf m (j + 1) _ s w v (by omega) (by omega) hw hp
        · simp only [w2, if_false] at hp ⊢
          rcases em_ (s + (3 + (f j).toNatClampNeg) ≤ 64) with w3 | w3
          · simp only [w3, if_true] at hp ⊢
            exact bs_at hi hf m (j + 1) t _ _ v (by omega) (by omega) (by rw [bit_or (by omega) (by omega), hw, decide_eq_false (fun q => hji q.symm)]; rfl) hp
          · simp only [w3, if_false] at hp
            obtain ⟨p, hp⟩ := hp
            cases hp
theorem bs_none {f : Nat → Int32} : ∀ m j t s w, ly_ f j m t s = none → bs_ f j m t s w = -1
  | 0, j, t, s, w, h => by cases h
  | m + 1, j, t, s, w, h => by
    unfold ly_ at h
    unfold bs_
    rcases em_ (f j < 0) with w1 | w1
    · simp only [w1, if_true] at h ⊢
      exact bs_none m _ _ _ _ h
    · simp only [w1, if_false] at h ⊢
      rcases em_ (t + (3 + (f j).toNatClampNeg) ≤ 40) with w2 | w2
      · simp only [w2, if_true] at h ⊢
        exact bs_none m _ _ _ _ h
      · simp only [w2, if_false] at h ⊢
        rcases em_ (s + (3 + (f j).toNatClampNeg) ≤ 64) with w3 | w3
        · simp only [w3, if_true] at h ⊢
          exact bs_none m _ _ _ _ h
        · simp only [w3, if_false]
theorem bs_some {f : Nat → Int32} : ∀ m j t s w t' s', j + m ≤ 32 → ly_ f j m t s = some (t', s') → s ≤ s' ∧ (s' = s → bs_ f j m t s w = w) ∧ (s < s' → ∃ i, i < 32 ∧ bit_ (bs_ f j m t s w) i = true)
  | 0, j, t, s, w, t', s', _, h => by
    cases h
    exact ⟨Nat.le_refl _, fun _ => rfl, fun q => absurd q (Nat.lt_irrefl _)⟩
  | m + 1, j, t, s, w, t', s', e, h => by
    unfold ly_ at h
    unfold bs_
    rcases em_ (f j < 0) with w1 | w1
    · simp only [w1, if_true] at h ⊢
      exact bs_some m _ _ _ _ _ _ (by omega) h
    · simp only [w1, if_false] at h ⊢
      rcases em_ (t + (3 + (f j).toNatClampNeg) ≤ 40) with w2 | w2
      · simp only [w2, if_true] at h ⊢
        exact bs_some m _ _ _ _ _ _ (by omega) h
      · simp only [w2, if_false] at h ⊢
        rcases em_ (s + (3 + (f j).toNatClampNeg) ≤ 64) with w3 | w3
        · simp only [w3, if_true] at h ⊢
          obtain ⟨q1, q2, q3⟩ := bs_some m _ _ _ (w ||| (1 <<< ((nI j).toInt64 &&& 63))) _ _ (by omega) h
          refine ⟨by omega, fun z => by omega, fun _ => ⟨j, by omega, ?_⟩⟩
          rw [(bs_lo (f := f) (i := j) (wt := 0) (v := 0) (by omega) m (j + 1) t _ _ 0 (by omega) (by omega) ⟨_, h⟩).1, bit_or (by omega) (by omega), decide_eq_true rfl, Bool.or_true]
        · simp only [w3, if_false] at h
          cases h
/-- what the class's word says of the model's answer -/
theorem bs_ly {f : Nat → Int32} : (ly_ f 0 32 0 0 = none ∧ bs_ f 0 32 0 0 0 = -1) ∨ ∃ t s, ly_ f 0 32 0 0 = some (t, s) ∧ ¬ bs_ f 0 32 0 0 0 = -1 ∧ (bs_ f 0 32 0 0 0 = 0 ↔ s = 0) := by
  cases e : ly_ f 0 32 0 0 with
  | none => exact Or.inl ⟨rfl, bs_none 32 0 0 0 0 e⟩
  | some p =>
    obtain ⟨t, s⟩ := p
    refine Or.inr ⟨t, s, rfl, fun q => ?_, ?_⟩
    · have := (bs_lo (f := f) (i := 63) (wt := 0) (v := 0) (by omega) 32 0 0 0 0 0 (by omega) (by omega) ⟨_, e⟩).1
      rw [q] at this
      exact absurd this (by decide)
    · obtain ⟨q1, q2, q3⟩ := bs_some 32 0 0 0 0 t s (by omega) e
      constructor
      · intro z
        by_cases hs : s = 0
        · exact hs
        · obtain ⟨i, hi, hb⟩ := q3 (by omega)
          rw [z] at hb
          unfold bit_ at hb
          rw [show (0 : Int64).toBitVec = 0#64 from rfl, BitVec.getLsbD_zero] at hb
          cases hb
      · exact fun z => q2 z
theorem smod_ : ∀ t, t < 32 → (((nI t).toInt64 &&& 63).toBitVec.smod 64).toNat = t := by decide +kernel
theorem bit_sh {w : Int64} {t : Nat} (ht : t < 32) : ((w >>> ((nI t).toInt64 &&& 63)) &&& 1).toInt32 = if bit_ w t = true then 1 else 0 := by
  have e : ((w >>> ((nI t).toInt64 &&& 63)) &&& 1).toBitVec = if bit_ w t = true then 1#64 else 0#64 := by
    apply BitVec.eq_of_getLsbD_eq
    intro i hi
    rw [Int64.toBitVec_and, Int64.toBitVec_shiftRight, BitVec.sshiftRight', smod_ t ht, BitVec.getLsbD_and, show (1 : Int64).toBitVec = 1#64 from rfl]
    by_cases h0 : i = 0
    · subst h0
      rw [BitVec.getLsbD_sshiftRight]
      unfold bit_
      cases w.toBitVec.getLsbD t <;> simp [show t < 64 by omega]
    · have : (1#64).getLsbD i = false := by simp [h0]
      rw [this, Bool.and_false]
      split <;> simp [h0]
  cases h : bit_ w t with
  | true =>
    rw [h] at e
    have : ((w >>> ((nI t).toInt64 &&& 63)) &&& 1) = 1 := Int64.toBitVec_inj.mp (by rw [e]; rfl)
    rw [this]
    rfl
  | false =>
    rw [h] at e
    have : ((w >>> ((nI t).toInt64 &&& 63)) &&& 1) = 0 := Int64.toBitVec_inj.mp (by rw [e]; rfl)
    rw [this]
    rfl
theorem ly_le {f : Nat → Int32} : ∀ (m j t s : Nat) {p : Nat × Nat}, ly_ f j m t s = some p → t ≤ 40 → s ≤ 64 → p.1 ≤ 40 ∧ p.2 ≤ 64
  | 0, j, t, s, p, h, h1, h2 => by cases h; exact ⟨h1, h2⟩
  | m + 1, j, t, s, p, h, h1, h2 => by
    unfold ly_ at h
    rcases em_ (f j < 0) with w1 | w1
    · simp only [w1, if_true] at h
      exact ly_le m _ _ _ h h1 h2
    · simp only [w1, if_false] at h
      rcases em_ (t + (3 + (f j).toNatClampNeg) ≤ 40) with w2 | w2
      · simp only [w2, if_true] at h
        exact ly_le m _ _ _ h (of_eq_true w2) h2
      · simp only [w2, if_false] at h
        rcases em_ (s + (3 + (f j).toNatClampNeg) ≤ 64) with w3 | w3
        · simp only [w3, if_true] at h
          exact ly_le m _ _ _ h h1 (of_eq_true w3)
        · simp only [w3, if_false] at h
          cases h
theorem bs_c {f g : Nat → Int32} : ∀ (m j t s : Nat) (w : Int64), (∀ k, j ≤ k → k < j + m → f k = g k) → bs_ f j m t s w = bs_ g j m t s w
  | 0, _, _, _, _, _ => rfl
  | m + 1, j, t, s, w, h => by
    unfold bs_
    rw [h j (Nat.le_refl _) (by omega), bs_c m (j + 1) t s w (fun k h1 h2 => h k (by omega) (by omega)), bs_c m (j + 1) t _ _ (fun k h1 h2 => h k (by omega) (by omega)), bs_c m (j + 1) (t + _) s w (fun k h1 h2 => h k (by omega) (by omega))]
theorem fo_c {f g : Nat → Int32} {wt : Int32} : ∀ (m j t s : Nat) (v : Int32), (∀ k, j ≤ k → k < j + m → f k = g k) → fo_ f wt j m t s v = fo_ g wt j m t s v
  | 0, _, _, _, _, _ => rfl
  | m + 1, j, t, s, v, h => by
    unfold fo_
    rw [h j (Nat.le_refl _) (by omega), fo_c m (j + 1) t s v (fun k h1 h2 => h k (by omega) (by omega)), fo_c m (j + 1) t _ _ (fun k h1 h2 => h k (by omega) (by omega)), fo_c m (j + 1) (t + _) s _ (fun k h1 h2 => h k (by omega) (by omega))]
theorem nI_nm1 {j : Nat} (hj : j < 2147483648) : ¬ nI j = -1 := fun e => by
  rw [i32_eq, nI_toInt hj, ti_m1] at e
  omega
theorem j_found {L : Nat} {xs : Nat → Int32} {c : Nat} {h : gi_H} (J : jH L xs c h) {v : Int32} : jH L xs (c + 1) (gi_pI h 79 31 v) := by
  refine jA_of J (fun _ _ => rfl) (fun _ => rfl) rfl rfl (fun x y hx => ?_) ?_ ?_
  · simp only [I_pI]
    unfold inA at hx
    rw [if_neg (by omega)]
  · obtain ⟨r1, r2, r3, r4, r5, r6, r7⟩ := J.2.2.2.2.1
    exact ⟨by simpa [I_pI] using r1, fun u hu => by simpa [I_pI] using r2 u hu, fun u hu => by simpa [I_pI] using r3 u hu, fun u hu => by simpa [I_pI] using r4 u hu, fun u hu => by simpa [I_pI] using r5 u hu, by simpa [I_pI] using r6, fun u hu => by simpa [I_pI] using r7 u hu⟩
  · obtain ⟨s1, s2, s3, s4, s5⟩ := J.2.2.2.2.2.2.2.2.2.1
    exact ⟨by simpa [I_pI] using s1, fun u hu => by simpa [I_pI] using s2 u hu, fun u hu => by simpa [I_pI] using s3 u hu, by simpa [I_pI] using s4, fun u hu => by simpa [I_pI] using s5 u hu⟩
/-- side -/
theorem pr_side {L : Nat} {xs : Nat → Int32} {c d : Nat} {h : gi_H} (J : jH L xs c h) (x w : Int32) : gi_Pr L xs (d + 5) 85 139 [.inl x, .inl w] c h := by
  have hS := J.1
  obtain ⟨r1, r2, r3, r4, r5, r6, r7⟩ := id J.2.2.2.2.1
  have hB := J.2.2.2.2.2.2.2.2.1
  have hI := J.2.2.2.2.2.2.1
  unfold gi_Pr
  rcases ino_cases J x with hx | ⟨n, hn, rfl, ⟨hr, hz⟩ | ⟨a, hr, hz, hN⟩⟩
  · simp only [e85, x85_0, x85_1, x85_2, x85_5, x85_6, x85_7, x85_10, x85_11, x85_14, x85_17, x85_19, x85_20, x85_21, x85_24, x85_25, x85_26, x85_28, x85_30, x85_33, x85_35, x85_36, x85_37, x85_38, x85_40, x85_43, x85_44, x85_45, x85_46, x85_47, x85_48, ldI_1, ldI_2, ldR_0, ldR_3, ldR_4, stR_3i, stR_3n, stR_3r, stR_4i, stR_4n, stR_4r, e139, x139_0, x139_1, x139_2, x139_5, x139_8, x139_9, x139_10, x139_12, x139_15, x139_18, x139_20, x139_21, x139_22, x139_25, x139_27, x139_28, x139_29, x139_30, x139_31, x139_32, x139_35, x139_37, x139_38, x139_39, x139_40, x139_41, x139_42, x139_43, x139_46, x139_47, x139_48, x139_51, x139_52, x139_55, x139_56, x139_59, ldI_1, ldI_2, ldI_3, ldR_0, stI_3i, stI_3n, stI_3r, I_pI, R_pI, c_pI, n_pI, u_pI, t_pI, l_pI, I_pR, R_pR, c_pR, n_pR, u_pR, t_pR, l_pR, get_s, Option.toList, List.nil_append, List.cons_append, List.length_nil, List.length_cons, gi_B, tg_1 hS, tg_2 hS, tg_3 hS, tg_4 hS, tg_5 hS, tg_6 hS, tg_7 hS, tg_8 hS, tg_9 hS, tg_10 hS, tg_75 hS, tg_79 hS, tg_80 hS, tg_81 hS, tg_82 hS, tg_83 hS, tg_84 hS, tg_85 hS, tg_86 hS, tg_87 hS, tg_88 hS, tg_89 hS, tg_90 hS, tg_91 hS, tg_92 hS, tg_93 hS, tg_94 hS, tg_95 hS, tg_96 hS, tg_97 hS, tg_98 hS, tg_99 hS, tg_100 hS, tg_101 hS, tg_102 hS, tg_103 hS, tg_104 hS, tg_105 hS, tg_106 hS, tg_107 hS, tg_108 hS, ln_2 hS, ln_3 hS, ln_4 hS, ln_5 hS, ln_7 hS, ln_9 hS, ln_10 hS, ln_75 hS, ln_80 hS, ln_81 hS, ln_82 hS, ln_83 hS, ln_84 hS, ln_85 hS, ln_86 hS, ln_87 hS, ln_88 hS, ln_89 hS, ln_90 hS, ln_91 hS, ln_92 hS, ln_93 hS, ln_94 hS, ln_95 hS, ln_96 hS, ln_97 hS, ln_98 hS, ln_99 hS, ln_100 hS, ln_101 hS, ln_102 hS, ln_103 hS, ln_104 hS, ln_105 hS, ln_106 hS, ln_107 hS, ln_108 hS, rf_1_0 hS, rf_1_1 hS, rf_1_2 hS, rf_1_3 hS, rf_1_4 hS, rf_1_5 hS, rf_1_6 hS, rf_6_0 hS, rf_8_1 hS, rf_8_2 hS, rf_79_1 hS, rf_79_2 hS, rf_79_3 hS, rf_79_4 hS, rf_79_5 hS, rf_79_6 hS, rf_79_7 hS, rf_79_8 hS, rf_79_9 hS, rf_79_10 hS, rf_79_11 hS, rf_79_12 hS, rf_79_13 hS, rf_79_14 hS, rf_79_15 hS, rf_79_16 hS, rf_79_17 hS, rf_79_18 hS, rf_79_19 hS, rf_79_20 hS, rf_79_21 hS, rf_79_22 hS, rf_79_24 hS, rf_79_25 hS, rf_79_26 hS, rf_79_27 hS, rf_79_28 hS, rf_79_29 hS, rf_79_30 hS, true_and, and_true, false_and, and_false, not_true_eq_false, not_false_eq_true, true_implies, false_implies, implies_true, Classical.not_not, ite_true, ite_false, Option.some.injEq, Sum.inl.injEq, exists_eq', eq_self, true_or, or_true, false_or, or_false, Nat.reduceEqDiff, Nat.reduceLeDiff, Nat.reduceAdd, Nat.zero_le, one_ne0, if_neg one_ne0', lt_102_103, lt_102_104, lt_102_105, lt_102_106, lt_99_107, lt_100_107, lt_101_107, lt_103_107, lt_104_107, lt_105_107, lt_106_107, lt_98_99, lt_98_100, lt_98_101, lt_98_106, c_14n hx, c_104n hx]
    exact jH_up J
  · simp only [e85, x85_0, x85_1, x85_2, x85_5, x85_6, x85_7, x85_10, x85_11, x85_14, x85_17, x85_19, x85_20, x85_21, x85_24, x85_25, x85_26, x85_28, x85_30, x85_33, x85_35, x85_36, x85_37, x85_38, x85_40, x85_43, x85_44, x85_45, x85_46, x85_47, x85_48, ldI_1, ldI_2, ldR_0, ldR_3, ldR_4, stR_3i, stR_3n, stR_3r, stR_4i, stR_4n, stR_4r, e139, x139_0, x139_1, x139_2, x139_5, x139_8, x139_9, x139_10, x139_12, x139_15, x139_18, x139_20, x139_21, x139_22, x139_25, x139_27, x139_28, x139_29, x139_30, x139_31, x139_32, x139_35, x139_37, x139_38, x139_39, x139_40, x139_41, x139_42, x139_43, x139_46, x139_47, x139_48, x139_51, x139_52, x139_55, x139_56, x139_59, ldI_1, ldI_2, ldI_3, ldR_0, stI_3i, stI_3n, stI_3r, I_pI, R_pI, c_pI, n_pI, u_pI, t_pI, l_pI, I_pR, R_pR, c_pR, n_pR, u_pR, t_pR, l_pR, get_s, Option.toList, List.nil_append, List.cons_append, List.length_nil, List.length_cons, gi_B, tg_1 hS, tg_2 hS, tg_3 hS, tg_4 hS, tg_5 hS, tg_6 hS, tg_7 hS, tg_8 hS, tg_9 hS, tg_10 hS, tg_75 hS, tg_79 hS, tg_80 hS, tg_81 hS, tg_82 hS, tg_83 hS, tg_84 hS, tg_85 hS, tg_86 hS, tg_87 hS, tg_88 hS, tg_89 hS, tg_90 hS, tg_91 hS, tg_92 hS, tg_93 hS, tg_94 hS, tg_95 hS, tg_96 hS, tg_97 hS, tg_98 hS, tg_99 hS, tg_100 hS, tg_101 hS, tg_102 hS, tg_103 hS, tg_104 hS, tg_105 hS, tg_106 hS, tg_107 hS, tg_108 hS, ln_2 hS, ln_3 hS, ln_4 hS, ln_5 hS, ln_7 hS, ln_9 hS, ln_10 hS, ln_75 hS, ln_80 hS, ln_81 hS, ln_82 hS, ln_83 hS, ln_84 hS, ln_85 hS, ln_86 hS, ln_87 hS, ln_88 hS, ln_89 hS, ln_90 hS, ln_91 hS, ln_92 hS, ln_93 hS, ln_94 hS, ln_95 hS, ln_96 hS, ln_97 hS, ln_98 hS, ln_99 hS, ln_100 hS, ln_101 hS, ln_102 hS, ln_103 hS, ln_104 hS, ln_105 hS, ln_106 hS, ln_107 hS, ln_108 hS, rf_1_0 hS, rf_1_1 hS, rf_1_2 hS, rf_1_3 hS, rf_1_4 hS, rf_1_5 hS, rf_1_6 hS, rf_6_0 hS, rf_8_1 hS, rf_8_2 hS, rf_79_1 hS, rf_79_2 hS, rf_79_3 hS, rf_79_4 hS, rf_79_5 hS, rf_79_6 hS, rf_79_7 hS, rf_79_8 hS, rf_79_9 hS, rf_79_10 hS, rf_79_11 hS, rf_79_12 hS, rf_79_13 hS, rf_79_14 hS, rf_79_15 hS, rf_79_16 hS, rf_79_17 hS, rf_79_18 hS, rf_79_19 hS, rf_79_20 hS, rf_79_21 hS, rf_79_22 hS, rf_79_24 hS, rf_79_25 hS, rf_79_26 hS, rf_79_27 hS, rf_79_28 hS, rf_79_29 hS, rf_79_30 hS, true_and, and_true, false_and, and_false, not_true_eq_false, not_false_eq_true, true_implies, false_implies, implies_true, Classical.not_not, ite_true, ite_false, Option.some.injEq, Sum.inl.injEq, exists_eq', eq_self, true_or, or_true, false_or, or_false, Nat.reduceEqDiff, Nat.reduceLeDiff, Nat.reduceAdd, Nat.zero_le, one_ne0, if_neg one_ne0', lt_102_103, lt_102_104, lt_102_105, lt_102_106, lt_99_107, lt_100_107, lt_101_107, lt_103_107, lt_104_107, lt_105_107, lt_106_107, lt_98_99, lt_98_100, lt_98_101, lt_98_106, c_14 hS hn, hr, c_104 hS hn, hz, Int32.le_refl]
    exact jH_up J
  by_cases hw : vp_in w 32
  · obtain ⟨t, ht, rfl⟩ := vp_in_of hw (by omega)
    have sT := J.2.2.2.2.2.2.2.2.2.2.2.1.2.2.1
    obtain ⟨t0, t1, t2, t3, t4⟩ := rN_t hN
    obtain ⟨d1, d2, d3, c1, c2, c3, f7, f8, k0, k1, k2, k3, k4, k5, k6, kp, kl, kf, kt⟩ := id hN
    have z0 : vp_in (nI (32 * n + t)) 2048 := vp_in_nI (by omega) (by omega)
    have z1 : (nI (32 * n + t)).toNatClampNeg = 32 * n + t := nI_clamp (by omega)
    have z2 : (nI t).toNatClampNeg = t := nI_clamp (by omega)
    have q := kt t ht
    cases e : gi_R h (a + 2) t with
    | none =>
      rw [e] at q
      have q1 := q.1 rfl
      have q2 : ((0 : Int32) ≤ -1) = False := by decide
      simp only [e85, x85_0, x85_1, x85_2, x85_5, x85_6, x85_7, x85_10, x85_11, x85_14, x85_17, x85_19, x85_20, x85_21, x85_24, x85_25, x85_26, x85_28, x85_30, x85_33, x85_35, x85_36, x85_37, x85_38, x85_40, x85_43, x85_44, x85_45, x85_46, x85_47, x85_48, ldI_1, ldI_2, ldR_0, ldR_3, ldR_4, stR_3i, stR_3n, stR_3r, stR_4i, stR_4n, stR_4r, e139, x139_0, x139_1, x139_2, x139_5, x139_8, x139_9, x139_10, x139_12, x139_15, x139_18, x139_20, x139_21, x139_22, x139_25, x139_27, x139_28, x139_29, x139_30, x139_31, x139_32, x139_35, x139_37, x139_38, x139_39, x139_40, x139_41, x139_42, x139_43, x139_46, x139_47, x139_48, x139_51, x139_52, x139_55, x139_56, x139_59, ldI_1, ldI_2, ldI_3, ldR_0, stI_3i, stI_3n, stI_3r, I_pI, R_pI, c_pI, n_pI, u_pI, t_pI, l_pI, I_pR, R_pR, c_pR, n_pR, u_pR, t_pR, l_pR, get_s, Option.toList, List.nil_append, List.cons_append, List.length_nil, List.length_cons, gi_B, tg_1 hS, tg_2 hS, tg_3 hS, tg_4 hS, tg_5 hS, tg_6 hS, tg_7 hS, tg_8 hS, tg_9 hS, tg_10 hS, tg_75 hS, tg_79 hS, tg_80 hS, tg_81 hS, tg_82 hS, tg_83 hS, tg_84 hS, tg_85 hS, tg_86 hS, tg_87 hS, tg_88 hS, tg_89 hS, tg_90 hS, tg_91 hS, tg_92 hS, tg_93 hS, tg_94 hS, tg_95 hS, tg_96 hS, tg_97 hS, tg_98 hS, tg_99 hS, tg_100 hS, tg_101 hS, tg_102 hS, tg_103 hS, tg_104 hS, tg_105 hS, tg_106 hS, tg_107 hS, tg_108 hS, ln_2 hS, ln_3 hS, ln_4 hS, ln_5 hS, ln_7 hS, ln_9 hS, ln_10 hS, ln_75 hS, ln_80 hS, ln_81 hS, ln_82 hS, ln_83 hS, ln_84 hS, ln_85 hS, ln_86 hS, ln_87 hS, ln_88 hS, ln_89 hS, ln_90 hS, ln_91 hS, ln_92 hS, ln_93 hS, ln_94 hS, ln_95 hS, ln_96 hS, ln_97 hS, ln_98 hS, ln_99 hS, ln_100 hS, ln_101 hS, ln_102 hS, ln_103 hS, ln_104 hS, ln_105 hS, ln_106 hS, ln_107 hS, ln_108 hS, rf_1_0 hS, rf_1_1 hS, rf_1_2 hS, rf_1_3 hS, rf_1_4 hS, rf_1_5 hS, rf_1_6 hS, rf_6_0 hS, rf_8_1 hS, rf_8_2 hS, rf_79_1 hS, rf_79_2 hS, rf_79_3 hS, rf_79_4 hS, rf_79_5 hS, rf_79_6 hS, rf_79_7 hS, rf_79_8 hS, rf_79_9 hS, rf_79_10 hS, rf_79_11 hS, rf_79_12 hS, rf_79_13 hS, rf_79_14 hS, rf_79_15 hS, rf_79_16 hS, rf_79_17 hS, rf_79_18 hS, rf_79_19 hS, rf_79_20 hS, rf_79_21 hS, rf_79_22 hS, rf_79_24 hS, rf_79_25 hS, rf_79_26 hS, rf_79_27 hS, rf_79_28 hS, rf_79_29 hS, rf_79_30 hS, true_and, and_true, false_and, and_false, not_true_eq_false, not_false_eq_true, true_implies, false_implies, implies_true, Classical.not_not, ite_true, ite_false, Option.some.injEq, Sum.inl.injEq, exists_eq', eq_self, true_or, or_true, false_or, or_false, Nat.reduceEqDiff, Nat.reduceLeDiff, Nat.reduceAdd, Nat.zero_le, one_ne0, if_neg one_ne0', lt_102_103, lt_102_104, lt_102_105, lt_102_106, lt_99_107, lt_100_107, lt_101_107, lt_103_107, lt_104_107, lt_105_107, lt_106_107, lt_98_99, lt_98_100, lt_98_101, lt_98_106, c_75, c_98, n031, c_14 hS hn, hr, c_104 hS hn, hz, so_ne, hw, t0, t3, t4, f8, e, ixT, z0, z1, z2, q1, q2]
      exact jH_up J
    | some b =>
      rw [e] at q
      obtain ⟨b1, b2, b3, b4, b5, b6, b7, b8⟩ := q.2 b rfl
      have q2 : ((0 : Int32) ≤ gi_I h 99 (32 * n + t)) = True := eq_true (by rw [i32_le, ti_0]; exact b6)
      obtain ⟨⟨t', s', ey, -⟩, -⟩ := sT.2 n hn
      have f1 : ∀ j, j < 32 → lf_ (gi_I h) n (nI t) (gi_I h 99 (32 * n + t)) j = gi_I h 99 (32 * n + j) := fun j hj => by
        unfold lf_
        split
        · rename_i z
          rw [(nI_eq (a := j) (b := t) (by omega) (by omega)).mp z]
        · rfl
      have f2 : ∀ j, j < 32 → lf_ (gi_I h) n (-1) (-1) j = gi_I h 99 (32 * n + j) := fun j hj => if_neg (nI_nm1 (by omega))
      have g1 := fun {d : Nat} {Q : gi_P} => c_79 (d := d) (Q := Q) (ch := nI t) hN (rT_at q)
      have g2 := fun {d : Nat} {Q : gi_P} => c_135 (d := d) (Q := Q) (ch := -1) (len := -1) (wt := nI t) hS hn (fun j hj => by rw [f2 j hj]; exact (sT.1 _ (by omega)).2)
      rw [bs_c 32 0 0 0 0 (fun k _ hk => f1 k (by omega))] at g1
      rw [ly_c 32 0 0 0 (fun k _ hk => f2 k (by omega)), fo_c 32 0 0 0 _ (fun k _ hk => f2 k (by omega)), ey] at g2
      have g3 := bs_at (f := fun j => gi_I h 99 (32 * n + j)) ht (by rw [Int32.not_lt]; exact of_eq_true q2) 32 0 0 0 0 (gi_I h 79 31) rfl (by omega) (by unfold bit_; rw [show (0 : Int64).toBitVec = 0#64 from rfl, BitVec.getLsbD_zero]) ⟨_, ey⟩
      rw [g3] at g2
      have g4 : (0 ≤ lr_ (some (t', s'))) = True := nI_nge (k := s') (by
        have := ly_le 32 0 0 0 ey (by omega) (by omega)
        omega)
      simp only [e85, x85_0, x85_1, x85_2, x85_5, x85_6, x85_7, x85_10, x85_11, x85_14, x85_17, x85_19, x85_20, x85_21, x85_24, x85_25, x85_26, x85_28, x85_30, x85_33, x85_35, x85_36, x85_37, x85_38, x85_40, x85_43, x85_44, x85_45, x85_46, x85_47, x85_48, ldI_1, ldI_2, ldR_0, ldR_3, ldR_4, stR_3i, stR_3n, stR_3r, stR_4i, stR_4n, stR_4r, e139, x139_0, x139_1, x139_2, x139_5, x139_8, x139_9, x139_10, x139_12, x139_15, x139_18, x139_20, x139_21, x139_22, x139_25, x139_27, x139_28, x139_29, x139_30, x139_31, x139_32, x139_35, x139_37, x139_38, x139_39, x139_40, x139_41, x139_42, x139_43, x139_46, x139_47, x139_48, x139_51, x139_52, x139_55, x139_56, x139_59, ldI_1, ldI_2, ldI_3, ldR_0, stI_3i, stI_3n, stI_3r, I_pI, R_pI, c_pI, n_pI, u_pI, t_pI, l_pI, I_pR, R_pR, c_pR, n_pR, u_pR, t_pR, l_pR, get_s, Option.toList, List.nil_append, List.cons_append, List.length_nil, List.length_cons, gi_B, tg_1 hS, tg_2 hS, tg_3 hS, tg_4 hS, tg_5 hS, tg_6 hS, tg_7 hS, tg_8 hS, tg_9 hS, tg_10 hS, tg_75 hS, tg_79 hS, tg_80 hS, tg_81 hS, tg_82 hS, tg_83 hS, tg_84 hS, tg_85 hS, tg_86 hS, tg_87 hS, tg_88 hS, tg_89 hS, tg_90 hS, tg_91 hS, tg_92 hS, tg_93 hS, tg_94 hS, tg_95 hS, tg_96 hS, tg_97 hS, tg_98 hS, tg_99 hS, tg_100 hS, tg_101 hS, tg_102 hS, tg_103 hS, tg_104 hS, tg_105 hS, tg_106 hS, tg_107 hS, tg_108 hS, ln_2 hS, ln_3 hS, ln_4 hS, ln_5 hS, ln_7 hS, ln_9 hS, ln_10 hS, ln_75 hS, ln_80 hS, ln_81 hS, ln_82 hS, ln_83 hS, ln_84 hS, ln_85 hS, ln_86 hS, ln_87 hS, ln_88 hS, ln_89 hS, ln_90 hS, ln_91 hS, ln_92 hS, ln_93 hS, ln_94 hS, ln_95 hS, ln_96 hS, ln_97 hS, ln_98 hS, ln_99 hS, ln_100 hS, ln_101 hS, ln_102 hS, ln_103 hS, ln_104 hS, ln_105 hS, ln_106 hS, ln_107 hS, ln_108 hS, rf_1_0 hS, rf_1_1 hS, rf_1_2 hS, rf_1_3 hS, rf_1_4 hS, rf_1_5 hS, rf_1_6 hS, rf_6_0 hS, rf_8_1 hS, rf_8_2 hS, rf_79_1 hS, rf_79_2 hS, rf_79_3 hS, rf_79_4 hS, rf_79_5 hS, rf_79_6 hS, rf_79_7 hS, rf_79_8 hS, rf_79_9 hS, rf_79_10 hS, rf_79_11 hS, rf_79_12 hS, rf_79_13 hS, rf_79_14 hS, rf_79_15 hS, rf_79_16 hS, rf_79_17 hS, rf_79_18 hS, rf_79_19 hS, rf_79_20 hS, rf_79_21 hS, rf_79_22 hS, rf_79_24 hS, rf_79_25 hS, rf_79_26 hS, rf_79_27 hS, rf_79_28 hS, rf_79_29 hS, rf_79_30 hS, true_and, and_true, false_and, and_false, not_true_eq_false, not_false_eq_true, true_implies, false_implies, implies_true, Classical.not_not, ite_true, ite_false, Option.some.injEq, Sum.inl.injEq, exists_eq', eq_self, true_or, or_true, false_or, or_false, Nat.reduceEqDiff, Nat.reduceLeDiff, Nat.reduceAdd, Nat.zero_le, one_ne0, if_neg one_ne0', lt_102_103, lt_102_104, lt_102_105, lt_102_106, lt_99_107, lt_100_107, lt_101_107, lt_103_107, lt_104_107, lt_105_107, lt_106_107, lt_98_99, lt_98_100, lt_98_101, lt_98_106, c_75, c_98, n031, c_14 hS hn, hr, c_104 hS hn, hz, so_ne, hw, t0, t3, t4, f8, e, ixT, z0, z1, z2, q2, g1, g2, g4, bit_sh ht]
      exact j_found J
  · simp only [e85, x85_0, x85_1, x85_2, x85_5, x85_6, x85_7, x85_10, x85_11, x85_14, x85_17, x85_19, x85_20, x85_21, x85_24, x85_25, x85_26, x85_28, x85_30, x85_33, x85_35, x85_36, x85_37, x85_38, x85_40, x85_43, x85_44, x85_45, x85_46, x85_47, x85_48, ldI_1, ldI_2, ldR_0, ldR_3, ldR_4, stR_3i, stR_3n, stR_3r, stR_4i, stR_4n, stR_4r, e139, x139_0, x139_1, x139_2, x139_5, x139_8, x139_9, x139_10, x139_12, x139_15, x139_18, x139_20, x139_21, x139_22, x139_25, x139_27, x139_28, x139_29, x139_30, x139_31, x139_32, x139_35, x139_37, x139_38, x139_39, x139_40, x139_41, x139_42, x139_43, x139_46, x139_47, x139_48, x139_51, x139_52, x139_55, x139_56, x139_59, ldI_1, ldI_2, ldI_3, ldR_0, stI_3i, stI_3n, stI_3r, I_pI, R_pI, c_pI, n_pI, u_pI, t_pI, l_pI, I_pR, R_pR, c_pR, n_pR, u_pR, t_pR, l_pR, get_s, Option.toList, List.nil_append, List.cons_append, List.length_nil, List.length_cons, gi_B, tg_1 hS, tg_2 hS, tg_3 hS, tg_4 hS, tg_5 hS, tg_6 hS, tg_7 hS, tg_8 hS, tg_9 hS, tg_10 hS, tg_75 hS, tg_79 hS, tg_80 hS, tg_81 hS, tg_82 hS, tg_83 hS, tg_84 hS, tg_85 hS, tg_86 hS, tg_87 hS, tg_88 hS, tg_89 hS, tg_90 hS, tg_91 hS, tg_92 hS, tg_93 hS, tg_94 hS, tg_95 hS, tg_96 hS, tg_97 hS, tg_98 hS, tg_99 hS, tg_100 hS, tg_101 hS, tg_102 hS, tg_103 hS, tg_104 hS, tg_105 hS, tg_106 hS, tg_107 hS, tg_108 hS, ln_2 hS, ln_3 hS, ln_4 hS, ln_5 hS, ln_7 hS, ln_9 hS, ln_10 hS, ln_75 hS, ln_80 hS, ln_81 hS, ln_82 hS, ln_83 hS, ln_84 hS, ln_85 hS, ln_86 hS, ln_87 hS, ln_88 hS, ln_89 hS, ln_90 hS, ln_91 hS, ln_92 hS, ln_93 hS, ln_94 hS, ln_95 hS, ln_96 hS, ln_97 hS, ln_98 hS, ln_99 hS, ln_100 hS, ln_101 hS, ln_102 hS, ln_103 hS, ln_104 hS, ln_105 hS, ln_106 hS, ln_107 hS, ln_108 hS, rf_1_0 hS, rf_1_1 hS, rf_1_2 hS, rf_1_3 hS, rf_1_4 hS, rf_1_5 hS, rf_1_6 hS, rf_6_0 hS, rf_8_1 hS, rf_8_2 hS, rf_79_1 hS, rf_79_2 hS, rf_79_3 hS, rf_79_4 hS, rf_79_5 hS, rf_79_6 hS, rf_79_7 hS, rf_79_8 hS, rf_79_9 hS, rf_79_10 hS, rf_79_11 hS, rf_79_12 hS, rf_79_13 hS, rf_79_14 hS, rf_79_15 hS, rf_79_16 hS, rf_79_17 hS, rf_79_18 hS, rf_79_19 hS, rf_79_20 hS, rf_79_21 hS, rf_79_22 hS, rf_79_24 hS, rf_79_25 hS, rf_79_26 hS, rf_79_27 hS, rf_79_28 hS, rf_79_29 hS, rf_79_30 hS, true_and, and_true, false_and, and_false, not_true_eq_false, not_false_eq_true, true_implies, false_implies, implies_true, Classical.not_not, ite_true, ite_false, Option.some.injEq, Sum.inl.injEq, exists_eq', eq_self, true_or, or_true, false_or, or_false, Nat.reduceEqDiff, Nat.reduceLeDiff, Nat.reduceAdd, Nat.zero_le, one_ne0, if_neg one_ne0', lt_102_103, lt_102_104, lt_102_105, lt_102_106, lt_99_107, lt_100_107, lt_101_107, lt_103_107, lt_104_107, lt_105_107, lt_106_107, lt_98_99, lt_98_100, lt_98_101, lt_98_106, c_75, c_98, n031, c_14 hS hn, hr, c_104 hS hn, hz, so_ne, hw]
    exact jH_up J


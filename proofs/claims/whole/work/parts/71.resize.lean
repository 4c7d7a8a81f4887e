/-! resize: the class cuts -/
set_option maxRecDepth 100000

theorem i2b2 {v : Int32} : v.toInt8.toInt32.toInt8.toInt32 = v.toInt8.toInt32 := by rw [Int8.toInt8_toInt32]
theorem c_54 {d b B k : Nat} {v : Int32} {h : gi_H} {Q : gi_P} (hS : gi_S h) (hb : b < 256) (hk : k < 64) (e : gi_R h 7 b = some B) (tB : gi_tag h (some B) = 8) (r0 : gi_R h B 0 = some (B + 1)) (t1 : gi_tag h (some (B + 1)) = 101) (l1 : gi_len h (some (B + 1)) = 64) : gi_cx (d + 2) 54 [.inr (.inr (some 6)), .inl (nI b), .inl (nI k), .inl v] h Q ↔ Q none (gi_pI h (B + 1) k (v.toInt8.toInt32)) := by
  refine gi_cx_iff ?_ Q
  have z1 : vp_in (nI k) 64 := vp_in_nI hk (by omega)
  have z2 : (nI k).toNatClampNeg = k := nI_clamp (by omega)
  simp only [e54, x54_0, x54_1, x54_2, x54_5, x54_7, x54_9, x54_12, x54_14, x54_17, x54_18, x54_19, x54_20, x54_21, ldI_1, ldI_2, ldI_3, ldR_0, ldR_4, stR_4i, stR_4n, stR_4r, I_pI, R_pI, c_pI, n_pI, u_pI, t_pI, l_pI, I_pR, R_pR, c_pR, n_pR, u_pR, t_pR, l_pR, get_s, Option.toList, List.nil_append, List.cons_append, List.length_nil, List.length_cons, gi_B, tg_1 hS, tg_2 hS, tg_3 hS, tg_4 hS, tg_5 hS, tg_6 hS, tg_7 hS, tg_8 hS, tg_9 hS, tg_10 hS, tg_75 hS, tg_79 hS, tg_80 hS, tg_81 hS, tg_82 hS, tg_83 hS, tg_84 hS, tg_85 hS, tg_86 hS, tg_87 hS, tg_88 hS, tg_89 hS, tg_90 hS, tg_91 hS, tg_92 hS, tg_93 hS, tg_94 hS, tg_95 hS, tg_96 hS, tg_97 hS, tg_98 hS, tg_99 hS, tg_100 hS, tg_101 hS, tg_102 hS, tg_103 hS, tg_104 hS, tg_105 hS, tg_106 hS, tg_107 hS, tg_108 hS, ln_2 hS, ln_3 hS, ln_4 hS, ln_5 hS, ln_7 hS, ln_9 hS, ln_10 hS, ln_75 hS, ln_80 hS, ln_81 hS, ln_82 hS, ln_83 hS, ln_84 hS, ln_85 hS, ln_86 hS, ln_87 hS, ln_88 hS, ln_89 hS, ln_90 hS, ln_91 hS, ln_92 hS, ln_93 hS, ln_94 hS, ln_95 hS, ln_96 hS, ln_97 hS, ln_98 hS, ln_99 hS, ln_100 hS, ln_101 hS, ln_102 hS, ln_103 hS, ln_104 hS, ln_105 hS, ln_106 hS, ln_107 hS, ln_108 hS, rf_1_0 hS, rf_1_1 hS, rf_1_2 hS, rf_1_3 hS, rf_1_4 hS, rf_1_5 hS, rf_1_6 hS, rf_6_0 hS, rf_8_1 hS, rf_8_2 hS, rf_79_1 hS, rf_79_2 hS, rf_79_3 hS, rf_79_4 hS, rf_79_5 hS, rf_79_6 hS, rf_79_7 hS, rf_79_8 hS, rf_79_9 hS, rf_79_10 hS, rf_79_11 hS, rf_79_12 hS, rf_79_13 hS, rf_79_14 hS, rf_79_15 hS, rf_79_16 hS, rf_79_17 hS, rf_79_18 hS, rf_79_19 hS, rf_79_20 hS, rf_79_21 hS, rf_79_22 hS, rf_79_24 hS, rf_79_25 hS, rf_79_26 hS, rf_79_27 hS, rf_79_28 hS, rf_79_29 hS, rf_79_30 hS, true_and, and_true, false_and, and_false, not_true_eq_false, not_false_eq_true, true_implies, false_implies, implies_true, Classical.not_not, ite_true, ite_false, Option.some.injEq, Sum.inl.injEq, exists_eq', eq_self, true_or, or_true, false_or, or_false, Nat.reduceEqDiff, Nat.reduceLeDiff, Nat.reduceAdd, Nat.zero_le, one_ne0, if_neg one_ne0', lt_102_103, lt_102_104, lt_102_105, lt_102_106, lt_99_107, lt_100_107, lt_101_107, lt_103_107, lt_104_107, lt_105_107, lt_106_107, lt_98_99, lt_98_100, lt_98_101, lt_98_106, c_55 hS hb, e, so_ne, tB, r0, t1, l1, z1, z2, i2b2, Nat.reduceEqDiff]
theorem c_54n {d : Nat} {k v : Int32} {h : gi_H} {Q : gi_P} (hS : gi_S h) : gi_cx (d + 2) 54 [.inr (.inr (some 6)), .inl (-1), .inl k, .inl v] h Q ↔ Q none h := by
  refine gi_cx_iff ?_ Q
  simp only [e54, x54_0, x54_1, x54_2, x54_5, x54_7, x54_9, x54_12, x54_14, x54_17, x54_18, x54_19, x54_20, x54_21, ldI_1, ldI_2, ldI_3, ldR_0, ldR_4, stR_4i, stR_4n, stR_4r, I_pI, R_pI, c_pI, n_pI, u_pI, t_pI, l_pI, I_pR, R_pR, c_pR, n_pR, u_pR, t_pR, l_pR, get_s, Option.toList, List.nil_append, List.cons_append, List.length_nil, List.length_cons, gi_B, tg_1 hS, tg_2 hS, tg_3 hS, tg_4 hS, tg_5 hS, tg_6 hS, tg_7 hS, tg_8 hS, tg_9 hS, tg_10 hS, tg_75 hS, tg_79 hS, tg_80 hS, tg_81 hS, tg_82 hS, tg_83 hS, tg_84 hS, tg_85 hS, tg_86 hS, tg_87 hS, tg_88 hS, tg_89 hS, tg_90 hS, tg_91 hS, tg_92 hS, tg_93 hS, tg_94 hS, tg_95 hS, tg_96 hS, tg_97 hS, tg_98 hS, tg_99 hS, tg_100 hS, tg_101 hS, tg_102 hS, tg_103 hS, tg_104 hS, tg_105 hS, tg_106 hS, tg_107 hS, tg_108 hS, ln_2 hS, ln_3 hS, ln_4 hS, ln_5 hS, ln_7 hS, ln_9 hS, ln_10 hS, ln_75 hS, ln_80 hS, ln_81 hS, ln_82 hS, ln_83 hS, ln_84 hS, ln_85 hS, ln_86 hS, ln_87 hS, ln_88 hS, ln_89 hS, ln_90 hS, ln_91 hS, ln_92 hS, ln_93 hS, ln_94 hS, ln_95 hS, ln_96 hS, ln_97 hS, ln_98 hS, ln_99 hS, ln_100 hS, ln_101 hS, ln_102 hS, ln_103 hS, ln_104 hS, ln_105 hS, ln_106 hS, ln_107 hS, ln_108 hS, rf_1_0 hS, rf_1_1 hS, rf_1_2 hS, rf_1_3 hS, rf_1_4 hS, rf_1_5 hS, rf_1_6 hS, rf_6_0 hS, rf_8_1 hS, rf_8_2 hS, rf_79_1 hS, rf_79_2 hS, rf_79_3 hS, rf_79_4 hS, rf_79_5 hS, rf_79_6 hS, rf_79_7 hS, rf_79_8 hS, rf_79_9 hS, rf_79_10 hS, rf_79_11 hS, rf_79_12 hS, rf_79_13 hS, rf_79_14 hS, rf_79_15 hS, rf_79_16 hS, rf_79_17 hS, rf_79_18 hS, rf_79_19 hS, rf_79_20 hS, rf_79_21 hS, rf_79_22 hS, rf_79_24 hS, rf_79_25 hS, rf_79_26 hS, rf_79_27 hS, rf_79_28 hS, rf_79_29 hS, rf_79_30 hS, true_and, and_true, false_and, and_false, not_true_eq_false, not_false_eq_true, true_implies, false_implies, implies_true, Classical.not_not, ite_true, ite_false, Option.some.injEq, Sum.inl.injEq, exists_eq', eq_self, true_or, or_true, false_or, or_false, Nat.reduceEqDiff, Nat.reduceLeDiff, Nat.reduceAdd, Nat.zero_le, one_ne0, if_neg one_ne0', lt_102_103, lt_102_104, lt_102_105, lt_102_106, lt_99_107, lt_100_107, lt_101_107, lt_103_107, lt_104_107, lt_105_107, lt_106_107, lt_98_99, lt_98_100, lt_98_101, lt_98_106, c_55n (show (-1 : Int32) < 0 by decide)]
def zH (g : gi_H) (B k0 j : Nat) : gi_H := wI g (fun b i => if b = B + 1 ∧ k0 ≤ i ∧ i < k0 + j then 0 else gi_I g b i)
theorem I_zH {g : gi_H} {B k0 j b i : Nat} : gi_I (zH g B k0 j) b i = if b = B + 1 ∧ k0 ≤ i ∧ i < k0 + j then 0 else gi_I g b i := rfl
theorem R_zH {g : gi_H} {B k0 j b i : Nat} : gi_R (zH g B k0 j) b i = gi_R g b i := rfl
theorem t_zH {g : gi_H} {B k0 j : Nat} {x : Option Nat} : gi_tag (zH g B k0 j) x = gi_tag g x := rfl
theorem l_zH {g : gi_H} {B k0 j : Nat} {x : Option Nat} : gi_len (zH g B k0 j) x = gi_len g x := rfl
theorem zH_0 {g : gi_H} {B k0 : Nat} : zH g B k0 0 = g := by
  refine gi_ext (fun _ => rfl) (fun b i => ?_) (fun _ _ => rfl) rfl rfl
  rw [I_zH, if_neg (by omega)]
theorem zH_s {g : gi_H} {B k0 j : Nat} : gi_pI (zH g B k0 j) (B + 1) (k0 + j) 0 = zH g B k0 (j + 1) := by
  refine gi_ext (fun _ => rfl) (fun b i => ?_) (fun _ _ => rfl) rfl rfl
  rw [I_pI, I_zH, I_zH]
  by_cases w : b = B + 1 ∧ i = k0 + j
  · rw [if_pos w, if_pos (by omega)]
  · rw [if_neg w]
    by_cases w2 : b = B + 1 ∧ k0 ≤ i ∧ i < k0 + j
    · rw [if_pos w2, if_pos (by omega)]
    · rw [if_neg w2, if_neg (by omega)]
theorem ix64 {p : Nat} : nI p * 64 = nI (64 * p) := by rw [show (64 : Int32) = nI 64 from rfl, pk_mul]; congr 1; omega
theorem lp_60n {d n a z p : Nat} {go : Int32} {g : gi_H} {Q : gi_P} (hS : gi_S g) (t0 : gi_tag g (some a) = 5) (t1 : gi_tag g (some (a + 1)) = 100) (t2 : gi_len g (some (a + 1)) = 12) (f7 : gi_R g a 7 = some (a + 1)) (hp : p ≤ 12) : ∀ m s, s + m = 64 * p → (m = 0 ∨ (64 * (p - 1) ≤ s ∧ gi_I g (a + 1) (p - 1) = -1)) → gi_ex (gi_cx (d + 2)) 60 Q 109 [some (.inr (.inr (some 1))), some (.inl (nI n)), some (.inr (.inr (some a))), some (.inl (nI z)), some (.inl go), some (.inl (nI p)), some (.inl (nI (64 * p)))] [] g → gi_ex (gi_cx (d + 2)) 60 Q 70 [some (.inr (.inr (some 1))), some (.inl (nI n)), some (.inr (.inr (some a))), some (.inl (nI z)), some (.inl go), some (.inl (nI p)), some (.inl (nI (s)))] [] g := by
  intro m
  induction m with
  | zero =>
    intro s e _ h0
    obtain rfl : s = 64 * p := by omega
    rw [x60_70]
    simp only [x60_72, x60_74, x60_76, x60_77, ldI_5, ldI_6, I_pI, R_pI, c_pI, n_pI, u_pI, t_pI, l_pI, I_pR, R_pR, c_pR, n_pR, u_pR, t_pR, l_pR, get_s, Option.toList, List.nil_append, List.cons_append, List.length_nil, List.length_cons, gi_B, true_and, and_true, false_and, and_false, not_true_eq_false, not_false_eq_true, true_implies, false_implies, implies_true, Classical.not_not, ite_true, ite_false, Option.some.injEq, Sum.inl.injEq, exists_eq', eq_self, true_or, or_true, false_or, or_false, Nat.reduceEqDiff, Nat.reduceLeDiff, Nat.reduceAdd, Nat.zero_le, one_ne0, if_neg one_ne0', lt_102_103, lt_102_104, lt_102_105, lt_102_106, lt_99_107, lt_100_107, lt_101_107, lt_103_107, lt_104_107, lt_105_107, lt_106_107, lt_98_99, lt_98_100, lt_98_101, lt_98_106, ix64, lit_ge]
    exact h0
  | succ m ih =>
    intro s e hc h0
    rcases hc with hc | ⟨h1, h2⟩
    · omega
    have nx := ih (s + 1) (by omega) (Or.inr ⟨by omega, h2⟩) h0
    have z3 : (nI (64 * p) ≤ nI s) = False := lit_le (N := 64 * p) (by omega) (by omega)
    have y0 : s / 64 = p - 1 := by omega
    have y1 : vp_in (nI (p - 1)) 12 := vp_in_nI (by omega) (by omega)
    have y2 : (nI (p - 1)).toNatClampNeg = p - 1 := nI_clamp (by omega)
    have y3 := rm64 (q := s) (by omega)
    have y4 := dv64 (q := s) (by omega)
    rw [y0] at y3 y4
    rw [x60_70]
    simp only [x60_72, x60_74, x60_76, x60_77, x60_80, x60_81, x60_84, x60_85, x60_88, x60_90, x60_92, x60_93, x60_94, x60_96, x60_98, x60_99, x60_100, x60_103, x60_106, inc_6i, inc_6n, inc_6r, ldI_5, ldI_6, ldR_0, ldR_2, I_pI, R_pI, c_pI, n_pI, u_pI, t_pI, l_pI, I_pR, R_pR, c_pR, n_pR, u_pR, t_pR, l_pR, get_s, Option.toList, List.nil_append, List.cons_append, List.length_nil, List.length_cons, gi_B, tg_1 hS, tg_2 hS, tg_3 hS, tg_4 hS, tg_5 hS, tg_6 hS, tg_7 hS, tg_8 hS, tg_9 hS, tg_10 hS, tg_75 hS, tg_79 hS, tg_80 hS, tg_81 hS, tg_82 hS, tg_83 hS, tg_84 hS, tg_85 hS, tg_86 hS, tg_87 hS, tg_88 hS, tg_89 hS, tg_90 hS, tg_91 hS, tg_92 hS, tg_93 hS, tg_94 hS, tg_95 hS, tg_96 hS, tg_97 hS, tg_98 hS, tg_99 hS, tg_100 hS, tg_101 hS, tg_102 hS, tg_103 hS, tg_104 hS, tg_105 hS, tg_106 hS, tg_107 hS, tg_108 hS, ln_2 hS, ln_3 hS, ln_4 hS, ln_5 hS, ln_7 hS, ln_9 hS, ln_10 hS, ln_75 hS, ln_80 hS, ln_81 hS, ln_82 hS, ln_83 hS, ln_84 hS, ln_85 hS, ln_86 hS, ln_87 hS, ln_88 hS, ln_89 hS, ln_90 hS, ln_91 hS, ln_92 hS, ln_93 hS, ln_94 hS, ln_95 hS, ln_96 hS, ln_97 hS, ln_98 hS, ln_99 hS, ln_100 hS, ln_101 hS, ln_102 hS, ln_103 hS, ln_104 hS, ln_105 hS, ln_106 hS, ln_107 hS, ln_108 hS, rf_1_0 hS, rf_1_1 hS, rf_1_2 hS, rf_1_3 hS, rf_1_4 hS, rf_1_5 hS, rf_1_6 hS, rf_6_0 hS, rf_8_1 hS, rf_8_2 hS, rf_79_1 hS, rf_79_2 hS, rf_79_3 hS, rf_79_4 hS, rf_79_5 hS, rf_79_6 hS, rf_79_7 hS, rf_79_8 hS, rf_79_9 hS, rf_79_10 hS, rf_79_11 hS, rf_79_12 hS, rf_79_13 hS, rf_79_14 hS, rf_79_15 hS, rf_79_16 hS, rf_79_17 hS, rf_79_18 hS, rf_79_19 hS, rf_79_20 hS, rf_79_21 hS, rf_79_22 hS, rf_79_24 hS, rf_79_25 hS, rf_79_26 hS, rf_79_27 hS, rf_79_28 hS, rf_79_29 hS, rf_79_30 hS, true_and, and_true, false_and, and_false, not_true_eq_false, not_false_eq_true, true_implies, false_implies, implies_true, Classical.not_not, ite_true, ite_false, Option.some.injEq, Sum.inl.injEq, exists_eq', eq_self, true_or, or_true, false_or, or_false, Nat.reduceEqDiff, Nat.reduceLeDiff, Nat.reduceAdd, Nat.zero_le, one_ne0, if_neg one_ne0', lt_102_103, lt_102_104, lt_102_105, lt_102_106, lt_99_107, lt_100_107, lt_101_107, lt_103_107, lt_104_107, lt_105_107, lt_106_107, lt_98_99, lt_98_100, lt_98_101, lt_98_106, ix64, z3, z64, y4, y3, t0, t1, t2, f7, y1, y2, h2, c_54n hS, nI_i1]
    exact nx
theorem lp_60z {d n a z p b B k0 : Nat} {go : Int32} {g : gi_H} {Q : gi_P} (hS : gi_S g) (t0 : gi_tag g (some a) = 5) (t1 : gi_tag g (some (a + 1)) = 100) (t2 : gi_len g (some (a + 1)) = 12) (f7 : gi_R g a 7 = some (a + 1)) (hp : p ≤ 12) (hb : b < 256) (hs : gi_I g (a + 1) (p - 1) = nI b) (e : gi_R g 7 b = some B) (tB : gi_tag g (some B) = 8) (r0 : gi_R g B 0 = some (B + 1)) (u1 : gi_tag g (some (B + 1)) = 101) (l1 : gi_len g (some (B + 1)) = 64) (ne : a + 1 ≠ B + 1) (hp0 : 0 < p) : ∀ m j, k0 + j + m = 64 → gi_ex (gi_cx (d + 2)) 60 Q 109 [some (.inr (.inr (some 1))), some (.inl (nI n)), some (.inr (.inr (some a))), some (.inl (nI z)), some (.inl go), some (.inl (nI p)), some (.inl (nI (64 * p)))] [] (zH g B k0 (j + m)) → gi_ex (gi_cx (d + 2)) 60 Q 70 [some (.inr (.inr (some 1))), some (.inl (nI n)), some (.inr (.inr (some a))), some (.inl (nI z)), some (.inl go), some (.inl (nI p)), some (.inl (nI (64 * (p - 1) + (k0 + j))))] [] (zH g B k0 j) := by
  intro m
  induction m with
  | zero =>
    intro j e' h0
    rw [x60_70, show 64 * (p - 1) + (k0 + j) = 64 * p by omega]
    simp only [x60_72, x60_74, x60_76, x60_77, ldI_5, ldI_6, I_pI, R_pI, c_pI, n_pI, u_pI, t_pI, l_pI, I_pR, R_pR, c_pR, n_pR, u_pR, t_pR, l_pR, get_s, Option.toList, List.nil_append, List.cons_append, List.length_nil, List.length_cons, gi_B, true_and, and_true, false_and, and_false, not_true_eq_false, not_false_eq_true, true_implies, false_implies, implies_true, Classical.not_not, ite_true, ite_false, Option.some.injEq, Sum.inl.injEq, exists_eq', eq_self, true_or, or_true, false_or, or_false, Nat.reduceEqDiff, Nat.reduceLeDiff, Nat.reduceAdd, Nat.zero_le, one_ne0, if_neg one_ne0', lt_102_103, lt_102_104, lt_102_105, lt_102_106, lt_99_107, lt_100_107, lt_101_107, lt_103_107, lt_104_107, lt_105_107, lt_106_107, lt_98_99, lt_98_100, lt_98_101, lt_98_106, ix64, lit_ge]
    exact h0
  | succ m ih =>
    intro j e' h0
    have nx := ih (j + 1) (by omega) (by rw [show j + 1 + m = j + (m + 1) by omega]; exact h0)
    rw [show 64 * (p - 1) + (k0 + (j + 1)) = 64 * (p - 1) + (k0 + j) + 1 by omega, ← zH_s] at nx
    have z3 : (nI (64 * p) ≤ nI (64 * (p - 1) + (k0 + j))) = False := lit_le (N := 64 * p) (by omega) (by omega)
    have y0 : (64 * (p - 1) + (k0 + j)) / 64 = p - 1 := by omega
    have y6 : (64 * (p - 1) + (k0 + j)) % 64 = k0 + j := by omega
    have y1 : vp_in (nI (p - 1)) 12 := vp_in_nI (by omega) (by omega)
    have y2 : (nI (p - 1)).toNatClampNeg = p - 1 := nI_clamp (by omega)
    have y3 := rm64 (q := 64 * (p - 1) + (k0 + j)) (by omega)
    have y4 := dv64 (q := 64 * (p - 1) + (k0 + j)) (by omega)
    rw [y0] at y3 y4
    rw [y6, ix64] at y3
    have hSz : gi_S (zH g B k0 j) := hS
    have hs' : gi_I (zH g B k0 j) (a + 1) (p - 1) = nI b := by rw [I_zH, if_neg (by omega)]; exact hs
    have c54 := fun {d : Nat} {Q : gi_P} => c_54 (d := d) (v := 0) (k := k0 + j) (h := zH g B k0 j) (Q := Q) hSz hb (by omega) e tB r0 u1 l1
    rw [show (0 : Int32).toInt8.toInt32 = 0 from rfl] at c54
    rw [x60_70]
    simp only [x60_72, x60_74, x60_76, x60_77, x60_80, x60_81, x60_84, x60_85, x60_88, x60_90, x60_92, x60_93, x60_94, x60_96, x60_98, x60_99, x60_100, x60_103, x60_106, inc_6i, inc_6n, inc_6r, ldI_5, ldI_6, ldR_0, ldR_2, I_pI, R_pI, c_pI, n_pI, u_pI, t_pI, l_pI, I_pR, R_pR, c_pR, n_pR, u_pR, t_pR, l_pR, get_s, Option.toList, List.nil_append, List.cons_append, List.length_nil, List.length_cons, gi_B, true_and, and_true, false_and, and_false, not_true_eq_false, not_false_eq_true, true_implies, false_implies, implies_true, Classical.not_not, ite_true, ite_false, Option.some.injEq, Sum.inl.injEq, exists_eq', eq_self, true_or, or_true, false_or, or_false, Nat.reduceEqDiff, Nat.reduceLeDiff, Nat.reduceAdd, Nat.zero_le, one_ne0, if_neg one_ne0', lt_102_103, lt_102_104, lt_102_105, lt_102_106, lt_99_107, lt_100_107, lt_101_107, lt_103_107, lt_104_107, lt_105_107, lt_106_107, lt_98_99, lt_98_100, lt_98_101, lt_98_106, tg_1 hSz, tg_6 hSz, rf_1_4 hSz, R_zH, t_zH, l_zH, ix64, z3, z64, y4, y3, t0, t1, t2, f7, y1, y2, hs', c54, nI_i1]
    exact nx

/-! put: the model's pieces -/
set_option maxRecDepth 100000

/-- a new block in the model -/
def nM (k : gi_H) (q : Nat) : gi_H := wI k (fun b i => if b = 92 ∧ 64 * q ≤ i ∧ i < 64 * q + 64 then 0 else if b = 91 ∧ i = q then 1 else gi_I k b i)
theorem I_nM {k : gi_H} {q b i : Nat} : gi_I (nM k q) b i = if b = 92 ∧ 64 * q ≤ i ∧ i < 64 * q + 64 then 0 else if b = 91 ∧ i = q then 1 else gi_I k b i := rfl
theorem c_121 {d b : Nat} {k : gi_H} {Q : gi_P} (hS : gi_S k) (hb : b < 256) (eb : ff (fun q => decide (gi_I k 91 q = 0)) 0 256 = b) : gi_cx (d + 1) 121 [.inr (.inr (some 79))] k Q ↔ Q (some (.inl (nI b))) (nM k b) := by
  refine gi_cx_iff ?_ Q
  rw [e121]
  generalize hq : (fun (r1 : Option gi_V) (h1 : gi_H) => r1 = some (.inl (nI b)) ∧ h1 = nM k b) = Q1
  have hQ : Q1 (some (.inl (nI b))) (nM k b) := by rw [← hq]; exact ⟨rfl, rfl⟩
  clear hq
  have lz : ∀ m j, j + m = 64 → gi_ex (gi_cx d) 121 Q1 26 [some (.inr (.inr (some 79))), some (.inl (nI b)), some (.inl (nI j))] [] (zM (gi_pI k 91 b 1) b 0 j) := by
    intro m
    induction m with
    | zero =>
      intro j e
      obtain rfl : j = 64 := by omega
      rw [x121_26]
      simp only [x121_27, x121_29, x121_50, x121_51, ldI_1, ldI_2, I_pI, R_pI, c_pI, n_pI, u_pI, t_pI, l_pI, I_pR, R_pR, c_pR, n_pR, u_pR, t_pR, l_pR, get_s, Option.toList, List.nil_append, List.cons_append, List.length_nil, List.length_cons, gi_B, true_and, and_true, false_and, and_false, not_true_eq_false, not_false_eq_true, true_implies, false_implies, implies_true, Classical.not_not, ite_true, ite_false, Option.some.injEq, Sum.inl.injEq, exists_eq', eq_self, true_or, or_true, false_or, or_false, Nat.reduceEqDiff, Nat.reduceLeDiff, Nat.reduceAdd, Nat.zero_le, one_ne0, if_neg one_ne0', lt_102_103, lt_102_104, lt_102_105, lt_102_106, lt_99_107, lt_100_107, lt_101_107, lt_103_107, lt_104_107, lt_105_107, lt_106_107, lt_98_99, lt_98_100, lt_98_101, lt_98_106, n64, lit_ge]
      have e2 : zM (gi_pI k 91 b 1) b 0 64 = nM k b := by
        refine gi_ext (fun _ => rfl) (fun x i => ?_) (fun _ _ => rfl) rfl rfl
        rw [I_zM, I_nM, I_pI]
        by_cases w : x = 92 ∧ 64 * b ≤ i ∧ i < 64 * b + 64
        · rw [if_pos (by omega), if_pos w]
        · rw [if_neg (by omega), if_neg w]
      rw [e2]
      exact hQ
    | succ m ih =>
      intro j e
      have z1 : vp_in (nI (64 * b + j)) 16384 := vp_in_nI (by omega) (by omega)
      have z2 : (nI (64 * b + j)).toNatClampNeg = 64 * b + j := nI_clamp (by omega)
      have z3 : ((64 : Int32) ≤ nI j) = False := lit_le (N := 64) (by omega) (by omega)
      have z5 : (0 : Int32).toInt8.toInt32 = 0 := rfl
      have nx := ih (j + 1) (by omega)
      have zs := zM_s (g := gi_pI k 91 b 1) (b := b) (k0 := 0) (j := j)
      rw [Nat.zero_add] at zs
      rw [← zs] at nx
      have hSz : gi_S (zM (gi_pI k 91 b 1) b 0 j) := hS
      rw [x121_26]
      simp only [x121_27, x121_29, x121_32, x121_33, x121_36, x121_38, x121_39, x121_40, x121_41, x121_42, x121_43, x121_44, x121_47, inc_2i, inc_2n, inc_2r, ldI_1, ldI_2, ldR_0, I_pI, R_pI, c_pI, n_pI, u_pI, t_pI, l_pI, I_pR, R_pR, c_pR, n_pR, u_pR, t_pR, l_pR, get_s, Option.toList, List.nil_append, List.cons_append, List.length_nil, List.length_cons, gi_B, tg_1 hSz, tg_2 hSz, tg_3 hSz, tg_4 hSz, tg_5 hSz, tg_6 hSz, tg_7 hSz, tg_8 hSz, tg_9 hSz, tg_10 hSz, tg_75 hSz, tg_79 hSz, tg_80 hSz, tg_81 hSz, tg_82 hSz, tg_83 hSz, tg_84 hSz, tg_85 hSz, tg_86 hSz, tg_87 hSz, tg_88 hSz, tg_89 hSz, tg_90 hSz, tg_91 hSz, tg_92 hSz, tg_93 hSz, tg_94 hSz, tg_95 hSz, tg_96 hSz, tg_97 hSz, tg_98 hSz, tg_99 hSz, tg_100 hSz, tg_101 hSz, tg_102 hSz, tg_103 hSz, tg_104 hSz, tg_105 hSz, tg_106 hSz, tg_107 hSz, tg_108 hSz, ln_2 hSz, ln_3 hSz, ln_4 hSz, ln_5 hSz, ln_7 hSz, ln_9 hSz, ln_10 hSz, ln_75 hSz, ln_80 hSz, ln_81 hSz, ln_82 hSz, ln_83 hSz, ln_84 hSz, ln_85 hSz, ln_86 hSz, ln_87 hSz, ln_88 hSz, ln_89 hSz, ln_90 hSz, ln_91 hSz, ln_92 hSz, ln_93 hSz, ln_94 hSz, ln_95 hSz, ln_96 hSz, ln_97 hSz, ln_98 hSz, ln_99 hSz, ln_100 hSz, ln_101 hSz, ln_102 hSz, ln_103 hSz, ln_104 hSz, ln_105 hSz, ln_106 hSz, ln_107 hSz, ln_108 hSz, rf_1_0 hSz, rf_1_1 hSz, rf_1_2 hSz, rf_1_3 hSz, rf_1_4 hSz, rf_1_5 hSz, rf_1_6 hSz, rf_6_0 hSz, rf_8_1 hSz, rf_8_2 hSz, rf_79_1 hSz, rf_79_2 hSz, rf_79_3 hSz, rf_79_4 hSz, rf_79_5 hSz, rf_79_6 hSz, rf_79_7 hSz, rf_79_8 hSz, rf_79_9 hSz, rf_79_10 hSz, rf_79_11 hSz, rf_79_12 hSz, rf_79_13 hSz, rf_79_14 hSz, rf_79_15 hSz, rf_79_16 hSz, rf_79_17 hSz, rf_79_18 hSz, rf_79_19 hSz, rf_79_20 hSz, rf_79_21 hSz, rf_79_22 hSz, rf_79_24 hSz, rf_79_25 hSz, rf_79_26 hSz, rf_79_27 hSz, rf_79_28 hSz, rf_79_29 hSz, rf_79_30 hSz, true_and, and_true, false_and, and_false, not_true_eq_false, not_false_eq_true, true_implies, false_implies, implies_true, Classical.not_not, ite_true, ite_false, Option.some.injEq, Sum.inl.injEq, exists_eq', eq_self, true_or, or_true, false_or, or_false, Nat.reduceEqDiff, Nat.reduceLeDiff, Nat.reduceAdd, Nat.zero_le, one_ne0, if_neg one_ne0', lt_102_103, lt_102_104, lt_102_105, lt_102_106, lt_99_107, lt_100_107, lt_101_107, lt_103_107, lt_104_107, lt_105_107, lt_106_107, lt_98_99, lt_98_100, lt_98_101, lt_98_106, z3, ix64b, ix64c, z1, z2, z5, nI_i1, Nat.reduceEqDiff]
      exact nx
  have lp : ∀ m j, j + m = 256 → ff (fun q => decide (gi_I k 91 q = 0)) j m = b → gi_ex (gi_cx d) 121 Q1 2 [some (.inr (.inr (some 79))), some (.inl (nI j)), none] [] k := by
    intro m
    induction m with
    | zero =>
      intro j e e2
      simp only [ff] at e2
      omega
    | succ m ih =>
      intro j e e2
      have z1 : vp_in (nI j) 256 := vp_in_nI (by omega) (by omega)
      have z2 : (nI j).toNatClampNeg = j := nI_clamp (by omega)
      simp only [ff] at e2
      rw [x121_2]
      rcases em_ (gi_I k 91 j = 0) with w | w
      · rw [decide_eq_true (of_eq_true w), cond_true] at e2
        subst e2
        have z0 := lz 64 0 rfl
        rw [zM_0, show nI 0 = (0 : Int32) from rfl] at z0
        have b1 : (1 : Int32) &&& 1 = 1 := by decide
        simp only [x121_3, x121_6, x121_7, x121_8, x121_17, x121_18, x121_21, x121_22, x121_23, x121_24, x121_25, ldI_1, ldR_0, stI_2i, stI_2n, stI_2r, I_pI, R_pI, c_pI, n_pI, u_pI, t_pI, l_pI, I_pR, R_pR, c_pR, n_pR, u_pR, t_pR, l_pR, get_s, Option.toList, List.nil_append, List.cons_append, List.length_nil, List.length_cons, gi_B, tg_1 hS, tg_2 hS, tg_3 hS, tg_4 hS, tg_5 hS, tg_6 hS, tg_7 hS, tg_8 hS, tg_9 hS, tg_10 hS, tg_75 hS, tg_79 hS, tg_80 hS, tg_81 hS, tg_82 hS, tg_83 hS, tg_84 hS, tg_85 hS, tg_86 hS, tg_87 hS, tg_88 hS, tg_89 hS, tg_90 hS, tg_91 hS, tg_92 hS, tg_93 hS, tg_94 hS, tg_95 hS, tg_96 hS, tg_97 hS, tg_98 hS, tg_99 hS, tg_100 hS, tg_101 hS, tg_102 hS, tg_103 hS, tg_104 hS, tg_105 hS, tg_106 hS, tg_107 hS, tg_108 hS, ln_2 hS, ln_3 hS, ln_4 hS, ln_5 hS, ln_7 hS, ln_9 hS, ln_10 hS, ln_75 hS, ln_80 hS, ln_81 hS, ln_82 hS, ln_83 hS, ln_84 hS, ln_85 hS, ln_86 hS, ln_87 hS, ln_88 hS, ln_89 hS, ln_90 hS, ln_91 hS, ln_92 hS, ln_93 hS, ln_94 hS, ln_95 hS, ln_96 hS, ln_97 hS, ln_98 hS, ln_99 hS, ln_100 hS, ln_101 hS, ln_102 hS, ln_103 hS, ln_104 hS, ln_105 hS, ln_106 hS, ln_107 hS, ln_108 hS, rf_1_0 hS, rf_1_1 hS, rf_1_2 hS, rf_1_3 hS, rf_1_4 hS, rf_1_5 hS, rf_1_6 hS, rf_6_0 hS, rf_8_1 hS, rf_8_2 hS, rf_79_1 hS, rf_79_2 hS, rf_79_3 hS, rf_79_4 hS, rf_79_5 hS, rf_79_6 hS, rf_79_7 hS, rf_79_8 hS, rf_79_9 hS, rf_79_10 hS, rf_79_11 hS, rf_79_12 hS, rf_79_13 hS, rf_79_14 hS, rf_79_15 hS, rf_79_16 hS, rf_79_17 hS, rf_79_18 hS, rf_79_19 hS, rf_79_20 hS, rf_79_21 hS, rf_79_22 hS, rf_79_24 hS, rf_79_25 hS, rf_79_26 hS, rf_79_27 hS, rf_79_28 hS, rf_79_29 hS, rf_79_30 hS, true_and, and_true, false_and, and_false, not_true_eq_false, not_false_eq_true, true_implies, false_implies, implies_true, Classical.not_not, ite_true, ite_false, Option.some.injEq, Sum.inl.injEq, exists_eq', eq_self, true_or, or_true, false_or, or_false, Nat.reduceEqDiff, Nat.reduceLeDiff, Nat.reduceAdd, Nat.zero_le, one_ne0, if_neg one_ne0', lt_102_103, lt_102_104, lt_102_105, lt_102_106, lt_99_107, lt_100_107, lt_101_107, lt_103_107, lt_104_107, lt_105_107, lt_106_107, lt_98_99, lt_98_100, lt_98_101, lt_98_106, z1, z2, w, b1, Nat.reduceEqDiff]
        exact z0
      · rw [decide_eq_false (of_eq_false w), cond_false] at e2
        have nx := ih (j + 1) (by omega) e2
        simp only [x121_3, x121_6, x121_7, x121_8, x121_11, x121_14, inc_1i, inc_1n, inc_1r, ldI_1, ldR_0, I_pI, R_pI, c_pI, n_pI, u_pI, t_pI, l_pI, I_pR, R_pR, c_pR, n_pR, u_pR, t_pR, l_pR, get_s, Option.toList, List.nil_append, List.cons_append, List.length_nil, List.length_cons, gi_B, tg_1 hS, tg_2 hS, tg_3 hS, tg_4 hS, tg_5 hS, tg_6 hS, tg_7 hS, tg_8 hS, tg_9 hS, tg_10 hS, tg_75 hS, tg_79 hS, tg_80 hS, tg_81 hS, tg_82 hS, tg_83 hS, tg_84 hS, tg_85 hS, tg_86 hS, tg_87 hS, tg_88 hS, tg_89 hS, tg_90 hS, tg_91 hS, tg_92 hS, tg_93 hS, tg_94 hS, tg_95 hS, tg_96 hS, tg_97 hS, tg_98 hS, tg_99 hS, tg_100 hS, tg_101 hS, tg_102 hS, tg_103 hS, tg_104 hS, tg_105 hS, tg_106 hS, tg_107 hS, tg_108 hS, ln_2 hS, ln_3 hS, ln_4 hS, ln_5 hS, ln_7 hS, ln_9 hS, ln_10 hS, ln_75 hS, ln_80 hS, ln_81 hS, ln_82 hS, ln_83 hS, ln_84 hS, ln_85 hS, ln_86 hS, ln_87 hS, ln_88 hS, ln_89 hS, ln_90 hS, ln_91 hS, ln_92 hS, ln_93 hS, ln_94 hS, ln_95 hS, ln_96 hS, ln_97 hS, ln_98 hS, ln_99 hS, ln_100 hS, ln_101 hS, ln_102 hS, ln_103 hS, ln_104 hS, ln_105 hS, ln_106 hS, ln_107 hS, ln_108 hS, rf_1_0 hS, rf_1_1 hS, rf_1_2 hS, rf_1_3 hS, rf_1_4 hS, rf_1_5 hS, rf_1_6 hS, rf_6_0 hS, rf_8_1 hS, rf_8_2 hS, rf_79_1 hS, rf_79_2 hS, rf_79_3 hS, rf_79_4 hS, rf_79_5 hS, rf_79_6 hS, rf_79_7 hS, rf_79_8 hS, rf_79_9 hS, rf_79_10 hS, rf_79_11 hS, rf_79_12 hS, rf_79_13 hS, rf_79_14 hS, rf_79_15 hS, rf_79_16 hS, rf_79_17 hS, rf_79_18 hS, rf_79_19 hS, rf_79_20 hS, rf_79_21 hS, rf_79_22 hS, rf_79_24 hS, rf_79_25 hS, rf_79_26 hS, rf_79_27 hS, rf_79_28 hS, rf_79_29 hS, rf_79_30 hS, true_and, and_true, false_and, and_false, not_true_eq_false, not_false_eq_true, true_implies, false_implies, implies_true, Classical.not_not, ite_true, ite_false, Option.some.injEq, Sum.inl.injEq, exists_eq', eq_self, true_or, or_true, false_or, or_false, Nat.reduceEqDiff, Nat.reduceLeDiff, Nat.reduceAdd, Nat.zero_le, one_ne0, if_neg one_ne0', lt_102_103, lt_102_104, lt_102_105, lt_102_106, lt_99_107, lt_100_107, lt_101_107, lt_103_107, lt_104_107, lt_105_107, lt_106_107, lt_98_99, lt_98_100, lt_98_101, lt_98_106, z1, z2, w, nI_i1, Nat.reduceEqDiff]
        exact nx
  have := lp 256 0 rfl eb
  simp only [x121_0, x121_1, stI_1i, stI_1n, stI_1r, I_pI, R_pI, c_pI, n_pI, u_pI, t_pI, l_pI, I_pR, R_pR, c_pR, n_pR, u_pR, t_pR, l_pR, get_s, Option.toList, List.nil_append, List.cons_append, List.length_nil, List.length_cons, gi_B, true_and, and_true, false_and, and_false, not_true_eq_false, not_false_eq_true, true_implies, false_implies, implies_true, Classical.not_not, ite_true, ite_false, Option.some.injEq, Sum.inl.injEq, exists_eq', eq_self, true_or, or_true, false_or, or_false, Nat.reduceEqDiff, Nat.reduceLeDiff, Nat.reduceAdd, Nat.zero_le, one_ne0, if_neg one_ne0', lt_102_103, lt_102_104, lt_102_105, lt_102_106, lt_99_107, lt_100_107, lt_101_107, lt_103_107, lt_104_107, lt_105_107, lt_106_107, lt_98_99, lt_98_100, lt_98_101, lt_98_106]
  exact this
theorem fit8 {v : Int32} (h : fits .byte (.int v) = true) : v.toInt8.toInt32 = v := by
  simp only [fits, decide_eq_true_iff, Bool.and_eq_true] at h
  apply Int32.toInt_inj.mp
  rw [Int8.toInt_toInt32, Int32.toInt_toInt8]
  have : -128 ≤ v.toInt ∧ v.toInt ≤ 127 := by
    obtain ⟨h1, h2⟩ := h
    rw [i32_le, show (-128 : Int32).toInt = -128 by decide] at h1
    rw [i32_le, show (127 : Int32).toInt = 127 by decide] at h2
    exact ⟨h1, h2⟩
  rw [Int.bmod_def]
  split <;> omega
def vlH (g : gi_H) (q j : Nat) : gi_H := wI g (fun b i => if b = 100 ∧ 60 * q ≤ i ∧ i < 60 * q + j then gi_I g 101 (i - 60 * q) else gi_I g b i)
theorem I_vl {g : gi_H} {q j b i : Nat} : gi_I (vlH g q j) b i = if b = 100 ∧ 60 * q ≤ i ∧ i < 60 * q + j then gi_I g 101 (i - 60 * q) else gi_I g b i := rfl
theorem R_vl {g : gi_H} {q j b i : Nat} : gi_R (vlH g q j) b i = gi_R g b i := rfl
theorem t_vl {g : gi_H} {q j : Nat} {x : Option Nat} : gi_tag (vlH g q j) x = gi_tag g x := rfl
theorem l_vl {g : gi_H} {q j : Nat} {x : Option Nat} : gi_len (vlH g q j) x = gi_len g x := rfl
theorem vl_0 {g : gi_H} {q : Nat} : vlH g q 0 = g := by
  refine gi_ext (fun _ => rfl) (fun b i => ?_) (fun _ _ => rfl) rfl rfl
  rw [I_vl, if_neg (by omega)]
theorem vl_s {g : gi_H} {q j : Nat} : gi_pI (vlH g q j) 100 (60 * q + j) (gi_I g 101 j) = vlH g q (j + 1) := by
  refine gi_ext (fun _ => rfl) (fun b i => ?_) (fun _ _ => rfl) rfl rfl
  rw [I_pI, I_vl, I_vl]
  by_cases w : b = 100 ∧ i = 60 * q + j
  · rw [if_pos w, if_pos (by omega), show i - 60 * q = j by omega]
  · rw [if_neg w]
    by_cases w2 : b = 100 ∧ 60 * q ≤ i ∧ i < 60 * q + j
    · rw [if_pos w2, if_pos (by omega)]
    · rw [if_neg w2, if_neg (by omega)]
theorem lp_133 {d u n t q M : Nat} {l4 : Int32} {g : gi_H} {Q : gi_P} (hS : gi_S g) (hM : M ≤ 60) (hq : q < 2048) (e23 : gi_I g 79 23 = nI M) (hf : ∀ i, i < 60 → fits .byte (.int (gi_I g 101 i)) = true) : ∀ m j, j + m = M → gi_ex (gi_cx d) 133 Q 200 [some (.inr (.inr (some 79))), some (.inl (nI u)), some (.inl (nI n)), some (.inl (nI t)), some (.inl l4), some (.inl (nI q)), some (.inl (nI M))] [] (vlH g q (j + m)) → gi_ex (gi_cx d) 133 Q 165 [some (.inr (.inr (some 79))), some (.inl (nI u)), some (.inl (nI n)), some (.inl (nI t)), some (.inl l4), some (.inl (nI q)), some (.inl (nI j))] [] (vlH g q j) := by
  intro m
  induction m with
  | zero =>
    intro j e h0
    obtain rfl : j = M := by omega
    have r23 : gi_I (vlH g q j) 79 23 = nI j := by rw [I_vl, if_neg (by omega)]; exact e23
    rw [x133_165]
    simp only [x133_167, x133_168, x133_171, ldR_0, ldI_6, I_pI, R_pI, c_pI, n_pI, u_pI, t_pI, l_pI, I_pR, R_pR, c_pR, n_pR, u_pR, t_pR, l_pR, get_s, Option.toList, List.nil_append, List.cons_append, List.length_nil, List.length_cons, gi_B, true_and, and_true, false_and, and_false, not_true_eq_false, not_false_eq_true, true_implies, false_implies, implies_true, Classical.not_not, ite_true, ite_false, Option.some.injEq, Sum.inl.injEq, exists_eq', eq_self, true_or, or_true, false_or, or_false, Nat.reduceEqDiff, Nat.reduceLeDiff, Nat.reduceAdd, Nat.zero_le, one_ne0, if_neg one_ne0', lt_102_103, lt_102_104, lt_102_105, lt_102_106, lt_99_107, lt_100_107, lt_101_107, lt_103_107, lt_104_107, lt_105_107, lt_106_107, lt_98_99, lt_98_100, lt_98_101, lt_98_106, R_vl, t_vl, l_vl, tg_79 hS, r23, lit_ge]
    exact h0
  | succ m ih =>
    intro j e h0
    have nx := ih (j + 1) (by omega) (by rw [show j + 1 + m = j + (m + 1) by omega]; exact h0)
    rw [← vl_s] at nx
    have r23 : gi_I (vlH g q j) 79 23 = nI M := by rw [I_vl, if_neg (by omega)]; exact e23
    have r1 : gi_I (vlH g q j) 101 j = gi_I g 101 j := by rw [I_vl, if_neg (by omega)]
    have f8 := fit8 (hf j (by omega))
    have z1 : vp_in (nI (60 * q + j)) 122880 := vp_in_nI (by omega) (by omega)
    have z2 : (nI (60 * q + j)).toNatClampNeg = 60 * q + j := nI_clamp (by omega)
    have y1 : vp_in (nI j) 60 := vp_in_nI (by omega) (by omega)
    have y2 : (nI j).toNatClampNeg = j := nI_clamp (by omega)
    have z3 : (nI M ≤ nI j) = False := lit_le (N := M) (by omega) (by omega)
    have hSz : gi_S (vlH g q j) := hS
    rw [x133_165]
    simp only [x133_167, x133_168, x133_171, x133_174, x133_175, x133_178, x133_180, x133_182, x133_183, x133_185, x133_186, x133_187, x133_190, x133_192, x133_193, x133_194, x133_197, inc_6i, inc_6n, inc_6r, ldI_5, ldI_6, ldR_0, I_pI, R_pI, c_pI, n_pI, u_pI, t_pI, l_pI, I_pR, R_pR, c_pR, n_pR, u_pR, t_pR, l_pR, get_s, Option.toList, List.nil_append, List.cons_append, List.length_nil, List.length_cons, gi_B, tg_1 hSz, tg_2 hSz, tg_3 hSz, tg_4 hSz, tg_5 hSz, tg_6 hSz, tg_7 hSz, tg_8 hSz, tg_9 hSz, tg_10 hSz, tg_75 hSz, tg_79 hSz, tg_80 hSz, tg_81 hSz, tg_82 hSz, tg_83 hSz, tg_84 hSz, tg_85 hSz, tg_86 hSz, tg_87 hSz, tg_88 hSz, tg_89 hSz, tg_90 hSz, tg_91 hSz, tg_92 hSz, tg_93 hSz, tg_94 hSz, tg_95 hSz, tg_96 hSz, tg_97 hSz, tg_98 hSz, tg_99 hSz, tg_100 hSz, tg_101 hSz, tg_102 hSz, tg_103 hSz, tg_104 hSz, tg_105 hSz, tg_106 hSz, tg_107 hSz, tg_108 hSz, ln_2 hSz, ln_3 hSz, ln_4 hSz, ln_5 hSz, ln_7 hSz, ln_9 hSz, ln_10 hSz, ln_75 hSz, ln_80 hSz, ln_81 hSz, ln_82 hSz, ln_83 hSz, ln_84 hSz, ln_85 hSz, ln_86 hSz, ln_87 hSz, ln_88 hSz, ln_89 hSz, ln_90 hSz, ln_91 hSz, ln_92 hSz, ln_93 hSz, ln_94 hSz, ln_95 hSz, ln_96 hSz, ln_97 hSz, ln_98 hSz, ln_99 hSz, ln_100 hSz, ln_101 hSz, ln_102 hSz, ln_103 hSz, ln_104 hSz, ln_105 hSz, ln_106 hSz, ln_107 hSz, ln_108 hSz, rf_1_0 hSz, rf_1_1 hSz, rf_1_2 hSz, rf_1_3 hSz, rf_1_4 hSz, rf_1_5 hSz, rf_1_6 hSz, rf_6_0 hSz, rf_8_1 hSz, rf_8_2 hSz, rf_79_1 hSz, rf_79_2 hSz, rf_79_3 hSz, rf_79_4 hSz, rf_79_5 hSz, rf_79_6 hSz, rf_79_7 hSz, rf_79_8 hSz, rf_79_9 hSz, rf_79_10 hSz, rf_79_11 hSz, rf_79_12 hSz, rf_79_13 hSz, rf_79_14 hSz, rf_79_15 hSz, rf_79_16 hSz, rf_79_17 hSz, rf_79_18 hSz, rf_79_19 hSz, rf_79_20 hSz, rf_79_21 hSz, rf_79_22 hSz, rf_79_24 hSz, rf_79_25 hSz, rf_79_26 hSz, rf_79_27 hSz, rf_79_28 hSz, rf_79_29 hSz, rf_79_30 hSz, true_and, and_true, false_and, and_false, not_true_eq_false, not_false_eq_true, true_implies, false_implies, implies_true, Classical.not_not, ite_true, ite_false, Option.some.injEq, Sum.inl.injEq, exists_eq', eq_self, true_or, or_true, false_or, or_false, Nat.reduceEqDiff, Nat.reduceLeDiff, Nat.reduceAdd, Nat.zero_le, one_ne0, if_neg one_ne0', lt_102_103, lt_102_104, lt_102_105, lt_102_106, lt_99_107, lt_100_107, lt_101_107, lt_103_107, lt_104_107, lt_105_107, lt_106_107, lt_98_99, lt_98_100, lt_98_101, lt_98_106, r23, r1, f8, z3, ixV, z1, z2, y1, y2, nI_i1, Nat.reduceEqDiff]
    exact nx
/-- what is new and lies nowhere does not matter -/
theorem j_gar {L : Nat} {xs : Nat → Int32} {c : Nat} {h K : gi_H} (J : jH L xs c h) (E : ext h K) (kn2 : gi_n K ≤ gi_n h + 16) (ku : gi_u K ≤ gi_u h + 1000) (kF : rF K) {T : gi_T} : jH L xs (c + 1) (rw2 K 107 108 T) ∧ jH L xs (c + 1) K := by
  obtain ⟨j1, j2, j3, j4, j5, j6, j7, j8, j9, j10, j11, j12, j13, j14⟩ := id J
  have h109 := j1.1
  have lt : ∀ x, gi_c h x ≠ (0, 0) → x < gi_n h := fun x hx => Nat.lt_of_not_le (fun w => hx (j2 x w))
  have main : ∀ K' : gi_H, (∀ x, gi_c K' x = gi_c K x) → (∀ x y, gi_R K' x y = gi_R K x y) → gi_n K' = gi_n K → gi_u K' = gi_u K → (∀ x y, x ≠ 107 → x ≠ 108 → gi_I K' x y = gi_I K x y) → jH L xs (c + 1) K' := by
    intro K' ec eR en eu eI
    have i1 : ∀ x y, x < gi_n h → x ≠ 107 → x ≠ 108 → gi_I K' x y = gi_I h x y := fun x y hx w1 w2 => by rw [eI x y w1 w2]; exact (E.2 x hx).2.1 y
    have r1 : ∀ x y, x < gi_n h → gi_R K' x y = gi_R h x y := fun x y hx => by rw [eR]; exact (E.2 x hx).2.2 y
    have c1 : ∀ x, x < gi_n h → gi_c K' x = gi_c h x := fun x hx => by rw [ec]; exact (E.2 x hx).1
    have dd : ∀ x, dy x → gi_c h x ≠ (0, 0) → gi_c K' x = gi_c h x ∧ (∀ y, gi_I K' x y = gi_I h x y) ∧ (∀ y, gi_R K' x y = gi_R h x y) := fun x hd hx => ⟨c1 x (lt x hx), fun y => i1 x y (lt x hx) (by unfold dy at hd; omega) (by unfold dy at hd; omega), fun y => r1 x y (lt x hx)⟩
    have en1 := E.1
    refine jX_of J (i := 0) (by omega) (by omega) (by omega) (by omega) (fun x hx => by rw [ec]; exact kF x (by omega)) (fun x hx => c1 x (lt x hx)) (fun x y w1 w2 w3 => r1 x y (by unfold dy at w1; omega)) (fun j _ _ => r1 5 j (by omega)) (fun y => i1 0 y (by omega) (by omega) (by omega)) (fun x hd hx _ => (dd x hd hx).2) (fun j hj _ => ⟨fun x hx => i1 _ _ (by omega) (by omega) (by omega), fun p hp => i1 _ _ (by omega) (by omega) (by omega), fun l x hl h1 h2 => i1 _ _ (by omega) (by omega) (by omega), fun l q hl hq => i1 _ _ (by omega) (by omega) (by omega), fun t ht => i1 _ _ (by omega) (by omega) (by omega), fun t q ht hq => i1 _ _ (by omega) (by omega) (by omega)⟩) ?_ ?_ ?_ ?_ ?_ ?_ ?_ ?_ ?_ ?_
    · rw [r1 5 0 (by omega), i1 83 0 (by omega) (by omega) (by omega)]
      refine ⟨(j7 0 (by omega)).1, fun a ha => ⟨((j7 0 (by omega)).2 a ha).1, ?_⟩⟩
      refine rN_fr ((j7 0 (by omega)).2 a ha).2 (fun x hx => ?_) ⟨fun x hx => i1 _ _ (by omega) (by omega) (by omega), fun p hp => i1 _ _ (by omega) (by omega) (by omega), fun l x hl h1 h2 => i1 _ _ (by omega) (by omega) (by omega), fun l q hl hq => i1 _ _ (by omega) (by omega) (by omega), fun t ht => i1 _ _ (by omega) (by omega) (by omega), fun t q ht hq => i1 _ _ (by omega) (by omega) (by omega)⟩
      obtain ⟨q1, q2⟩ := nc_c ((j7 0 (by omega)).2 a ha).2 hx
      refine dd x q1 (fun z => ?_)
      rcases q2 with ⟨-, g⟩ | ⟨-, g⟩ | ⟨-, g⟩ | ⟨r, -, ⟨-, g⟩ | ⟨-, g⟩⟩ | g | ⟨m, -, g⟩ <;> rw [g] at z <;> cases z
    · exact fun a ha => Or.inl (by rw [r1 5 0 (by omega)] at ha; exact ha)
    · intro a x r ha hx h2
      rw [r1 5 0 (by omega)] at ha
      have := ((j7 0 (by omega)).2 a ha).2
      rw [r1 a x (lt a (by rw [this.2.2.2.1]; decide))] at h2
      exact Or.inl ⟨ha, h2⟩
    · intro a r ha h1 h2
      rw [r1 5 0 (by omega)] at ha
      have := ((j7 0 (by omega)).2 a ha).2
      have la := lt a (by rw [this.2.2.2.1]; decide)
      rw [r1 a 9 la] at h1
      rw [r1 a 10 la] at h2
      exact absurd (j8.2 0 0 a a 9 10 r (by omega) (by omega) ha ha (Or.inl rfl) (Or.inr rfl) h1 h2).2 (by decide)
    · exact rA_c (fun x y hx => i1 x y (by omega) (by omega) (by omega)) (fun x y hx => i1 x y (by omega) (by omega) (by omega)) j5
    · exact sA_c (fun x y hx => i1 x y (by omega) (by omega) (by omega)) j10
    · exact rQ_c (fun x y h1 h2 => i1 x y (by omega) (by omega) (by omega)) (fun x y h1 h2 => i1 x y (by omega) (by omega) (by omega)) j6
    · exact sQ_c (Nat.le_succ c) (fun x y h1 h2 => i1 x y (by omega) (by omega) (by omega)) j11
    · exact rB_fr (fun q _ => r1 7 q (by omega)) (fun x hd hx => dd x hd (by rcases hx with e | e <;> rw [e] <;> decide)) (fun x y hx => i1 x y (by omega) (by omega) (by omega)) j9
    · exact ⟨sN_c (fun x y hx => i1 x y (by omega) (by omega) (by omega)) j12.1, sL_c (fun x y hx => i1 x y (by omega) (by omega) (by omega)) j12.2.1, sT_c (fun x y hx => i1 x y (by omega) (by omega) (by omega)) j12.2.2.1, sB_c (fun x y hx => i1 x y (by omega) (by omega) (by omega)) j12.2.2.2⟩
  exact ⟨main (rw2 K 107 108 T) (fun _ => rfl) (fun _ _ => rfl) rfl rfl (fun x y w1 w2 => by rw [I_rw2, if_neg w1, if_neg w2]), main K (fun _ => rfl) (fun _ _ => rfl) rfl rfl (fun _ _ _ _ => rfl)⟩
theorem rN_ext {h g : gi_H} {S : gi_Z} {n a : Nat} (E : ext h g) (hF : rF h) (H : rN h S n a) : rN g S n a := by
  refine rN_fr H (fun x hx => ?_) ⟨fun _ _ => rfl, fun _ _ => rfl, fun _ _ _ _ _ => rfl, fun _ _ _ _ => rfl, fun _ _ => rfl, fun _ _ _ _ => rfl⟩
  obtain ⟨q1, q2⟩ := nc_c H hx
  refine E.2 x (Nat.lt_of_not_le (fun w => ?_))
  have z := hF x w
  rcases q2 with ⟨-, g⟩ | ⟨-, g⟩ | ⟨-, g⟩ | ⟨r, -, ⟨-, g⟩ | ⟨-, g⟩⟩ | g | ⟨m, -, g⟩ <;> rw [g] at z <;> cases z

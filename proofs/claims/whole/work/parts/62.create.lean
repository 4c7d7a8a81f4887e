/-! create: the model -/
set_option maxRecDepth 100000

/-- a list emptied -/
def clr (k : gi_H) (l : Nat) : gi_H := wI k (fun b j => if b = 98 ∧ 32 * l ≤ j ∧ j < 32 * l + 32 then -1 else if b = 93 ∧ j = l then 0 else gi_I k b j)
theorem I_clr {k : gi_H} {l b j : Nat} : gi_I (clr k l) b j = if b = 98 ∧ 32 * l ≤ j ∧ j < 32 * l + 32 then -1 else if b = 93 ∧ j = l then 0 else gi_I k b j := rfl
theorem R_clr {k : gi_H} {l b j : Nat} : gi_R (clr k l) b j = gi_R k b j := rfl
theorem t_clr {k : gi_H} {l : Nat} {x : Option Nat} : gi_tag (clr k l) x = gi_tag k x := rfl
theorem l_clr {k : gi_H} {l : Nat} {x : Option Nat} : gi_len (clr k l) x = gi_len k x := rfl
/-- a list copied -/
def cpl (k : gi_H) (f t : Nat) : gi_H := wI k (fun b j => if b = 98 ∧ 32 * t ≤ j ∧ j < 32 * t + 32 then gi_I k 98 (32 * f + (j - 32 * t)) else if 93 ≤ b ∧ b ≤ 97 ∧ j = t then gi_I k b f else gi_I k b j)
theorem I_cpl {k : gi_H} {f t b j : Nat} : gi_I (cpl k f t) b j = if b = 98 ∧ 32 * t ≤ j ∧ j < 32 * t + 32 then gi_I k 98 (32 * f + (j - 32 * t)) else if 93 ≤ b ∧ b ≤ 97 ∧ j = t then gi_I k b f else gi_I k b j := rfl
theorem R_cpl {k : gi_H} {f t b j : Nat} : gi_R (cpl k f t) b j = gi_R k b j := rfl
theorem t_cpl {k : gi_H} {f t : Nat} {x : Option Nat} : gi_tag (cpl k f t) x = gi_tag k x := rfl
theorem l_cpl {k : gi_H} {f t : Nat} {x : Option Nat} : gi_len (cpl k f t) x = gi_len k x := rfl
theorem c_112 {d l : Nat} {k : gi_H} {Q : gi_P} (hS : gi_S k) (hl : l < 128) : gi_cx (d + 1) 112 [.inr (.inr (some 79)), .inl (nI l)] k Q ↔ Q none (clr k l) := by
  refine gi_cx_iff ?_ Q
  rw [e112]
  have a1 : vp_in (nI l) 128 := vp_in_nI (by omega) (by omega)
  have a2 : (nI l).toNatClampNeg = l := nI_clamp (by omega)
  generalize hq : (fun (r1 : Option gi_V) (h1 : gi_H) => r1 = none ∧ h1 = clr k l) = Q1
  have hQ : Q1 none (clr k l) := by rw [← hq]; exact ⟨rfl, rfl⟩
  clear hq
  have lp : ∀ m j, j + m = 32 → gi_ex (gi_cx d) 112 Q1 9 [some (.inr (.inr (some 79))), some (.inl (nI l)), some (.inl (nI j))] [] (wI k (fun b i => if b = 98 ∧ 32 * l ≤ i ∧ i < 32 * l + j then -1 else if b = 93 ∧ i = l then 0 else gi_I k b i)) := by
    intro m
    induction m with
    | zero =>
      intro j e
      obtain rfl : j = 32 := by omega
      rw [x112_9]
      simp only [x112_10, x112_12, x112_33, ldI_2, I_pI, R_pI, c_pI, n_pI, u_pI, t_pI, l_pI, I_pR, R_pR, c_pR, n_pR, u_pR, t_pR, l_pR, get_s, Option.toList, List.nil_append, List.cons_append, List.length_nil, List.length_cons, gi_B, true_and, and_true, false_and, and_false, not_true_eq_false, not_false_eq_true, true_implies, false_implies, implies_true, Classical.not_not, ite_true, ite_false, Option.some.injEq, Sum.inl.injEq, exists_eq', eq_self, true_or, or_true, false_or, or_false, Nat.reduceEqDiff, Nat.reduceLeDiff, Nat.reduceAdd, Nat.zero_le, one_ne0, if_neg one_ne0', lt_102_103, lt_102_104, lt_102_105, lt_102_106, lt_99_107, lt_100_107, lt_101_107, lt_103_107, lt_104_107, lt_105_107, lt_106_107, lt_98_99, lt_98_100, lt_98_101, lt_98_106, n32, lit_ge]
      exact hQ
    | succ m ih =>
      intro j e
      have z1 : vp_in (nI (32 * l + j)) 4096 := vp_in_nI (by omega) (by omega)
      have z2 : (nI (32 * l + j)).toNatClampNeg = 32 * l + j := nI_clamp (by omega)
      have z3 : ((32 : Int32) ≤ nI j) = False := lit_le (N := 32) (by omega) (by omega)
      have nx := ih (j + 1) (by omega)
      have e2 : wI k (fun b i => if b = 98 ∧ 32 * l ≤ i ∧ i < 32 * l + (j + 1) then -1 else if b = 93 ∧ i = l then 0 else gi_I k b i) = gi_pI (wI k (fun b i => if b = 98 ∧ 32 * l ≤ i ∧ i < 32 * l + j then -1 else if b = 93 ∧ i = l then 0 else gi_I k b i)) 98 (32 * l + j) (-1) := by
        rw [pI_wI]
        refine wI_c (fun b i => ?_)
        by_cases p1 : b = 98 ∧ i = 32 * l + j
        · rw [if_pos p1, if_pos ⟨p1.1, by omega, by omega⟩]
        · rw [if_neg p1]
          by_cases p2 : b = 98 ∧ 32 * l ≤ i ∧ i < 32 * l + j
          · rw [if_pos p2, if_pos ⟨p2.1, by omega, by omega⟩]
          · rw [if_neg p2, if_neg (by omega)]
      rw [e2] at nx
      rw [x112_9]
      simp only [x112_10, x112_12, x112_15, x112_16, x112_19, x112_21, x112_22, x112_23, x112_24, x112_25, x112_26, x112_27, x112_30, inc_2i, inc_2n, inc_2r, ldI_1, ldI_2, ldR_0, I_pI, R_pI, c_pI, n_pI, u_pI, t_pI, l_pI, I_pR, R_pR, c_pR, n_pR, u_pR, t_pR, l_pR, get_s, Option.toList, List.nil_append, List.cons_append, List.length_nil, List.length_cons, gi_B, tg_1 hS, tg_2 hS, tg_3 hS, tg_4 hS, tg_5 hS, tg_6 hS, tg_7 hS, tg_8 hS, tg_9 hS, tg_10 hS, tg_75 hS, tg_79 hS, tg_80 hS, tg_81 hS, tg_82 hS, tg_83 hS, tg_84 hS, tg_85 hS, tg_86 hS, tg_87 hS, tg_88 hS, tg_89 hS, tg_90 hS, tg_91 hS, tg_92 hS, tg_93 hS, tg_94 hS, tg_95 hS, tg_96 hS, tg_97 hS, tg_98 hS, tg_99 hS, tg_100 hS, tg_101 hS, tg_102 hS, tg_103 hS, tg_104 hS, tg_105 hS, tg_106 hS, tg_107 hS, tg_108 hS, ln_2 hS, ln_3 hS, ln_4 hS, ln_5 hS, ln_7 hS, ln_9 hS, ln_10 hS, ln_75 hS, ln_80 hS, ln_81 hS, ln_82 hS, ln_83 hS, ln_84 hS, ln_85 hS, ln_86 hS, ln_87 hS, ln_88 hS, ln_89 hS, ln_90 hS, ln_91 hS, ln_92 hS, ln_93 hS, ln_94 hS, ln_95 hS, ln_96 hS, ln_97 hS, ln_98 hS, ln_99 hS, ln_100 hS, ln_101 hS, ln_102 hS, ln_103 hS, ln_104 hS, ln_105 hS, ln_106 hS, ln_107 hS, ln_108 hS, rf_1_0 hS, rf_1_1 hS, rf_1_2 hS, rf_1_3 hS, rf_1_4 hS, rf_1_5 hS, rf_1_6 hS, rf_6_0 hS, rf_8_1 hS, rf_8_2 hS, rf_79_1 hS, rf_79_2 hS, rf_79_3 hS, rf_79_4 hS, rf_79_5 hS, rf_79_6 hS, rf_79_7 hS, rf_79_8 hS, rf_79_9 hS, rf_79_10 hS, rf_79_11 hS, rf_79_12 hS, rf_79_13 hS, rf_79_14 hS, rf_79_15 hS, rf_79_16 hS, rf_79_17 hS, rf_79_18 hS, rf_79_19 hS, rf_79_20 hS, rf_79_21 hS, rf_79_22 hS, rf_79_24 hS, rf_79_25 hS, rf_79_26 hS, rf_79_27 hS, rf_79_28 hS, rf_79_29 hS, rf_79_30 hS, true_and, and_true, false_and, and_false, not_true_eq_false, not_false_eq_true, true_implies, false_implies, implies_true, Classical.not_not, ite_true, ite_false, Option.some.injEq, Sum.inl.injEq, exists_eq', eq_self, true_or, or_true, false_or, or_false, Nat.reduceEqDiff, Nat.reduceLeDiff, Nat.reduceAdd, Nat.zero_le, one_ne0, if_neg one_ne0', lt_102_103, lt_102_104, lt_102_105, lt_102_106, lt_99_107, lt_100_107, lt_101_107, lt_103_107, lt_104_107, lt_105_107, lt_106_107, lt_98_99, lt_98_100, lt_98_101, lt_98_106, I_wI, R_wI, c_wI, n_wI, u_wI, t_wI, l_wI, z1, z2, z3, ixT, nI_i1]
      exact nx
  have := lp 32 0 (by omega)
  rw [show wI k (fun b i => if b = 98 ∧ 32 * l ≤ i ∧ i < 32 * l + 0 then -1 else if b = 93 ∧ i = l then 0 else gi_I k b i) = gi_pI k 93 l 0 from by
    refine wI_c (fun b i => ?_)
    rw [if_neg (by omega)]; rfl, show nI 0 = (0 : Int32) from rfl] at this
  simp only [x112_0, x112_1, x112_4, x112_5, x112_6, x112_7, x112_8, ldI_1, ldR_0, stI_2i, stI_2n, stI_2r, I_pI, R_pI, c_pI, n_pI, u_pI, t_pI, l_pI, I_pR, R_pR, c_pR, n_pR, u_pR, t_pR, l_pR, get_s, Option.toList, List.nil_append, List.cons_append, List.length_nil, List.length_cons, gi_B, tg_1 hS, tg_2 hS, tg_3 hS, tg_4 hS, tg_5 hS, tg_6 hS, tg_7 hS, tg_8 hS, tg_9 hS, tg_10 hS, tg_75 hS, tg_79 hS, tg_80 hS, tg_81 hS, tg_82 hS, tg_83 hS, tg_84 hS, tg_85 hS, tg_86 hS, tg_87 hS, tg_88 hS, tg_89 hS, tg_90 hS, tg_91 hS, tg_92 hS, tg_93 hS, tg_94 hS, tg_95 hS, tg_96 hS, tg_97 hS, tg_98 hS, tg_99 hS, tg_100 hS, tg_101 hS, tg_102 hS, tg_103 hS, tg_104 hS, tg_105 hS, tg_106 hS, tg_107 hS, tg_108 hS, ln_2 hS, ln_3 hS, ln_4 hS, ln_5 hS, ln_7 hS, ln_9 hS, ln_10 hS, ln_75 hS, ln_80 hS, ln_81 hS, ln_82 hS, ln_83 hS, ln_84 hS, ln_85 hS, ln_86 hS, ln_87 hS, ln_88 hS, ln_89 hS, ln_90 hS, ln_91 hS, ln_92 hS, ln_93 hS, ln_94 hS, ln_95 hS, ln_96 hS, ln_97 hS, ln_98 hS, ln_99 hS, ln_100 hS, ln_101 hS, ln_102 hS, ln_103 hS, ln_104 hS, ln_105 hS, ln_106 hS, ln_107 hS, ln_108 hS, rf_1_0 hS, rf_1_1 hS, rf_1_2 hS, rf_1_3 hS, rf_1_4 hS, rf_1_5 hS, rf_1_6 hS, rf_6_0 hS, rf_8_1 hS, rf_8_2 hS, rf_79_1 hS, rf_79_2 hS, rf_79_3 hS, rf_79_4 hS, rf_79_5 hS, rf_79_6 hS, rf_79_7 hS, rf_79_8 hS, rf_79_9 hS, rf_79_10 hS, rf_79_11 hS, rf_79_12 hS, rf_79_13 hS, rf_79_14 hS, rf_79_15 hS, rf_79_16 hS, rf_79_17 hS, rf_79_18 hS, rf_79_19 hS, rf_79_20 hS, rf_79_21 hS, rf_79_22 hS, rf_79_24 hS, rf_79_25 hS, rf_79_26 hS, rf_79_27 hS, rf_79_28 hS, rf_79_29 hS, rf_79_30 hS, true_and, and_true, false_and, and_false, not_true_eq_false, not_false_eq_true, true_implies, false_implies, implies_true, Classical.not_not, ite_true, ite_false, Option.some.injEq, Sum.inl.injEq, exists_eq', eq_self, true_or, or_true, false_or, or_false, Nat.reduceEqDiff, Nat.reduceLeDiff, Nat.reduceAdd, Nat.zero_le, one_ne0, if_neg one_ne0', lt_102_103, lt_102_104, lt_102_105, lt_102_106, lt_99_107, lt_100_107, lt_101_107, lt_103_107, lt_104_107, lt_105_107, lt_106_107, lt_98_99, lt_98_100, lt_98_101, lt_98_106, a1, a2]
  exact this
theorem c_113 {d f t : Nat} {k : gi_H} {Q : gi_P} (hS : gi_S k) (hf : f < 128) (ht : t < 128) (ne : f ≠ t) : gi_cx (d + 1) 113 [.inr (.inr (some 79)), .inl (nI f), .inl (nI t)] k Q ↔ Q none (cpl k f t) := by
  refine gi_cx_iff ?_ Q
  rw [e113]
  have a1 : vp_in (nI f) 128 := vp_in_nI (by omega) (by omega)
  have a2 : (nI f).toNatClampNeg = f := nI_clamp (by omega)
  have b1 : vp_in (nI t) 128 := vp_in_nI (by omega) (by omega)
  have b2' : (nI t).toNatClampNeg = t := nI_clamp (by omega)
  have n1 : (f = t) = False := eq_false ne
  generalize hq : (fun (r1 : Option gi_V) (h1 : gi_H) => r1 = none ∧ h1 = cpl k f t) = Q1
  have hQ : Q1 none (cpl k f t) := by rw [← hq]; exact ⟨rfl, rfl⟩
  clear hq
  have lp : ∀ m j, j + m = 32 → gi_ex (gi_cx d) 113 Q1 62 [some (.inr (.inr (some 79))), some (.inl (nI f)), some (.inl (nI t)), some (.inl (nI j))] [] (wI k (fun b i => if b = 98 ∧ 32 * t ≤ i ∧ i < 32 * t + j then gi_I k 98 (32 * f + (i - 32 * t)) else if 93 ≤ b ∧ b ≤ 97 ∧ i = t then gi_I k b f else gi_I k b i)) := by
    intro m
    induction m with
    | zero =>
      intro j e
      obtain rfl : j = 32 := by omega
      rw [x113_62]
      simp only [x113_63, x113_65, x113_96, ldI_3, I_pI, R_pI, c_pI, n_pI, u_pI, t_pI, l_pI, I_pR, R_pR, c_pR, n_pR, u_pR, t_pR, l_pR, get_s, Option.toList, List.nil_append, List.cons_append, List.length_nil, List.length_cons, gi_B, true_and, and_true, false_and, and_false, not_true_eq_false, not_false_eq_true, true_implies, false_implies, implies_true, Classical.not_not, ite_true, ite_false, Option.some.injEq, Sum.inl.injEq, exists_eq', eq_self, true_or, or_true, false_or, or_false, Nat.reduceEqDiff, Nat.reduceLeDiff, Nat.reduceAdd, Nat.zero_le, one_ne0, if_neg one_ne0', lt_102_103, lt_102_104, lt_102_105, lt_102_106, lt_99_107, lt_100_107, lt_101_107, lt_103_107, lt_104_107, lt_105_107, lt_106_107, lt_98_99, lt_98_100, lt_98_101, lt_98_106, n32, lit_ge]
      exact hQ
    | succ m ih =>
      intro j e
      have z1 : vp_in (nI (32 * t + j)) 4096 := vp_in_nI (by omega) (by omega)
      have z2 : (nI (32 * t + j)).toNatClampNeg = 32 * t + j := nI_clamp (by omega)
      have y1 : vp_in (nI (32 * f + j)) 4096 := vp_in_nI (by omega) (by omega)
      have y2 : (nI (32 * f + j)).toNatClampNeg = 32 * f + j := nI_clamp (by omega)
      have z3 : ((32 : Int32) ≤ nI j) = False := lit_le (N := 32) (by omega) (by omega)
      have nx := ih (j + 1) (by omega)
      have e0 : gi_I (wI k (fun b i => if b = 98 ∧ 32 * t ≤ i ∧ i < 32 * t + j then gi_I k 98 (32 * f + (i - 32 * t)) else if 93 ≤ b ∧ b ≤ 97 ∧ i = t then gi_I k b f else gi_I k b i)) 98 (32 * f + j) = gi_I k 98 (32 * f + j) := by
        rw [I_wI, if_neg (by omega), if_neg (by omega)]
      have e2 : wI k (fun b i => if b = 98 ∧ 32 * t ≤ i ∧ i < 32 * t + (j + 1) then gi_I k 98 (32 * f + (i - 32 * t)) else if 93 ≤ b ∧ b ≤ 97 ∧ i = t then gi_I k b f else gi_I k b i) = gi_pI (wI k (fun b i => if b = 98 ∧ 32 * t ≤ i ∧ i < 32 * t + j then gi_I k 98 (32 * f + (i - 32 * t)) else if 93 ≤ b ∧ b ≤ 97 ∧ i = t then gi_I k b f else gi_I k b i)) 98 (32 * t + j) (gi_I k 98 (32 * f + j)) := by
        rw [pI_wI]
        refine wI_c (fun b i => ?_)
        by_cases p1 : b = 98 ∧ i = 32 * t + j
        · rw [if_pos p1, if_pos ⟨p1.1, by omega, by omega⟩, p1.2]
          congr 1
          omega
        · rw [if_neg p1]
          by_cases p2 : b = 98 ∧ 32 * t ≤ i ∧ i < 32 * t + j
          · rw [if_pos p2, if_pos ⟨p2.1, by omega, by omega⟩]
          · rw [if_neg p2, if_neg (by omega)]
      rw [e2] at nx
      rw [x113_62]
      simp only [x113_63, x113_65, x113_68, x113_69, x113_72, x113_74, x113_75, x113_76, x113_77, x113_78, x113_79, x113_82, x113_84, x113_85, x113_86, x113_87, x113_88, x113_89, x113_90, x113_93, inc_3i, inc_3n, inc_3r, ldI_1, ldI_2, ldI_3, ldR_0, I_pI, R_pI, c_pI, n_pI, u_pI, t_pI, l_pI, I_pR, R_pR, c_pR, n_pR, u_pR, t_pR, l_pR, get_s, Option.toList, List.nil_append, List.cons_append, List.length_nil, List.length_cons, gi_B, tg_1 hS, tg_2 hS, tg_3 hS, tg_4 hS, tg_5 hS, tg_6 hS, tg_7 hS, tg_8 hS, tg_9 hS, tg_10 hS, tg_75 hS, tg_79 hS, tg_80 hS, tg_81 hS, tg_82 hS, tg_83 hS, tg_84 hS, tg_85 hS, tg_86 hS, tg_87 hS, tg_88 hS, tg_89 hS, tg_90 hS, tg_91 hS, tg_92 hS, tg_93 hS, tg_94 hS, tg_95 hS, tg_96 hS, tg_97 hS, tg_98 hS, tg_99 hS, tg_100 hS, tg_101 hS, tg_102 hS, tg_103 hS, tg_104 hS, tg_105 hS, tg_106 hS, tg_107 hS, tg_108 hS, ln_2 hS, ln_3 hS, ln_4 hS, ln_5 hS, ln_7 hS, ln_9 hS, ln_10 hS, ln_75 hS, ln_80 hS, ln_81 hS, ln_82 hS, ln_83 hS, ln_84 hS, ln_85 hS, ln_86 hS, ln_87 hS, ln_88 hS, ln_89 hS, ln_90 hS, ln_91 hS, ln_92 hS, ln_93 hS, ln_94 hS, ln_95 hS, ln_96 hS, ln_97 hS, ln_98 hS, ln_99 hS, ln_100 hS, ln_101 hS, ln_102 hS, ln_103 hS, ln_104 hS, ln_105 hS, ln_106 hS, ln_107 hS, ln_108 hS, rf_1_0 hS, rf_1_1 hS, rf_1_2 hS, rf_1_3 hS, rf_1_4 hS, rf_1_5 hS, rf_1_6 hS, rf_6_0 hS, rf_8_1 hS, rf_8_2 hS, rf_79_1 hS, rf_79_2 hS, rf_79_3 hS, rf_79_4 hS, rf_79_5 hS, rf_79_6 hS, rf_79_7 hS, rf_79_8 hS, rf_79_9 hS, rf_79_10 hS, rf_79_11 hS, rf_79_12 hS, rf_79_13 hS, rf_79_14 hS, rf_79_15 hS, rf_79_16 hS, rf_79_17 hS, rf_79_18 hS, rf_79_19 hS, rf_79_20 hS, rf_79_21 hS, rf_79_22 hS, rf_79_24 hS, rf_79_25 hS, rf_79_26 hS, rf_79_27 hS, rf_79_28 hS, rf_79_29 hS, rf_79_30 hS, true_and, and_true, false_and, and_false, not_true_eq_false, not_false_eq_true, true_implies, false_implies, implies_true, Classical.not_not, ite_true, ite_false, Option.some.injEq, Sum.inl.injEq, exists_eq', eq_self, true_or, or_true, false_or, or_false, Nat.reduceEqDiff, Nat.reduceLeDiff, Nat.reduceAdd, Nat.zero_le, one_ne0, if_neg one_ne0', lt_102_103, lt_102_104, lt_102_105, lt_102_106, lt_99_107, lt_100_107, lt_101_107, lt_103_107, lt_104_107, lt_105_107, lt_106_107, lt_98_99, lt_98_100, lt_98_101, lt_98_106, R_wI, c_wI, t_wI, l_wI, z1, z2, z3, y1, y2, e0, ixT, nI_i1]
      exact nx
  have := lp 32 0 (by omega)
  rw [show wI k (fun b i => if b = 98 ∧ 32 * t ≤ i ∧ i < 32 * t + 0 then gi_I k 98 (32 * f + (i - 32 * t)) else if 93 ≤ b ∧ b ≤ 97 ∧ i = t then gi_I k b f else gi_I k b i) = gi_pI (gi_pI (gi_pI (gi_pI (gi_pI (k) 93 t (gi_I k 93 f)) 94 t (gi_I k 94 f)) 95 t (gi_I k 95 f)) 96 t (gi_I k 96 f)) 97 t (gi_I k 97 f) from by
    refine gi_ext (fun _ => rfl) (fun b i => ?_) (fun _ _ => rfl) rfl rfl
    rw [I_wI, if_neg (by omega), I_pI, I_pI, I_pI, I_pI, I_pI]
    by_cases p : 93 ≤ b ∧ b ≤ 97 ∧ i = t
    · rw [if_pos p]
      obtain ⟨p1, p2, rfl⟩ := p
      have : b = 93 ∨ b = 94 ∨ b = 95 ∨ b = 96 ∨ b = 97 := by omega
      rcases this with rfl | rfl | rfl | rfl | rfl <;> simp
    · rw [if_neg p, if_neg (by omega), if_neg (by omega), if_neg (by omega), if_neg (by omega), if_neg (by omega)], show nI 0 = (0 : Int32) from rfl] at this
  simp only [x113_0, x113_1, x113_4, x113_5, x113_6, x113_9, x113_10, x113_11, x113_12, x113_13, x113_16, x113_17, x113_18, x113_21, x113_22, x113_23, x113_24, x113_25, x113_28, x113_29, x113_30, x113_33, x113_34, x113_35, x113_36, x113_37, x113_40, x113_41, x113_42, x113_45, x113_46, x113_47, x113_48, x113_49, x113_52, x113_53, x113_54, x113_57, x113_58, x113_59, x113_60, x113_61, ldI_1, ldI_2, ldR_0, stI_3i, stI_3n, stI_3r, I_pI, R_pI, c_pI, n_pI, u_pI, t_pI, l_pI, I_pR, R_pR, c_pR, n_pR, u_pR, t_pR, l_pR, get_s, Option.toList, List.nil_append, List.cons_append, List.length_nil, List.length_cons, gi_B, tg_1 hS, tg_2 hS, tg_3 hS, tg_4 hS, tg_5 hS, tg_6 hS, tg_7 hS, tg_8 hS, tg_9 hS, tg_10 hS, tg_75 hS, tg_79 hS, tg_80 hS, tg_81 hS, tg_82 hS, tg_83 hS, tg_84 hS, tg_85 hS, tg_86 hS, tg_87 hS, tg_88 hS, tg_89 hS, tg_90 hS, tg_91 hS, tg_92 hS, tg_93 hS, tg_94 hS, tg_95 hS, tg_96 hS, tg_97 hS, tg_98 hS, tg_99 hS, tg_100 hS, tg_101 hS, tg_102 hS, tg_103 hS, tg_104 hS, tg_105 hS, tg_106 hS, tg_107 hS, tg_108 hS, ln_2 hS, ln_3 hS, ln_4 hS, ln_5 hS, ln_7 hS, ln_9 hS, ln_10 hS, ln_75 hS, ln_80 hS, ln_81 hS, ln_82 hS, ln_83 hS, ln_84 hS, ln_85 hS, ln_86 hS, ln_87 hS, ln_88 hS, ln_89 hS, ln_90 hS, ln_91 hS, ln_92 hS, ln_93 hS, ln_94 hS, ln_95 hS, ln_96 hS, ln_97 hS, ln_98 hS, ln_99 hS, ln_100 hS, ln_101 hS, ln_102 hS, ln_103 hS, ln_104 hS, ln_105 hS, ln_106 hS, ln_107 hS, ln_108 hS, rf_1_0 hS, rf_1_1 hS, rf_1_2 hS, rf_1_3 hS, rf_1_4 hS, rf_1_5 hS, rf_1_6 hS, rf_6_0 hS, rf_8_1 hS, rf_8_2 hS, rf_79_1 hS, rf_79_2 hS, rf_79_3 hS, rf_79_4 hS, rf_79_5 hS, rf_79_6 hS, rf_79_7 hS, rf_79_8 hS, rf_79_9 hS, rf_79_10 hS, rf_79_11 hS, rf_79_12 hS, rf_79_13 hS, rf_79_14 hS, rf_79_15 hS, rf_79_16 hS, rf_79_17 hS, rf_79_18 hS, rf_79_19 hS, rf_79_20 hS, rf_79_21 hS, rf_79_22 hS, rf_79_24 hS, rf_79_25 hS, rf_79_26 hS, rf_79_27 hS, rf_79_28 hS, rf_79_29 hS, rf_79_30 hS, true_and, and_true, false_and, and_false, not_true_eq_false, not_false_eq_true, true_implies, false_implies, implies_true, Classical.not_not, ite_true, ite_false, Option.some.injEq, Sum.inl.injEq, exists_eq', eq_self, true_or, or_true, false_or, or_false, Nat.reduceEqDiff, Nat.reduceLeDiff, Nat.reduceAdd, Nat.zero_le, one_ne0, if_neg one_ne0', lt_102_103, lt_102_104, lt_102_105, lt_102_106, lt_99_107, lt_100_107, lt_101_107, lt_103_107, lt_104_107, lt_105_107, lt_106_107, lt_98_99, lt_98_100, lt_98_101, lt_98_106, a1, a2, b1, b2', n1]
  exact this

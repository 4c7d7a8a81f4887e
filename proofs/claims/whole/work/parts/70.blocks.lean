/-! blocks: the model gives parts back -/
set_option maxRecDepth 100000

theorem hs_c {S S' : gi_Z} {n y p : Nat} (e : ∀ q, S' 89 (12 * n + q) = S 89 (12 * n + q)) : ∀ m, hs S' n y p m = hs S n y p m
  | 0 => rfl
  | m + 1 => by
    simp only [hs]
    rw [hs_c e m, e]
theorem cs_c {S S' : gi_Z} {n p : Nat} (e : ∀ q, S' 89 (12 * n + q) = S 89 (12 * n + q)) : ∀ m, cs S' n p m = cs S n p m
  | 0 => rfl
  | m + 1 => by
    simp only [cs]
    rw [cs_c e m, e]
def dH (k : gi_H) (n p m : Nat) : gi_H := wI k (fun b i => if b = 89 ∧ 12 * n + p ≤ i ∧ i < 12 * n + (p + m) then -1 else if b = 91 ∧ hs (gi_I k) n i p m = true then 0 else gi_I k b i)
theorem I_dH {k : gi_H} {n p m b i : Nat} : gi_I (dH k n p m) b i = if b = 89 ∧ 12 * n + p ≤ i ∧ i < 12 * n + (p + m) then -1 else if b = 91 ∧ hs (gi_I k) n i p m = true then 0 else gi_I k b i := rfl
theorem dH_0 {k : gi_H} {n p : Nat} : dH k n p 0 = k := by
  refine gi_ext (fun _ => rfl) (fun b i => ?_) (fun _ _ => rfl) rfl rfl
  rw [I_dH, if_neg (by omega), if_neg (fun w => by cases w.2)]
theorem dH_s1 {k : gi_H} {n p m : Nat} (e2 : gi_I k 89 (12 * n + (p + m)) = -1) : dH k n p (m + 1) = dH k n p m := by
  refine gi_ext (fun _ => rfl) (fun b i => ?_) (fun _ _ => rfl) rfl rfl
  rw [I_dH, I_dH]
  have hh : hs (gi_I k) n i p (m + 1) = hs (gi_I k) n i p m := by
    simp only [hs, e2]
    rw [decide_eq_false, Bool.or_false]
    rintro ⟨w1, w2⟩
    have := congrArg Int32.toInt w2
    rw [nI_toInt (by omega), ti_m1] at this
    omega
  rw [hh]
  by_cases w : b = 89 ∧ 12 * n + p ≤ i ∧ i < 12 * n + (p + m)
  · rw [if_pos w, if_pos (by omega)]
  · rw [if_neg w]
    by_cases w2 : b = 89 ∧ 12 * n + p ≤ i ∧ i < 12 * n + (p + (m + 1))
    · rw [if_pos w2, w2.1, show i = 12 * n + (p + m) by omega, if_neg (by omega), e2]
    · rw [if_neg w2]
theorem dH_s2 {k : gi_H} {n p m q : Nat} (hq : q < 256) (e2 : gi_I k 89 (12 * n + (p + m)) = nI q) : gi_pI (gi_pI (dH k n p m) 91 q 0) 89 (12 * n + (p + m)) (-1) = dH k n p (m + 1) := by
  refine gi_ext (fun _ => rfl) (fun b i => ?_) (fun _ _ => rfl) rfl rfl
  rw [I_pI, I_pI, I_dH, I_dH]
  have e : hs (gi_I k) n i p (m + 1) = (hs (gi_I k) n i p m || decide (i = q)) := by
    simp only [hs, e2]
    congr 1
    by_cases w : i = q
    · subst w; simp [hq]
    · rw [decide_eq_false w]
      refine decide_eq_false ?_
      rintro ⟨w1, w2⟩
      exact w ((nI_eq (by omega) (by omega)).mp w2).symm
  rw [e]
  by_cases w1 : b = 89 ∧ i = 12 * n + (p + m)
  · rw [if_pos w1, if_pos (by omega)]
  · rw [if_neg w1]
    by_cases w2 : b = 91 ∧ i = q
    · rw [if_pos w2, if_neg (by omega), if_pos ⟨w2.1, by rw [decide_eq_true w2.2, Bool.or_true]⟩]
    · rw [if_neg w2]
      by_cases w3 : b = 89 ∧ 12 * n + p ≤ i ∧ i < 12 * n + (p + m)
      · rw [if_pos w3, if_pos (by omega)]
      · rw [if_neg w3, if_neg (show ¬ (b = 89 ∧ 12 * n + p ≤ i ∧ i < 12 * n + (p + (m + 1))) by omega)]
        by_cases w4 : b = 91
        · rw [decide_eq_false (fun z => w2 ⟨w4, z⟩), Bool.or_false]
        · rw [if_neg (fun z => w4 z.1), if_neg (fun z => w4 z.1)]
def dsc (S : gi_Z) (c ow gr : Nat) (T : gi_T) : gi_T := bo_ (fun p => it_ (DS S p) c) (2 * ow + 0) (32 + 2 * gr + 0) T
theorem dsc_0 {S : gi_Z} {ow gr : Nat} {T : gi_T} : dsc S 0 ow gr T = T := by
  funext p
  unfold dsc
  rw [bo_v]
  split <;> rfl
theorem dsc_s {S : gi_Z} {c ow gr : Nat} {T : gi_T} : bo_ (DS S) (2 * ow + 0) (32 + 2 * gr + 0) (dsc S c ow gr T) = dsc S (c + 1) ow gr T := by
  funext p
  unfold dsc
  rw [bo_v, bo_v, bo_v]
  by_cases w : p = 2 * ow + 0 ∨ p = 32 + 2 * gr + 0
  · rw [if_pos w, if_pos w, if_pos w]; rfl
  · rw [if_neg w, if_neg w, if_neg w]
theorem ix12 {n p : Nat} : (12 : Int32) * nI n + nI p = nI (12 * n + p) := by rw [show (12 : Int32) = nI 12 from rfl, pk_mul, nI_add]
/-- a part given back -/
theorem c_118 {d n p j ow gr : Nat} {k : gi_H} {T : gi_T} {Q : gi_P} {S : gi_Z} (hS : gi_S k) (hq : QS k S) (hn : n < 64) (h0 : 0 < n) (hj : p + j < 12) (ho : ow < 16) (hg : gr < 16) (e1 : gi_I k 85 n = nI ow) (e2 : gi_I k 86 n = nI gr) (rg : -1 ≤ (gi_I k 89 (12 * n + (p + j))).toInt ∧ (gi_I k 89 (12 * n + (p + j))).toInt ≤ 255) : gi_cx (d + 4) 118 [.inr (.inr (some 79)), .inl (nI n), .inl (nI (p + j))] (rw2 (dH k n p j) 107 108 (dsc S (cs (gi_I k) n p j) ow gr T)) Q ↔ Q none (rw2 (dH k n p (j + 1)) 107 108 (dsc S (cs (gi_I k) n p (j + 1)) ow gr T)) := by
  refine gi_cx_iff ?_ Q
  have z1 : vp_in (nI (12 * n + (p + j))) 768 := vp_in_nI (by omega) (by omega)
  have z2 : (nI (12 * n + (p + j))).toNatClampNeg = 12 * n + (p + j) := nI_clamp (by omega)
  have hSj : gi_S (dH k n p j) := hS
  have rd : gi_I (dH k n p j) 89 (12 * n + (p + j)) = gi_I k 89 (12 * n + (p + j)) := by rw [I_dH, if_neg (by omega), if_neg (by omega)]
  rcases em_ (gi_I k 89 (12 * n + (p + j)) = -1) with w | w
  · rw [dH_s1 (of_eq_true w)]
    simp only [cs]
    rw [if_pos (of_eq_true w)]
    simp only [e118, x118_0, x118_2, x118_3, x118_4, x118_5, x118_6, x118_7, x118_8, x118_11, x118_12, x118_13, x118_16, x118_17, x118_20, x118_21, x118_24, x118_25, x118_26, x118_27, x118_28, x118_29, x118_32, x118_33, x118_34, x118_35, x118_36, x118_37, x118_38, x118_41, ldI_1, ldI_2, ldI_3, ldR_0, stI_3i, stI_3n, stI_3r, I_pI, R_pI, c_pI, n_pI, u_pI, t_pI, l_pI, I_pR, R_pR, c_pR, n_pR, u_pR, t_pR, l_pR, get_s, Option.toList, List.nil_append, List.cons_append, List.length_nil, List.length_cons, gi_B, tg_1 hSj, tg_2 hSj, tg_3 hSj, tg_4 hSj, tg_5 hSj, tg_6 hSj, tg_7 hSj, tg_8 hSj, tg_9 hSj, tg_10 hSj, tg_75 hSj, tg_79 hSj, tg_80 hSj, tg_81 hSj, tg_82 hSj, tg_83 hSj, tg_84 hSj, tg_85 hSj, tg_86 hSj, tg_87 hSj, tg_88 hSj, tg_89 hSj, tg_90 hSj, tg_91 hSj, tg_92 hSj, tg_93 hSj, tg_94 hSj, tg_95 hSj, tg_96 hSj, tg_97 hSj, tg_98 hSj, tg_99 hSj, tg_100 hSj, tg_101 hSj, tg_102 hSj, tg_103 hSj, tg_104 hSj, tg_105 hSj, tg_106 hSj, tg_107 hSj, tg_108 hSj, ln_2 hSj, ln_3 hSj, ln_4 hSj, ln_5 hSj, ln_7 hSj, ln_9 hSj, ln_10 hSj, ln_75 hSj, ln_80 hSj, ln_81 hSj, ln_82 hSj, ln_83 hSj, ln_84 hSj, ln_85 hSj, ln_86 hSj, ln_87 hSj, ln_88 hSj, ln_89 hSj, ln_90 hSj, ln_91 hSj, ln_92 hSj, ln_93 hSj, ln_94 hSj, ln_95 hSj, ln_96 hSj, ln_97 hSj, ln_98 hSj, ln_99 hSj, ln_100 hSj, ln_101 hSj, ln_102 hSj, ln_103 hSj, ln_104 hSj, ln_105 hSj, ln_106 hSj, ln_107 hSj, ln_108 hSj, rf_1_0 hSj, rf_1_1 hSj, rf_1_2 hSj, rf_1_3 hSj, rf_1_4 hSj, rf_1_5 hSj, rf_1_6 hSj, rf_6_0 hSj, rf_8_1 hSj, rf_8_2 hSj, rf_79_1 hSj, rf_79_2 hSj, rf_79_3 hSj, rf_79_4 hSj, rf_79_5 hSj, rf_79_6 hSj, rf_79_7 hSj, rf_79_8 hSj, rf_79_9 hSj, rf_79_10 hSj, rf_79_11 hSj, rf_79_12 hSj, rf_79_13 hSj, rf_79_14 hSj, rf_79_15 hSj, rf_79_16 hSj, rf_79_17 hSj, rf_79_18 hSj, rf_79_19 hSj, rf_79_20 hSj, rf_79_21 hSj, rf_79_22 hSj, rf_79_24 hSj, rf_79_25 hSj, rf_79_26 hSj, rf_79_27 hSj, rf_79_28 hSj, rf_79_29 hSj, rf_79_30 hSj, true_and, and_true, false_and, and_false, not_true_eq_false, not_false_eq_true, true_implies, false_implies, implies_true, Classical.not_not, ite_true, ite_false, Option.some.injEq, Sum.inl.injEq, exists_eq', eq_self, true_or, or_true, false_or, or_false, Nat.reduceEqDiff, Nat.reduceLeDiff, Nat.reduceAdd, Nat.zero_le, one_ne0, if_neg one_ne0', lt_102_103, lt_102_104, lt_102_105, lt_102_106, lt_99_107, lt_100_107, lt_101_107, lt_103_107, lt_104_107, lt_105_107, lt_106_107, lt_98_99, lt_98_100, lt_98_101, lt_98_106, I_rw2, R_rw2, c_rw2, n_rw2, u_rw2, t_rw2, l_rw2, ix12, z1, z2, rd, lt_m1 rg.1, w, Nat.add_zero]
  · obtain ⟨q, hq', eq⟩ : ∃ q, q < 256 ∧ gi_I k 89 (12 * n + (p + j)) = nI q := by
      have w' := of_eq_false w
      rw [i32_eq, ti_m1] at w'
      obtain ⟨q, hq, eq⟩ := nI_of (x := gi_I k 89 (12 * n + (p + j))) (by rw [i32_lt, ti_0]; omega)
      rw [eq, nI_toInt hq] at rg
      exact ⟨q, by omega, eq⟩
    have y1 : vp_in (nI q) 256 := vp_in_nI hq' (by omega)
    have y2 : (nI q).toNatClampNeg = q := nI_clamp (by omega)
    have lt0 : (gi_I k 89 (12 * n + (p + j)) < 0) = False := by rw [lt_m1 rg.1]; exact w
    have c116 := fun {d : Nat} {Q : gi_P} => c_116_0 (d := d) (h := gi_pI (gi_pI (dH k n p j) 91 q 0) 89 (12 * n + (p + j)) (-1)) (T := dsc S (cs (gi_I k) n p j) ow gr T) (Q := Q) (S := S) hS ⟨hq.1, hq.2.1, hq.2.2⟩ hn h0 ho hg e1 e2
    rw [dsc_s, dH_s2 hq' eq] at c116
    simp only [cs]
    rw [if_neg (of_eq_false w)]
    rw [eq] at lt0 rd
    have b0 : (0 : Int32) &&& 1 = 0 := by decide
    have pr1 : gi_pI (rw2 (dH k n p j) 107 108 (dsc S (cs (gi_I k) n p j) ow gr T)) 91 q 0 = rw2 (gi_pI (dH k n p j) 91 q 0) 107 108 (dsc S (cs (gi_I k) n p j) ow gr T) := pI_rw2 (by omega) (by omega)
    have pr2 : gi_pI (rw2 (gi_pI (dH k n p j) 91 q 0) 107 108 (dsc S (cs (gi_I k) n p j) ow gr T)) 89 (12 * n + (p + j)) (-1) = rw2 (dH k n p (j + 1)) 107 108 (dsc S (cs (gi_I k) n p j) ow gr T) := by rw [pI_rw2 (by omega) (by omega), dH_s2 hq' eq]
    simp only [e118, x118_0, x118_2, x118_3, x118_4, x118_5, x118_6, x118_7, x118_8, x118_11, x118_12, x118_13, x118_16, x118_17, x118_20, x118_21, x118_24, x118_25, x118_26, x118_27, x118_28, x118_29, x118_32, x118_33, x118_34, x118_35, x118_36, x118_37, x118_38, x118_41, ldI_1, ldI_2, ldI_3, ldR_0, stI_3i, stI_3n, stI_3r, I_pI, R_pI, c_pI, n_pI, u_pI, t_pI, l_pI, I_pR, R_pR, c_pR, n_pR, u_pR, t_pR, l_pR, get_s, Option.toList, List.nil_append, List.cons_append, List.length_nil, List.length_cons, gi_B, tg_1 hSj, tg_2 hSj, tg_3 hSj, tg_4 hSj, tg_5 hSj, tg_6 hSj, tg_7 hSj, tg_8 hSj, tg_9 hSj, tg_10 hSj, tg_75 hSj, tg_79 hSj, tg_80 hSj, tg_81 hSj, tg_82 hSj, tg_83 hSj, tg_84 hSj, tg_85 hSj, tg_86 hSj, tg_87 hSj, tg_88 hSj, tg_89 hSj, tg_90 hSj, tg_91 hSj, tg_92 hSj, tg_93 hSj, tg_94 hSj, tg_95 hSj, tg_96 hSj, tg_97 hSj, tg_98 hSj, tg_99 hSj, tg_100 hSj, tg_101 hSj, tg_102 hSj, tg_103 hSj, tg_104 hSj, tg_105 hSj, tg_106 hSj, tg_107 hSj, tg_108 hSj, ln_2 hSj, ln_3 hSj, ln_4 hSj, ln_5 hSj, ln_7 hSj, ln_9 hSj, ln_10 hSj, ln_75 hSj, ln_80 hSj, ln_81 hSj, ln_82 hSj, ln_83 hSj, ln_84 hSj, ln_85 hSj, ln_86 hSj, ln_87 hSj, ln_88 hSj, ln_89 hSj, ln_90 hSj, ln_91 hSj, ln_92 hSj, ln_93 hSj, ln_94 hSj, ln_95 hSj, ln_96 hSj, ln_97 hSj, ln_98 hSj, ln_99 hSj, ln_100 hSj, ln_101 hSj, ln_102 hSj, ln_103 hSj, ln_104 hSj, ln_105 hSj, ln_106 hSj, ln_107 hSj, ln_108 hSj, rf_1_0 hSj, rf_1_1 hSj, rf_1_2 hSj, rf_1_3 hSj, rf_1_4 hSj, rf_1_5 hSj, rf_1_6 hSj, rf_6_0 hSj, rf_8_1 hSj, rf_8_2 hSj, rf_79_1 hSj, rf_79_2 hSj, rf_79_3 hSj, rf_79_4 hSj, rf_79_5 hSj, rf_79_6 hSj, rf_79_7 hSj, rf_79_8 hSj, rf_79_9 hSj, rf_79_10 hSj, rf_79_11 hSj, rf_79_12 hSj, rf_79_13 hSj, rf_79_14 hSj, rf_79_15 hSj, rf_79_16 hSj, rf_79_17 hSj, rf_79_18 hSj, rf_79_19 hSj, rf_79_20 hSj, rf_79_21 hSj, rf_79_22 hSj, rf_79_24 hSj, rf_79_25 hSj, rf_79_26 hSj, rf_79_27 hSj, rf_79_28 hSj, rf_79_29 hSj, rf_79_30 hSj, true_and, and_true, false_and, and_false, not_true_eq_false, not_false_eq_true, true_implies, false_implies, implies_true, Classical.not_not, ite_true, ite_false, Option.some.injEq, Sum.inl.injEq, exists_eq', eq_self, true_or, or_true, false_or, or_false, Nat.reduceEqDiff, Nat.reduceLeDiff, Nat.reduceAdd, Nat.zero_le, one_ne0, if_neg one_ne0', lt_102_103, lt_102_104, lt_102_105, lt_102_106, lt_99_107, lt_100_107, lt_101_107, lt_103_107, lt_104_107, lt_105_107, lt_106_107, lt_98_99, lt_98_100, lt_98_101, lt_98_106, I_rw2, R_rw2, c_rw2, n_rw2, u_rw2, t_rw2, l_rw2, ix12, z1, z2, y1, y2, rd, lt0, b0, pr1, pr2, c116, Nat.reduceEqDiff, tg_79 (show gi_S (dH k n p (j + 1)) from hS)]

/-! pairs: class and model -/
theorem one_ne0 : ((1 : Int32) = 0) = False := by decide
theorem lt_102_103 : ((102 : Nat) < 103) = True := by decide
theorem lt_102_104 : ((102 : Nat) < 104) = True := by decide
theorem lt_102_105 : ((102 : Nat) < 105) = True := by decide
theorem lt_102_106 : ((102 : Nat) < 106) = True := by decide
theorem lt_99_107 : ((99 : Nat) < 107) = True := by decide
theorem lt_100_107 : ((100 : Nat) < 107) = True := by decide
theorem lt_101_107 : ((101 : Nat) < 107) = True := by decide
theorem lt_103_107 : ((103 : Nat) < 107) = True := by decide
theorem lt_104_107 : ((104 : Nat) < 107) = True := by decide
theorem lt_105_107 : ((105 : Nat) < 107) = True := by decide
theorem lt_106_107 : ((106 : Nat) < 107) = True := by decide
theorem lt_98_99 : ((98 : Nat) < 99) = True := by decide
theorem lt_98_100 : ((98 : Nat) < 100) = True := by decide
theorem lt_98_101 : ((98 : Nat) < 101) = True := by decide
theorem lt_98_106 : ((98 : Nat) < 106) = True := by decide
theorem one_ne0' : ¬ (1 : Int32) = 0 := by decide
/-- a row of users or graces told anew on both sides -/
theorem j_row {L : Nat} {xs : Nat → Int32} {c : Nat} {h : gi_H} (J : jH L xs c h) {a b i : Nat} {v : Int32} (hab : (a = 2 ∧ b = 80 ∧ i < 16) ∨ (a = 3 ∧ b = 81 ∧ i < 16) ∨ (a = 4 ∧ b = 82 ∧ i < 16) ∨ (a = 10 ∧ b = 106 ∧ i < 4)) (h1 : b = 80 → vp_in v 16) (h2 : b = 106 → 0 ≤ v.toInt ∧ v.toInt ≤ 100000) : jH L xs (c + 1) (gi_pI (gi_pI h a i v) b i v) := by
  refine jA_of J (fun _ _ => rfl) (fun _ => rfl) rfl rfl (fun x y hx => ?_) ?_ ?_
  · simp only [I_pI]
    unfold inA at hx
    rw [if_neg (by omega), if_neg (by omega)]
  · obtain ⟨r1, r2, r3, r4, r5, r6, r7⟩ := J.2.2.2.2.1
    rcases hab with ⟨rfl, rfl, hi⟩ | ⟨rfl, rfl, hi⟩ | ⟨rfl, rfl, hi⟩ | ⟨rfl, rfl, hi⟩
    · refine ⟨by simpa [I_pI] using r1, fun u hu => ?_, fun u hu => by simpa [I_pI] using r3 u hu, fun u hu => by simpa [I_pI] using r4 u hu, fun u hu => by simpa [I_pI] using r5 u hu, by simpa [I_pI] using r6, fun u hu => by simpa [I_pI] using r7 u hu⟩
      by_cases e : u = i
      · simp [I_pI, e]
      · simpa [I_pI, e] using r2 u hu
    · refine ⟨by simpa [I_pI] using r1, fun u hu => by simpa [I_pI] using r2 u hu, fun u hu => ?_, fun u hu => by simpa [I_pI] using r4 u hu, fun u hu => by simpa [I_pI] using r5 u hu, by simpa [I_pI] using r6, fun u hu => by simpa [I_pI] using r7 u hu⟩
      by_cases e : u = i
      · simp [I_pI, e]
      · simpa [I_pI, e] using r3 u hu
    · refine ⟨by simpa [I_pI] using r1, fun u hu => by simpa [I_pI] using r2 u hu, fun u hu => by simpa [I_pI] using r3 u hu, fun u hu => ?_, fun u hu => by simpa [I_pI] using r5 u hu, by simpa [I_pI] using r6, fun u hu => by simpa [I_pI] using r7 u hu⟩
      by_cases e : u = i
      · simp [I_pI, e]
      · simpa [I_pI, e] using r4 u hu
    · refine ⟨by simpa [I_pI] using r1, fun u hu => by simpa [I_pI] using r2 u hu, fun u hu => by simpa [I_pI] using r3 u hu, fun u hu => by simpa [I_pI] using r4 u hu, fun u hu => ?_, by simpa [I_pI] using r6, fun u hu => by simpa [I_pI] using r7 u hu⟩
      by_cases e : u = i
      · simp [I_pI, e]
      · simpa [I_pI, e] using r5 u hu
  · obtain ⟨s1, s2, s3, s4, s5⟩ := J.2.2.2.2.2.2.2.2.2.1
    refine ⟨?_, fun u hu => ?_, fun u hu => ?_, ?_, fun u hu => ?_⟩
    · simp only [I_pI]; rw [if_neg (by omega), if_neg (by omega)]; exact s1
    · by_cases e : b = 80 ∧ u = i
      · obtain ⟨rfl, rfl⟩ := e
        simp only [I_pI, true_and, if_true]; exact h1 rfl
      · simp only [I_pI]; rw [if_neg (by omega), if_neg (by omega)]; exact s2 u hu
    · by_cases e : b = 106 ∧ u = i
      · obtain ⟨rfl, rfl⟩ := e
        simp only [I_pI, true_and, if_true]; exact h2 rfl
      · simp only [I_pI]; rw [if_neg (by omega), if_neg (by omega)]; exact s3 u hu
    · simp only [I_pI]; rw [if_neg (by omega), if_neg (by omega)]; exact s4
    · simp only [I_pI]; rw [if_neg (by omega), if_neg (by omega)]; exact s5 u hu
theorem j_now {L : Nat} {xs : Nat → Int32} {c : Nat} {h : gi_H} (J : jH L xs c h) {v : Int32} (hv : 0 ≤ v.toInt ∧ v.toInt ≤ 1000000) : jH L xs (c + 1) (gi_pI (gi_pI h 8 0 v) 79 0 v) := by
  refine jA_of J (fun _ _ => rfl) (fun _ => rfl) rfl rfl (fun x y hx => ?_) ?_ ?_
  · simp only [I_pI]
    unfold inA at hx
    rw [if_neg (by omega), if_neg (by omega)]
  · obtain ⟨r1, r2, r3, r4, r5, r6, r7⟩ := J.2.2.2.2.1
    exact ⟨by simp [I_pI], fun u hu => by simpa [I_pI] using r2 u hu, fun u hu => by simpa [I_pI] using r3 u hu, fun u hu => by simpa [I_pI] using r4 u hu, fun u hu => by simpa [I_pI] using r5 u hu, by simpa [I_pI] using r6, fun u hu => by simpa [I_pI] using r7 u hu⟩
  · obtain ⟨s1, s2, s3, s4, s5⟩ := J.2.2.2.2.2.2.2.2.2.1
    refine ⟨?_, fun u hu => ?_, fun u hu => ?_, ?_, fun u hu => ?_⟩
    · simpa [I_pI] using hv
    · simpa [I_pI] using s2 u hu
    · simpa [I_pI] using s3 u hu
    · simpa [I_pI] using s4
    · simpa [I_pI] using s5 u hu
theorem i32_add {x y : Int32} (h1 : -2147483648 ≤ x.toInt + y.toInt) (h2 : x.toInt + y.toInt < 2147483648) : (x + y).toInt = x.toInt + y.toInt := by
  rw [Int32.toInt_add]
  exact Int.bmod_eq_of_le (by omega) (by omega)
theorem tk_eq {a : Int32} : (if a < 1000000 then a else 1000000) = if 1000000 < a then 1000000 else a := by
  split
  · rename_i q
    split
    · rename_i q2
      rw [i32_lt] at q q2
      omega
    · rfl
  · rename_i q
    split
    · rfl
    · rename_i q2
      rw [i32_lt] at q q2
      exact Int32.toInt_inj.mp (by omega)
theorem j_feed {L : Nat} {xs : Nat → Int32} {c : Nat} {h : gi_H} (J : jH L xs c h) {n v w : Int32} (hn : 0 ≤ n.toInt ∧ n.toInt < 60) (hw : w.toInt = n.toInt + 1) (hv : fits .byte (.int v) = true) : jH L xs (c + 1) (gi_pI (gi_pI (gi_pI (gi_pI h 75 n.toNatClampNeg v) 1 7 w) 101 n.toNatClampNeg v) 79 23 w) := by
  refine jA_of J (fun _ _ => rfl) (fun _ => rfl) rfl rfl (fun x y hx => ?_) ?_ ?_
  · simp only [I_pI]
    unfold inA at hx
    rw [if_neg (by omega), if_neg (by omega), if_neg (by omega), if_neg (by omega)]
  · obtain ⟨r1, r2, r3, r4, r5, r6, r7⟩ := J.2.2.2.2.1
    refine ⟨by simpa [I_pI] using r1, fun u hu => by simpa [I_pI] using r2 u hu, fun u hu => by simpa [I_pI] using r3 u hu, fun u hu => by simpa [I_pI] using r4 u hu, fun u hu => by simpa [I_pI] using r5 u hu, by simp [I_pI], fun u hu => ?_⟩
    by_cases e : u = n.toNatClampNeg
    · simp [I_pI, e]
    · simpa [I_pI, e] using r7 u hu
  · obtain ⟨s1, s2, s3, s4, s5⟩ := J.2.2.2.2.2.2.2.2.2.1
    refine ⟨by simpa [I_pI] using s1, fun u hu => by simpa [I_pI] using s2 u hu, fun u hu => by simpa [I_pI] using s3 u hu, by simp [I_pI]; omega, fun u hu => ?_⟩
    by_cases e : u = n.toNatClampNeg
    · simpa [I_pI, e] using hv
    · simpa [I_pI, e] using s5 u hu
theorem tk_rng {x m : Int32} (h1 : 0 ≤ x.toInt ∧ x.toInt ≤ 1000000) (h2 : 1 ≤ m ∧ m ≤ 10000) : 0 ≤ (if 1000000 < x + m then 1000000 else x + m).toInt ∧ (if 1000000 < x + m then 1000000 else x + m).toInt ≤ 1000000 := by
  simp only [i32_le, ti_1, ti_10000] at h2
  have q := i32_add (x := x) (y := m) (by omega) (by omega)
  split
  · rw [ti_1000000]; omega
  · rename_i w
    rw [i32_lt, ti_1000000] at w
    omega
theorem inc_rng {x : Int32} (h : x.toInt < 2147483647) : (x + 1).toInt = x.toInt + 1 := by
  have := i32_lo x
  have q := i32_add (x := x) (y := 1) (by rw [ti_1]; omega) (by rw [ti_1]; omega)
  rw [ti_1] at q
  exact q
theorem gr_ix {k w : Int32} (h1 : vp_in k 2) (h2 : vp_in w 2) : vp_in (2 * k + w) 4 := by
  obtain ⟨a, ha, rfl⟩ := vp_in_of h1 (by omega)
  obtain ⟨b, hb, rfl⟩ := vp_in_of h2 (by omega)
  have e : (2 : Int32) = nI 2 := rfl
  rw [e, pk_mul, nI_add]
  exact vp_in_nI (by omega) (by omega)
theorem vp_nat {x : Int32} {n : Nat} (hx : vp_in x n) : x.toNatClampNeg < n := Nat.not_le.mp fun q => hx (Or.inr q)
/-- tick -/
theorem pr_tick {L : Nat} {xs : Nat → Int32} {c d : Nat} {h : gi_H} (J : jH L xs c h) (m : Int32) : gi_Pr L xs (d + 3) 7 97 [.inl m] c h := by
  have hS := J.1
  obtain ⟨r1, r2, r3, r4, r5, r6, r7⟩ := id J.2.2.2.2.1
  obtain ⟨s1, s2, s3, s4, s5⟩ := id J.2.2.2.2.2.2.2.2.2.1
  unfold gi_Pr
  simp only [e7, x7_0, x7_1, x7_2, x7_5, x7_6, x7_9, x7_12, x7_14, x7_15, x7_16, x7_19, x7_20, x7_23, x7_26, x7_27, x7_28, x7_30, x7_33, x7_36, x7_37, x7_40, x7_43, ldI_1, ldR_0, e97, x97_0, x97_1, x97_2, x97_5, x97_8, x97_11, x97_13, x97_14, x97_15, x97_17, x97_18, x97_21, x97_22, x97_23, x97_26, x97_29, x97_30, x97_33, ldI_1, ldR_0, I_pI, R_pI, c_pI, n_pI, u_pI, t_pI, l_pI, I_pR, R_pR, c_pR, n_pR, u_pR, t_pR, l_pR, get_s, Option.toList, List.nil_append, List.cons_append, List.length_nil, List.length_cons, gi_B, tg_1 hS, tg_2 hS, tg_3 hS, tg_4 hS, tg_5 hS, tg_6 hS, tg_7 hS, tg_8 hS, tg_9 hS, tg_10 hS, tg_75 hS, tg_79 hS, tg_80 hS, tg_81 hS, tg_82 hS, tg_83 hS, tg_84 hS, tg_85 hS, tg_86 hS, tg_87 hS, tg_88 hS, tg_89 hS, tg_90 hS, tg_91 hS, tg_92 hS, tg_93 hS, tg_94 hS, tg_95 hS, tg_96 hS, tg_97 hS, tg_98 hS, tg_99 hS, tg_100 hS, tg_101 hS, tg_102 hS, tg_103 hS, tg_104 hS, tg_105 hS, tg_106 hS, tg_107 hS, tg_108 hS, ln_2 hS, ln_3 hS, ln_4 hS, ln_5 hS, ln_7 hS, ln_9 hS, ln_10 hS, ln_75 hS, ln_80 hS, ln_81 hS, ln_82 hS, ln_83 hS, ln_84 hS, ln_85 hS, ln_86 hS, ln_87 hS, ln_88 hS, ln_89 hS, ln_90 hS, ln_91 hS, ln_92 hS, ln_93 hS, ln_94 hS, ln_95 hS, ln_96 hS, ln_97 hS, ln_98 hS, ln_99 hS, ln_100 hS, ln_101 hS, ln_102 hS, ln_103 hS, ln_104 hS, ln_105 hS, ln_106 hS, ln_107 hS, ln_108 hS, rf_1_0 hS, rf_1_1 hS, rf_1_2 hS, rf_1_3 hS, rf_1_4 hS, rf_1_5 hS, rf_1_6 hS, rf_6_0 hS, rf_8_1 hS, rf_8_2 hS, rf_79_1 hS, rf_79_2 hS, rf_79_3 hS, rf_79_4 hS, rf_79_5 hS, rf_79_6 hS, rf_79_7 hS, rf_79_8 hS, rf_79_9 hS, rf_79_10 hS, rf_79_11 hS, rf_79_12 hS, rf_79_13 hS, rf_79_14 hS, rf_79_15 hS, rf_79_16 hS, rf_79_17 hS, rf_79_18 hS, rf_79_19 hS, rf_79_20 hS, rf_79_21 hS, rf_79_22 hS, rf_79_24 hS, rf_79_25 hS, rf_79_26 hS, rf_79_27 hS, rf_79_28 hS, rf_79_29 hS, rf_79_30 hS, true_and, and_true, false_and, and_false, not_true_eq_false, not_false_eq_true, true_implies, false_implies, implies_true, Classical.not_not, ite_true, ite_false, Option.some.injEq, Sum.inl.injEq, exists_eq', eq_self, true_or, or_true, false_or, or_false, Nat.reduceEqDiff, Nat.reduceLeDiff, Nat.reduceAdd, Nat.zero_le, one_ne0, if_neg one_ne0', lt_102_103, lt_102_104, lt_102_105, lt_102_106, lt_99_107, lt_100_107, lt_101_107, lt_103_107, lt_104_107, lt_105_107, lt_106_107, lt_98_99, lt_98_100, lt_98_101, lt_98_106, c_8, c_98, r1, tk_eq]
  repeat' (first | with_reducible apply And.intro | with_reducible intro _)
  all_goals (first | assumption | contradiction | exact jH_up J | rfl | exact j_now J (tk_rng s1 (by assumption)) | exact j_now J (tk_rng s1 (And.intro (by assumption) (by assumption))) | (exfalso; (try simp only [vp_in_iff, i32_lt, i32_le, i32_eq, ti_0, ti_1, ti_2, ti_3, ti_4, ti_5, ti_7, ti_8, ti_12, ti_15, ti_16, ti_31, ti_32, ti_40, ti_60, ti_63, ti_64, ti_255, ti_256, ti_511, ti_768, ti_1000, ti_1023, ti_2047, ti_10000, ti_100000, ti_1000000, ti_m1, ti_m2, ti_m3, ti_m4, ti_m5, ti_m6, ti_m7] at *); omega))

/-- first -/
theorem pr_first {L : Nat} {xs : Nat → Int32} {c d : Nat} {h : gi_H} (J : jH L xs c h) (u g : Int32) : gi_Pr L xs (d + 3) 9 99 [.inl u, .inl g] c h := by
  have hS := J.1
  obtain ⟨r1, r2, r3, r4, r5, r6, r7⟩ := id J.2.2.2.2.1
  obtain ⟨s1, s2, s3, s4, s5⟩ := id J.2.2.2.2.2.2.2.2.2.1
  unfold gi_Pr
  simp only [e9, x9_0, x9_1, x9_4, x9_7, x9_8, x9_11, x9_14, x9_16, x9_17, x9_18, x9_21, x9_22, x9_23, x9_24, x9_25, x9_28, x9_29, x9_30, x9_31, x9_32, ldI_1, ldI_2, ldI_3, ldR_0, stI_3i, stI_3n, stI_3r, e99, x99_0, x99_1, x99_4, x99_7, x99_8, x99_11, x99_14, x99_16, x99_17, x99_18, x99_21, x99_22, x99_23, x99_24, x99_25, x99_28, x99_29, x99_30, x99_31, x99_32, ldI_1, ldI_2, ldI_3, ldR_0, stI_3i, stI_3n, stI_3r, I_pI, R_pI, c_pI, n_pI, u_pI, t_pI, l_pI, I_pR, R_pR, c_pR, n_pR, u_pR, t_pR, l_pR, get_s, Option.toList, List.nil_append, List.cons_append, List.length_nil, List.length_cons, gi_B, tg_1 hS, tg_2 hS, tg_3 hS, tg_4 hS, tg_5 hS, tg_6 hS, tg_7 hS, tg_8 hS, tg_9 hS, tg_10 hS, tg_75 hS, tg_79 hS, tg_80 hS, tg_81 hS, tg_82 hS, tg_83 hS, tg_84 hS, tg_85 hS, tg_86 hS, tg_87 hS, tg_88 hS, tg_89 hS, tg_90 hS, tg_91 hS, tg_92 hS, tg_93 hS, tg_94 hS, tg_95 hS, tg_96 hS, tg_97 hS, tg_98 hS, tg_99 hS, tg_100 hS, tg_101 hS, tg_102 hS, tg_103 hS, tg_104 hS, tg_105 hS, tg_106 hS, tg_107 hS, tg_108 hS, ln_2 hS, ln_3 hS, ln_4 hS, ln_5 hS, ln_7 hS, ln_9 hS, ln_10 hS, ln_75 hS, ln_80 hS, ln_81 hS, ln_82 hS, ln_83 hS, ln_84 hS, ln_85 hS, ln_86 hS, ln_87 hS, ln_88 hS, ln_89 hS, ln_90 hS, ln_91 hS, ln_92 hS, ln_93 hS, ln_94 hS, ln_95 hS, ln_96 hS, ln_97 hS, ln_98 hS, ln_99 hS, ln_100 hS, ln_101 hS, ln_102 hS, ln_103 hS, ln_104 hS, ln_105 hS, ln_106 hS, ln_107 hS, ln_108 hS, rf_1_0 hS, rf_1_1 hS, rf_1_2 hS, rf_1_3 hS, rf_1_4 hS, rf_1_5 hS, rf_1_6 hS, rf_6_0 hS, rf_8_1 hS, rf_8_2 hS, rf_79_1 hS, rf_79_2 hS, rf_79_3 hS, rf_79_4 hS, rf_79_5 hS, rf_79_6 hS, rf_79_7 hS, rf_79_8 hS, rf_79_9 hS, rf_79_10 hS, rf_79_11 hS, rf_79_12 hS, rf_79_13 hS, rf_79_14 hS, rf_79_15 hS, rf_79_16 hS, rf_79_17 hS, rf_79_18 hS, rf_79_19 hS, rf_79_20 hS, rf_79_21 hS, rf_79_22 hS, rf_79_24 hS, rf_79_25 hS, rf_79_26 hS, rf_79_27 hS, rf_79_28 hS, rf_79_29 hS, rf_79_30 hS, true_and, and_true, false_and, and_false, not_true_eq_false, not_false_eq_true, true_implies, false_implies, implies_true, Classical.not_not, ite_true, ite_false, Option.some.injEq, Sum.inl.injEq, exists_eq', eq_self, true_or, or_true, false_or, or_false, Nat.reduceEqDiff, Nat.reduceLeDiff, Nat.reduceAdd, Nat.zero_le, one_ne0, if_neg one_ne0', lt_102_103, lt_102_104, lt_102_105, lt_102_106, lt_99_107, lt_100_107, lt_101_107, lt_103_107, lt_104_107, lt_105_107, lt_106_107, lt_98_99, lt_98_100, lt_98_101, lt_98_106, c_10, c_98, c_100]
  repeat' (first | with_reducible apply And.intro | with_reducible intro _)
  all_goals (first | assumption | contradiction | exact jH_up J | rfl | exact (r2 _ (vp_nat (by assumption))).symm | exact j_row J (Or.inl ⟨rfl, rfl, vp_nat (by assumption)⟩) (fun _ => by assumption) (fun e => by cases e) | (exfalso; (try simp only [vp_in_iff, i32_lt, i32_le, i32_eq, ti_0, ti_1, ti_2, ti_3, ti_4, ti_5, ti_7, ti_8, ti_12, ti_15, ti_16, ti_31, ti_32, ti_40, ti_60, ti_63, ti_64, ti_255, ti_256, ti_511, ti_768, ti_1000, ti_1023, ti_2047, ti_10000, ti_100000, ti_1000000, ti_m1, ti_m2, ti_m3, ti_m4, ti_m5, ti_m6, ti_m7] at *); omega))

/-- member -/
theorem pr_member {L : Nat} {xs : Nat → Int32} {c d : Nat} {h : gi_H} (J : jH L xs c h) (u g b : Int32) : gi_Pr L xs (d + 3) 11 101 [.inl u, .inl g, .inl b] c h := by
  have hS := J.1
  obtain ⟨r1, r2, r3, r4, r5, r6, r7⟩ := id J.2.2.2.2.1
  obtain ⟨s1, s2, s3, s4, s5⟩ := id J.2.2.2.2.2.2.2.2.2.1
  unfold gi_Pr
  simp only [e11, x11_0, x11_1, x11_4, x11_7, x11_8, x11_11, x11_14, x11_16, x11_17, x11_18, x11_21, x11_22, x11_23, x11_24, x11_25, x11_26, x11_27, x11_29, x11_30, x11_31, x11_32, x11_34, x11_35, x11_38, x11_39, x11_40, x11_43, x11_44, x11_47, x11_48, x11_49, x11_51, x11_52, x11_55, x11_56, x11_59, x11_60, x11_61, x11_63, x11_64, x11_65, x11_66, x11_67, x11_69, ldI_1, ldI_2, ldI_3, ldI_4, ldI_5, ldR_0, stI_4i, stI_4n, stI_4r, stI_5i, stI_5n, stI_5r, e101, x101_0, x101_1, x101_4, x101_7, x101_8, x101_11, x101_14, x101_16, x101_17, x101_18, x101_21, x101_22, x101_23, x101_24, x101_25, x101_26, x101_27, x101_29, x101_30, x101_33, x101_34, x101_35, x101_38, x101_39, x101_42, x101_43, x101_44, x101_45, x101_46, x101_47, x101_48, x101_51, x101_52, x101_55, x101_56, x101_57, x101_58, x101_59, x101_60, x101_61, x101_62, x101_63, x101_64, x101_66, ldI_1, ldI_2, ldI_3, ldI_4, ldR_0, stI_4i, stI_4n, stI_4r, I_pI, R_pI, c_pI, n_pI, u_pI, t_pI, l_pI, I_pR, R_pR, c_pR, n_pR, u_pR, t_pR, l_pR, get_s, Option.toList, List.nil_append, List.cons_append, List.length_nil, List.length_cons, gi_B, tg_1 hS, tg_2 hS, tg_3 hS, tg_4 hS, tg_5 hS, tg_6 hS, tg_7 hS, tg_8 hS, tg_9 hS, tg_10 hS, tg_75 hS, tg_79 hS, tg_80 hS, tg_81 hS, tg_82 hS, tg_83 hS, tg_84 hS, tg_85 hS, tg_86 hS, tg_87 hS, tg_88 hS, tg_89 hS, tg_90 hS, tg_91 hS, tg_92 hS, tg_93 hS, tg_94 hS, tg_95 hS, tg_96 hS, tg_97 hS, tg_98 hS, tg_99 hS, tg_100 hS, tg_101 hS, tg_102 hS, tg_103 hS, tg_104 hS, tg_105 hS, tg_106 hS, tg_107 hS, tg_108 hS, ln_2 hS, ln_3 hS, ln_4 hS, ln_5 hS, ln_7 hS, ln_9 hS, ln_10 hS, ln_75 hS, ln_80 hS, ln_81 hS, ln_82 hS, ln_83 hS, ln_84 hS, ln_85 hS, ln_86 hS, ln_87 hS, ln_88 hS, ln_89 hS, ln_90 hS, ln_91 hS, ln_92 hS, ln_93 hS, ln_94 hS, ln_95 hS, ln_96 hS, ln_97 hS, ln_98 hS, ln_99 hS, ln_100 hS, ln_101 hS, ln_102 hS, ln_103 hS, ln_104 hS, ln_105 hS, ln_106 hS, ln_107 hS, ln_108 hS, rf_1_0 hS, rf_1_1 hS, rf_1_2 hS, rf_1_3 hS, rf_1_4 hS, rf_1_5 hS, rf_1_6 hS, rf_6_0 hS, rf_8_1 hS, rf_8_2 hS, rf_79_1 hS, rf_79_2 hS, rf_79_3 hS, rf_79_4 hS, rf_79_5 hS, rf_79_6 hS, rf_79_7 hS, rf_79_8 hS, rf_79_9 hS, rf_79_10 hS, rf_79_11 hS, rf_79_12 hS, rf_79_13 hS, rf_79_14 hS, rf_79_15 hS, rf_79_16 hS, rf_79_17 hS, rf_79_18 hS, rf_79_19 hS, rf_79_20 hS, rf_79_21 hS, rf_79_22 hS, rf_79_24 hS, rf_79_25 hS, rf_79_26 hS, rf_79_27 hS, rf_79_28 hS, rf_79_29 hS, rf_79_30 hS, true_and, and_true, false_and, and_false, not_true_eq_false, not_false_eq_true, true_implies, false_implies, implies_true, Classical.not_not, ite_true, ite_false, Option.some.injEq, Sum.inl.injEq, exists_eq', eq_self, true_or, or_true, false_or, or_false, Nat.reduceEqDiff, Nat.reduceLeDiff, Nat.reduceAdd, Nat.zero_le, one_ne0, if_neg one_ne0', lt_102_103, lt_102_104, lt_102_105, lt_102_106, lt_99_107, lt_100_107, lt_101_107, lt_103_107, lt_104_107, lt_105_107, lt_106_107, lt_98_99, lt_98_100, lt_98_101, lt_98_106, c_10, c_98, c_100]
  repeat' (first | with_reducible apply And.intro | with_reducible intro _)
  all_goals (first | assumption | contradiction | exact jH_up J | rfl | (rw [r3 _ (vp_nat (by assumption))]; done) | (rw [r3 _ (vp_nat (by assumption))]; exact j_row J (Or.inr (Or.inl ⟨rfl, rfl, vp_nat (by assumption)⟩)) (fun e => by cases e) (fun e => by cases e)) | (exfalso; (try simp only [vp_in_iff, i32_lt, i32_le, i32_eq, ti_0, ti_1, ti_2, ti_3, ti_4, ti_5, ti_7, ti_8, ti_12, ti_15, ti_16, ti_31, ti_32, ti_40, ti_60, ti_63, ti_64, ti_255, ti_256, ti_511, ti_768, ti_1000, ti_1023, ti_2047, ti_10000, ti_100000, ti_1000000, ti_m1, ti_m2, ti_m3, ti_m4, ti_m5, ti_m6, ti_m7] at *); omega))

/-- mask -/
theorem pr_mask {L : Nat} {xs : Nat → Int32} {c d : Nat} {h : gi_H} (J : jH L xs c h) (u b : Int32) : gi_Pr L xs (d + 3) 12 102 [.inl u, .inl b] c h := by
  have hS := J.1
  obtain ⟨r1, r2, r3, r4, r5, r6, r7⟩ := id J.2.2.2.2.1
  obtain ⟨s1, s2, s3, s4, s5⟩ := id J.2.2.2.2.2.2.2.2.2.1
  unfold gi_Pr
  simp only [e12, x12_0, x12_1, x12_4, x12_7, x12_8, x12_11, x12_12, x12_15, x12_18, x12_20, x12_21, x12_22, x12_25, x12_26, x12_27, x12_28, x12_29, x12_32, x12_33, x12_34, x12_35, x12_36, ldI_1, ldI_2, ldI_3, ldR_0, stI_3i, stI_3n, stI_3r, e102, x102_0, x102_1, x102_4, x102_7, x102_8, x102_9, x102_12, x102_15, x102_18, x102_20, x102_21, x102_22, x102_25, x102_26, x102_27, x102_28, x102_29, x102_32, x102_33, x102_34, x102_35, x102_36, ldI_1, ldI_2, ldI_3, ldR_0, stI_3i, stI_3n, stI_3r, I_pI, R_pI, c_pI, n_pI, u_pI, t_pI, l_pI, I_pR, R_pR, c_pR, n_pR, u_pR, t_pR, l_pR, get_s, Option.toList, List.nil_append, List.cons_append, List.length_nil, List.length_cons, gi_B, tg_1 hS, tg_2 hS, tg_3 hS, tg_4 hS, tg_5 hS, tg_6 hS, tg_7 hS, tg_8 hS, tg_9 hS, tg_10 hS, tg_75 hS, tg_79 hS, tg_80 hS, tg_81 hS, tg_82 hS, tg_83 hS, tg_84 hS, tg_85 hS, tg_86 hS, tg_87 hS, tg_88 hS, tg_89 hS, tg_90 hS, tg_91 hS, tg_92 hS, tg_93 hS, tg_94 hS, tg_95 hS, tg_96 hS, tg_97 hS, tg_98 hS, tg_99 hS, tg_100 hS, tg_101 hS, tg_102 hS, tg_103 hS, tg_104 hS, tg_105 hS, tg_106 hS, tg_107 hS, tg_108 hS, ln_2 hS, ln_3 hS, ln_4 hS, ln_5 hS, ln_7 hS, ln_9 hS, ln_10 hS, ln_75 hS, ln_80 hS, ln_81 hS, ln_82 hS, ln_83 hS, ln_84 hS, ln_85 hS, ln_86 hS, ln_87 hS, ln_88 hS, ln_89 hS, ln_90 hS, ln_91 hS, ln_92 hS, ln_93 hS, ln_94 hS, ln_95 hS, ln_96 hS, ln_97 hS, ln_98 hS, ln_99 hS, ln_100 hS, ln_101 hS, ln_102 hS, ln_103 hS, ln_104 hS, ln_105 hS, ln_106 hS, ln_107 hS, ln_108 hS, rf_1_0 hS, rf_1_1 hS, rf_1_2 hS, rf_1_3 hS, rf_1_4 hS, rf_1_5 hS, rf_1_6 hS, rf_6_0 hS, rf_8_1 hS, rf_8_2 hS, rf_79_1 hS, rf_79_2 hS, rf_79_3 hS, rf_79_4 hS, rf_79_5 hS, rf_79_6 hS, rf_79_7 hS, rf_79_8 hS, rf_79_9 hS, rf_79_10 hS, rf_79_11 hS, rf_79_12 hS, rf_79_13 hS, rf_79_14 hS, rf_79_15 hS, rf_79_16 hS, rf_79_17 hS, rf_79_18 hS, rf_79_19 hS, rf_79_20 hS, rf_79_21 hS, rf_79_22 hS, rf_79_24 hS, rf_79_25 hS, rf_79_26 hS, rf_79_27 hS, rf_79_28 hS, rf_79_29 hS, rf_79_30 hS, true_and, and_true, false_and, and_false, not_true_eq_false, not_false_eq_true, true_implies, false_implies, implies_true, Classical.not_not, ite_true, ite_false, Option.some.injEq, Sum.inl.injEq, exists_eq', eq_self, true_or, or_true, false_or, or_false, Nat.reduceEqDiff, Nat.reduceLeDiff, Nat.reduceAdd, Nat.zero_le, one_ne0, if_neg one_ne0', lt_102_103, lt_102_104, lt_102_105, lt_102_106, lt_99_107, lt_100_107, lt_101_107, lt_103_107, lt_104_107, lt_105_107, lt_106_107, lt_98_99, lt_98_100, lt_98_101, lt_98_106, c_10, c_98, c_100]
  repeat' (first | with_reducible apply And.intro | with_reducible intro _)
  all_goals (first | assumption | contradiction | exact jH_up J | rfl | exact (r4 _ (vp_nat (by assumption))).symm | exact j_row J (Or.inr (Or.inr (Or.inl ⟨rfl, rfl, vp_nat (by assumption)⟩))) (fun e => by cases e) (fun e => by cases e) | (exfalso; (try simp only [vp_in_iff, i32_lt, i32_le, i32_eq, ti_0, ti_1, ti_2, ti_3, ti_4, ti_5, ti_7, ti_8, ti_12, ti_15, ti_16, ti_31, ti_32, ti_40, ti_60, ti_63, ti_64, ti_255, ti_256, ti_511, ti_768, ti_1000, ti_1023, ti_2047, ti_10000, ti_100000, ti_1000000, ti_m1, ti_m2, ti_m3, ti_m4, ti_m5, ti_m6, ti_m7] at *); omega))

/-- grace -/
theorem pr_grace {L : Nat} {xs : Nat → Int32} {c d : Nat} {h : gi_H} (J : jH L xs c h) (k w m : Int32) : gi_Pr L xs (d + 5) 90 141 [.inl k, .inl w, .inl m] c h := by
  have hS := J.1
  obtain ⟨r1, r2, r3, r4, r5, r6, r7⟩ := id J.2.2.2.2.1
  obtain ⟨s1, s2, s3, s4, s5⟩ := id J.2.2.2.2.2.2.2.2.2.1
  unfold gi_Pr
  simp only [e90, x90_0, x90_1, x90_4, x90_7, x90_8, x90_11, x90_14, x90_15, x90_18, x90_19, x90_21, x90_24, x90_26, x90_27, x90_28, x90_31, x90_32, x90_33, x90_34, x90_37, ldI_1, ldI_2, ldI_3, ldR_0, e141, x141_0, x141_1, x141_2, x141_3, x141_6, x141_9, x141_10, x141_11, x141_12, x141_15, x141_18, x141_19, x141_20, x141_22, x141_25, x141_28, x141_30, x141_31, x141_32, x141_35, x141_36, x141_37, x141_38, x141_39, x141_40, x141_41, x141_43, x141_44, x141_47, x141_48, x141_49, x141_50, x141_51, x141_52, x141_53, x141_54, x141_56, ldI_1, ldI_2, ldI_3, ldI_4, ldR_0, stI_4i, stI_4n, stI_4r, e91, x91_0, x91_1, x91_2, x91_3, x91_6, x91_8, x91_9, x91_12, x91_13, x91_14, x91_15, x91_16, x91_17, x91_18, x91_19, x91_21, ldI_1, ldI_2, ldI_3, ldI_4, ldR_0, stI_4i, stI_4n, stI_4r, e30, x30_0, x30_1, x30_4, x30_5, x30_6, x30_7, x30_8, x30_9, x30_10, ldI_1, ldI_2, ldR_0, I_pI, R_pI, c_pI, n_pI, u_pI, t_pI, l_pI, I_pR, R_pR, c_pR, n_pR, u_pR, t_pR, l_pR, get_s, Option.toList, List.nil_append, List.cons_append, List.length_nil, List.length_cons, gi_B, tg_1 hS, tg_2 hS, tg_3 hS, tg_4 hS, tg_5 hS, tg_6 hS, tg_7 hS, tg_8 hS, tg_9 hS, tg_10 hS, tg_75 hS, tg_79 hS, tg_80 hS, tg_81 hS, tg_82 hS, tg_83 hS, tg_84 hS, tg_85 hS, tg_86 hS, tg_87 hS, tg_88 hS, tg_89 hS, tg_90 hS, tg_91 hS, tg_92 hS, tg_93 hS, tg_94 hS, tg_95 hS, tg_96 hS, tg_97 hS, tg_98 hS, tg_99 hS, tg_100 hS, tg_101 hS, tg_102 hS, tg_103 hS, tg_104 hS, tg_105 hS, tg_106 hS, tg_107 hS, tg_108 hS, ln_2 hS, ln_3 hS, ln_4 hS, ln_5 hS, ln_7 hS, ln_9 hS, ln_10 hS, ln_75 hS, ln_80 hS, ln_81 hS, ln_82 hS, ln_83 hS, ln_84 hS, ln_85 hS, ln_86 hS, ln_87 hS, ln_88 hS, ln_89 hS, ln_90 hS, ln_91 hS, ln_92 hS, ln_93 hS, ln_94 hS, ln_95 hS, ln_96 hS, ln_97 hS, ln_98 hS, ln_99 hS, ln_100 hS, ln_101 hS, ln_102 hS, ln_103 hS, ln_104 hS, ln_105 hS, ln_106 hS, ln_107 hS, ln_108 hS, rf_1_0 hS, rf_1_1 hS, rf_1_2 hS, rf_1_3 hS, rf_1_4 hS, rf_1_5 hS, rf_1_6 hS, rf_6_0 hS, rf_8_1 hS, rf_8_2 hS, rf_79_1 hS, rf_79_2 hS, rf_79_3 hS, rf_79_4 hS, rf_79_5 hS, rf_79_6 hS, rf_79_7 hS, rf_79_8 hS, rf_79_9 hS, rf_79_10 hS, rf_79_11 hS, rf_79_12 hS, rf_79_13 hS, rf_79_14 hS, rf_79_15 hS, rf_79_16 hS, rf_79_17 hS, rf_79_18 hS, rf_79_19 hS, rf_79_20 hS, rf_79_21 hS, rf_79_22 hS, rf_79_24 hS, rf_79_25 hS, rf_79_26 hS, rf_79_27 hS, rf_79_28 hS, rf_79_29 hS, rf_79_30 hS, true_and, and_true, false_and, and_false, not_true_eq_false, not_false_eq_true, true_implies, false_implies, implies_true, Classical.not_not, ite_true, ite_false, Option.some.injEq, Sum.inl.injEq, exists_eq', eq_self, true_or, or_true, false_or, or_false, Nat.reduceEqDiff, Nat.reduceLeDiff, Nat.reduceAdd, Nat.zero_le, one_ne0, if_neg one_ne0', lt_102_103, lt_102_104, lt_102_105, lt_102_106, lt_99_107, lt_100_107, lt_101_107, lt_103_107, lt_104_107, lt_105_107, lt_106_107, lt_98_99, lt_98_100, lt_98_101, lt_98_106, c_66, c_98, Int32.mul_comm k 2]
  repeat' (first | with_reducible apply And.intro | with_reducible intro _)
  all_goals (first | assumption | contradiction | exact jH_up J | rfl | exact gr_ix (by assumption) (by assumption) | exact (r5 _ (vp_nat (gr_ix (by assumption) (by assumption)))).symm | (refine j_row J (Or.inr (Or.inr (Or.inr ⟨rfl, rfl, vp_nat (gr_ix (by assumption) (by assumption))⟩))) (fun e => by cases e) (fun _ => ?_); simp only [vp_in_iff, i32_lt, i32_le, i32_eq, ti_0, ti_1, ti_2, ti_3, ti_4, ti_5, ti_7, ti_8, ti_12, ti_15, ti_16, ti_31, ti_32, ti_40, ti_60, ti_63, ti_64, ti_255, ti_256, ti_511, ti_768, ti_1000, ti_1023, ti_2047, ti_10000, ti_100000, ti_1000000, ti_m1, ti_m2, ti_m3, ti_m4, ti_m5, ti_m6, ti_m7] at *; omega) | (exfalso; (try simp only [vp_in_iff, i32_lt, i32_le, i32_eq, ti_0, ti_1, ti_2, ti_3, ti_4, ti_5, ti_7, ti_8, ti_12, ti_15, ti_16, ti_31, ti_32, ti_40, ti_60, ti_63, ti_64, ti_255, ti_256, ti_511, ti_768, ti_1000, ti_1023, ti_2047, ti_10000, ti_100000, ti_1000000, ti_m1, ti_m2, ti_m3, ti_m4, ti_m5, ti_m6, ti_m7] at *); omega))

/-- feed -/
theorem pr_feed {L : Nat} {xs : Nat → Int32} {c d : Nat} {h : gi_H} (J : jH L xs c h) (b : Int32) : gi_Pr L xs (d + 3) 73 132 [.inl b] c h := by
  have hS := J.1
  obtain ⟨r1, r2, r3, r4, r5, r6, r7⟩ := id J.2.2.2.2.1
  obtain ⟨s1, s2, s3, s4, s5⟩ := id J.2.2.2.2.2.2.2.2.2.1
  unfold gi_Pr
  simp only [e73, x73_0, x73_1, x73_4, x73_5, x73_8, x73_11, x73_13, x73_14, x73_15, x73_18, x73_20, x73_23, x73_25, x73_26, x73_27, x73_30, x73_31, x73_34, x73_35, x73_36, x73_37, x73_38, x73_39, x73_42, x73_43, x73_44, x73_47, x73_48, x73_51, ldI_1, ldR_0, e132, x132_0, x132_1, x132_2, x132_5, x132_8, x132_11, x132_13, x132_14, x132_15, x132_18, x132_20, x132_23, x132_25, x132_26, x132_27, x132_30, x132_31, x132_34, x132_35, x132_36, x132_37, x132_38, x132_39, x132_42, x132_43, x132_44, x132_47, x132_48, x132_51, ldI_1, ldR_0, I_pI, R_pI, c_pI, n_pI, u_pI, t_pI, l_pI, I_pR, R_pR, c_pR, n_pR, u_pR, t_pR, l_pR, get_s, Option.toList, List.nil_append, List.cons_append, List.length_nil, List.length_cons, gi_B, tg_1 hS, tg_2 hS, tg_3 hS, tg_4 hS, tg_5 hS, tg_6 hS, tg_7 hS, tg_8 hS, tg_9 hS, tg_10 hS, tg_75 hS, tg_79 hS, tg_80 hS, tg_81 hS, tg_82 hS, tg_83 hS, tg_84 hS, tg_85 hS, tg_86 hS, tg_87 hS, tg_88 hS, tg_89 hS, tg_90 hS, tg_91 hS, tg_92 hS, tg_93 hS, tg_94 hS, tg_95 hS, tg_96 hS, tg_97 hS, tg_98 hS, tg_99 hS, tg_100 hS, tg_101 hS, tg_102 hS, tg_103 hS, tg_104 hS, tg_105 hS, tg_106 hS, tg_107 hS, tg_108 hS, ln_2 hS, ln_3 hS, ln_4 hS, ln_5 hS, ln_7 hS, ln_9 hS, ln_10 hS, ln_75 hS, ln_80 hS, ln_81 hS, ln_82 hS, ln_83 hS, ln_84 hS, ln_85 hS, ln_86 hS, ln_87 hS, ln_88 hS, ln_89 hS, ln_90 hS, ln_91 hS, ln_92 hS, ln_93 hS, ln_94 hS, ln_95 hS, ln_96 hS, ln_97 hS, ln_98 hS, ln_99 hS, ln_100 hS, ln_101 hS, ln_102 hS, ln_103 hS, ln_104 hS, ln_105 hS, ln_106 hS, ln_107 hS, ln_108 hS, rf_1_0 hS, rf_1_1 hS, rf_1_2 hS, rf_1_3 hS, rf_1_4 hS, rf_1_5 hS, rf_1_6 hS, rf_6_0 hS, rf_8_1 hS, rf_8_2 hS, rf_79_1 hS, rf_79_2 hS, rf_79_3 hS, rf_79_4 hS, rf_79_5 hS, rf_79_6 hS, rf_79_7 hS, rf_79_8 hS, rf_79_9 hS, rf_79_10 hS, rf_79_11 hS, rf_79_12 hS, rf_79_13 hS, rf_79_14 hS, rf_79_15 hS, rf_79_16 hS, rf_79_17 hS, rf_79_18 hS, rf_79_19 hS, rf_79_20 hS, rf_79_21 hS, rf_79_22 hS, rf_79_24 hS, rf_79_25 hS, rf_79_26 hS, rf_79_27 hS, rf_79_28 hS, rf_79_29 hS, rf_79_30 hS, true_and, and_true, false_and, and_false, not_true_eq_false, not_false_eq_true, true_implies, false_implies, implies_true, Classical.not_not, ite_true, ite_false, Option.some.injEq, Sum.inl.injEq, exists_eq', eq_self, true_or, or_true, false_or, or_false, Nat.reduceEqDiff, Nat.reduceLeDiff, Nat.reduceAdd, Nat.zero_le, one_ne0, if_neg one_ne0', lt_102_103, lt_102_104, lt_102_105, lt_102_106, lt_99_107, lt_100_107, lt_101_107, lt_103_107, lt_104_107, lt_105_107, lt_106_107, lt_98_99, lt_98_100, lt_98_101, lt_98_106, c_98, r6]
  repeat' (first | with_reducible apply And.intro | with_reducible intro _)
  all_goals (first | assumption | contradiction | exact jH_up J | rfl | (refine j_feed J ?_ (inc_rng (by omega)) (pk_fb _); simp only [vp_in_iff, i32_lt, i32_le, i32_eq, ti_0, ti_1, ti_2, ti_3, ti_4, ti_5, ti_7, ti_8, ti_12, ti_15, ti_16, ti_31, ti_32, ti_40, ti_60, ti_63, ti_64, ti_255, ti_256, ti_511, ti_768, ti_1000, ti_1023, ti_2047, ti_10000, ti_100000, ti_1000000, ti_m1, ti_m2, ti_m3, ti_m4, ti_m5, ti_m6, ti_m7] at *; omega) | (simp only [vp_in_iff, i32_lt, i32_le, i32_eq, ti_0, ti_1, ti_2, ti_3, ti_4, ti_5, ti_7, ti_8, ti_12, ti_15, ti_16, ti_31, ti_32, ti_40, ti_60, ti_63, ti_64, ti_255, ti_256, ti_511, ti_768, ti_1000, ti_1023, ti_2047, ti_10000, ti_100000, ti_1000000, ti_m1, ti_m2, ti_m3, ti_m4, ti_m5, ti_m6, ti_m7] at *; omega) | (exfalso; (try simp only [vp_in_iff, i32_lt, i32_le, i32_eq, ti_0, ti_1, ti_2, ti_3, ti_4, ti_5, ti_7, ti_8, ti_12, ti_15, ti_16, ti_31, ti_32, ti_40, ti_60, ti_63, ti_64, ti_255, ti_256, ti_511, ti_768, ti_1000, ti_1023, ti_2047, ti_10000, ti_100000, ti_1000000, ti_m1, ti_m2, ti_m3, ti_m4, ti_m5, ti_m6, ti_m7] at *); omega))


/-! create: the class -/
set_option maxRecDepth 100000

/-- the first that is free -/
def ff (g : Nat → Bool) : Nat → Nat → Nat
  | j, 0 => j
  | j, m + 1 => bif g j then j else ff g (j + 1) m
theorem ff_le {g : Nat → Bool} : ∀ m j, j ≤ ff g j m ∧ ff g j m ≤ j + m
  | 0, j => ⟨Nat.le_refl _, Nat.le_refl _⟩
  | m + 1, j => by
    have := ff_le (g := g) m (j + 1)
    simp only [ff]
    cases g j <;> simp only [cond_true, cond_false] <;> omega
theorem ff_t {g : Nat → Bool} : ∀ m j, ff g j m < j + m → g (ff g j m) = true
  | 0, j, h => by simp only [ff] at h; omega
  | m + 1, j, h => by
    simp only [ff] at h ⊢
    cases e : g j with
    | true => simp only [cond_true]; exact e
    | false =>
      rw [e] at h
      simp only [cond_false] at h ⊢
      exact ff_t m (j + 1) (by omega)
theorem ff_c {f g : Nat → Bool} : ∀ m j, (∀ k, j ≤ k → k < j + m → f k = g k) → ff f j m = ff g j m
  | 0, j, _ => rfl
  | m + 1, j, h => by
    simp only [ff]
    rw [h j (by omega) (by omega), ff_c m (j + 1) (fun k h1 h2 => h k (by omega) (by omega))]
theorem c_26 {d : Nat} {h : gi_H} {Q : gi_P} (hS : gi_S h) : gi_cx (d + 1) 26 [.inr (.inr (some 1))] h Q ↔ Q (some (.inl (if ff (fun n => (gi_R h 5 n).isNone) 0 64 = 64 then -1 else nI (ff (fun n => (gi_R h 5 n).isNone) 0 64)))) h := by
  refine gi_cx_iff ?_ Q
  rw [e26]
  have lp : ∀ m j, j + m = 64 → gi_ex (gi_cx d) 26 (fun r1 h1 => r1 = some (.inl (if ff (fun n => (gi_R h 5 n).isNone) j m = 64 then -1 else nI (ff (fun n => (gi_R h 5 n).isNone) j m))) ∧ h1 = h) 2 [some (.inr (.inr (some 1))), some (.inl (nI j))] [] h := by
    intro m
    induction m with
    | zero =>
      intro j e
      obtain rfl : j = 64 := by omega
      rw [x26_2]
      simp only [x26_3, x26_5, x26_25, x26_26, ldI_1, I_pI, R_pI, c_pI, n_pI, u_pI, t_pI, l_pI, I_pR, R_pR, c_pR, n_pR, u_pR, t_pR, l_pR, get_s, Option.toList, List.nil_append, List.cons_append, List.length_nil, List.length_cons, gi_B, true_and, and_true, false_and, and_false, not_true_eq_false, not_false_eq_true, true_implies, false_implies, implies_true, Classical.not_not, ite_true, ite_false, Option.some.injEq, Sum.inl.injEq, exists_eq', eq_self, true_or, or_true, false_or, or_false, Nat.reduceEqDiff, Nat.reduceLeDiff, Nat.reduceAdd, Nat.zero_le, one_ne0, if_neg one_ne0', lt_102_103, lt_102_104, lt_102_105, lt_102_106, lt_99_107, lt_100_107, lt_101_107, lt_103_107, lt_104_107, lt_105_107, lt_106_107, lt_98_99, lt_98_100, lt_98_101, lt_98_106, n64, lit_ge, ff]
    | succ m ih =>
      intro j e
      have z1 : vp_in (nI j) 64 := vp_in_nI (by omega) (by omega)
      have z2 : (nI j).toNatClampNeg = j := nI_clamp (by omega)
      have z3 : (nI 64 ≤ nI j) = False := lit_le (N := 64) (by omega) (by omega)
      have nx := ih (j + 1) (by omega)
      rw [x26_2]
      simp only [ff]
      rcases em_ (gi_R h 5 j = none) with w | w
      · have er := of_eq_true w
        simp only [x26_3, x26_5, x26_8, x26_9, x26_12, x26_13, x26_14, x26_17, x26_18, x26_19, x26_22, x26_25, x26_26, inc_1i, inc_1n, inc_1r, ldI_1, ldR_0, I_pI, R_pI, c_pI, n_pI, u_pI, t_pI, l_pI, I_pR, R_pR, c_pR, n_pR, u_pR, t_pR, l_pR, get_s, Option.toList, List.nil_append, List.cons_append, List.length_nil, List.length_cons, gi_B, tg_1 hS, tg_2 hS, tg_3 hS, tg_4 hS, tg_5 hS, tg_6 hS, tg_7 hS, tg_8 hS, tg_9 hS, tg_10 hS, tg_75 hS, tg_79 hS, tg_80 hS, tg_81 hS, tg_82 hS, tg_83 hS, tg_84 hS, tg_85 hS, tg_86 hS, tg_87 hS, tg_88 hS, tg_89 hS, tg_90 hS, tg_91 hS, tg_92 hS, tg_93 hS, tg_94 hS, tg_95 hS, tg_96 hS, tg_97 hS, tg_98 hS, tg_99 hS, tg_100 hS, tg_101 hS, tg_102 hS, tg_103 hS, tg_104 hS, tg_105 hS, tg_106 hS, tg_107 hS, tg_108 hS, ln_2 hS, ln_3 hS, ln_4 hS, ln_5 hS, ln_7 hS, ln_9 hS, ln_10 hS, ln_75 hS, ln_80 hS, ln_81 hS, ln_82 hS, ln_83 hS, ln_84 hS, ln_85 hS, ln_86 hS, ln_87 hS, ln_88 hS, ln_89 hS, ln_90 hS, ln_91 hS, ln_92 hS, ln_93 hS, ln_94 hS, ln_95 hS, ln_96 hS, ln_97 hS, ln_98 hS, ln_99 hS, ln_100 hS, ln_101 hS, ln_102 hS, ln_103 hS, ln_104 hS, ln_105 hS, ln_106 hS, ln_107 hS, ln_108 hS, rf_1_0 hS, rf_1_1 hS, rf_1_2 hS, rf_1_3 hS, rf_1_4 hS, rf_1_5 hS, rf_1_6 hS, rf_6_0 hS, rf_8_1 hS, rf_8_2 hS, rf_79_1 hS, rf_79_2 hS, rf_79_3 hS, rf_79_4 hS, rf_79_5 hS, rf_79_6 hS, rf_79_7 hS, rf_79_8 hS, rf_79_9 hS, rf_79_10 hS, rf_79_11 hS, rf_79_12 hS, rf_79_13 hS, rf_79_14 hS, rf_79_15 hS, rf_79_16 hS, rf_79_17 hS, rf_79_18 hS, rf_79_19 hS, rf_79_20 hS, rf_79_21 hS, rf_79_22 hS, rf_79_24 hS, rf_79_25 hS, rf_79_26 hS, rf_79_27 hS, rf_79_28 hS, rf_79_29 hS, rf_79_30 hS, true_and, and_true, false_and, and_false, not_true_eq_false, not_false_eq_true, true_implies, false_implies, implies_true, Classical.not_not, ite_true, ite_false, Option.some.injEq, Sum.inl.injEq, exists_eq', eq_self, true_or, or_true, false_or, or_false, Nat.reduceEqDiff, Nat.reduceLeDiff, Nat.reduceAdd, Nat.zero_le, one_ne0, if_neg one_ne0', lt_102_103, lt_102_104, lt_102_105, lt_102_106, lt_99_107, lt_100_107, lt_101_107, lt_103_107, lt_104_107, lt_105_107, lt_106_107, lt_98_99, lt_98_100, lt_98_101, lt_98_106, n64, z1, z2, z3, er, nI_i1, Option.isNone_none, cond_true]
        rw [if_neg (show ¬ j = 64 by omega)]
      · obtain ⟨b, er⟩ : ∃ b, gi_R h 5 j = some b := by
          cases q : gi_R h 5 j with
          | none => exact absurd q (of_eq_false w)
          | some b => exact ⟨b, rfl⟩
        simp only [x26_3, x26_5, x26_8, x26_9, x26_12, x26_13, x26_14, x26_17, x26_18, x26_19, x26_22, x26_25, x26_26, inc_1i, inc_1n, inc_1r, ldI_1, ldR_0, I_pI, R_pI, c_pI, n_pI, u_pI, t_pI, l_pI, I_pR, R_pR, c_pR, n_pR, u_pR, t_pR, l_pR, get_s, Option.toList, List.nil_append, List.cons_append, List.length_nil, List.length_cons, gi_B, tg_1 hS, tg_2 hS, tg_3 hS, tg_4 hS, tg_5 hS, tg_6 hS, tg_7 hS, tg_8 hS, tg_9 hS, tg_10 hS, tg_75 hS, tg_79 hS, tg_80 hS, tg_81 hS, tg_82 hS, tg_83 hS, tg_84 hS, tg_85 hS, tg_86 hS, tg_87 hS, tg_88 hS, tg_89 hS, tg_90 hS, tg_91 hS, tg_92 hS, tg_93 hS, tg_94 hS, tg_95 hS, tg_96 hS, tg_97 hS, tg_98 hS, tg_99 hS, tg_100 hS, tg_101 hS, tg_102 hS, tg_103 hS, tg_104 hS, tg_105 hS, tg_106 hS, tg_107 hS, tg_108 hS, ln_2 hS, ln_3 hS, ln_4 hS, ln_5 hS, ln_7 hS, ln_9 hS, ln_10 hS, ln_75 hS, ln_80 hS, ln_81 hS, ln_82 hS, ln_83 hS, ln_84 hS, ln_85 hS, ln_86 hS, ln_87 hS, ln_88 hS, ln_89 hS, ln_90 hS, ln_91 hS, ln_92 hS, ln_93 hS, ln_94 hS, ln_95 hS, ln_96 hS, ln_97 hS, ln_98 hS, ln_99 hS, ln_100 hS, ln_101 hS, ln_102 hS, ln_103 hS, ln_104 hS, ln_105 hS, ln_106 hS, ln_107 hS, ln_108 hS, rf_1_0 hS, rf_1_1 hS, rf_1_2 hS, rf_1_3 hS, rf_1_4 hS, rf_1_5 hS, rf_1_6 hS, rf_6_0 hS, rf_8_1 hS, rf_8_2 hS, rf_79_1 hS, rf_79_2 hS, rf_79_3 hS, rf_79_4 hS, rf_79_5 hS, rf_79_6 hS, rf_79_7 hS, rf_79_8 hS, rf_79_9 hS, rf_79_10 hS, rf_79_11 hS, rf_79_12 hS, rf_79_13 hS, rf_79_14 hS, rf_79_15 hS, rf_79_16 hS, rf_79_17 hS, rf_79_18 hS, rf_79_19 hS, rf_79_20 hS, rf_79_21 hS, rf_79_22 hS, rf_79_24 hS, rf_79_25 hS, rf_79_26 hS, rf_79_27 hS, rf_79_28 hS, rf_79_29 hS, rf_79_30 hS, true_and, and_true, false_and, and_false, not_true_eq_false, not_false_eq_true, true_implies, false_implies, implies_true, Classical.not_not, ite_true, ite_false, Option.some.injEq, Sum.inl.injEq, exists_eq', eq_self, true_or, or_true, false_or, or_false, Nat.reduceEqDiff, Nat.reduceLeDiff, Nat.reduceAdd, Nat.zero_le, one_ne0, if_neg one_ne0', lt_102_103, lt_102_104, lt_102_105, lt_102_106, lt_99_107, lt_100_107, lt_101_107, lt_103_107, lt_104_107, lt_105_107, lt_106_107, lt_98_99, lt_98_100, lt_98_101, lt_98_106, n64, z1, z2, z3, er, so_ne, nI_i1, Option.isNone_some, cond_false]
        exact nx
  have := lp 64 0 rfl
  simp only [x26_0, x26_1, stI_1i, stI_1n, stI_1r, I_pI, R_pI, c_pI, n_pI, u_pI, t_pI, l_pI, I_pR, R_pR, c_pR, n_pR, u_pR, t_pR, l_pR, get_s, Option.toList, List.nil_append, List.cons_append, List.length_nil, List.length_cons, gi_B, true_and, and_true, false_and, and_false, not_true_eq_false, not_false_eq_true, true_implies, false_implies, implies_true, Classical.not_not, ite_true, ite_false, Option.some.injEq, Sum.inl.injEq, exists_eq', eq_self, true_or, or_true, false_or, or_false, Nat.reduceEqDiff, Nat.reduceLeDiff, Nat.reduceAdd, Nat.zero_le, one_ne0, if_neg one_ne0', lt_102_103, lt_102_104, lt_102_105, lt_102_106, lt_99_107, lt_100_107, lt_101_107, lt_103_107, lt_104_107, lt_105_107, lt_106_107, lt_98_99, lt_98_100, lt_98_101, lt_98_106]
  exact this
/-- a heap with a new inode -/
def ni (h : gi_H) (k f u g m : Int32) : gi_H := (fun b => if b = gi_n h then (5, 0) else if b = gi_n h + 1 then (100, 12) else if b = gi_n h + 2 then (106, 32) else gi_c h b, fun b j => if b = gi_n h then (if j = 4 then m else if j = 3 then g else if j = 2 then u else if j = 1 then f else if j = 0 then k else if j = 6 then -1 else 0) else if b = gi_n h + 1 then (if j < 12 then -1 else 0) else if b = gi_n h + 2 then 0 else gi_I h b j, fun b j => if b = gi_n h then (if j = 8 then some (gi_n h + 2) else if j = 7 then some (gi_n h + 1) else none) else if b = gi_n h + 1 then none else if b = gi_n h + 2 then none else gi_R h b j, gi_n h + 3, gi_u h + 55)
theorem c_ni {h : gi_H} {k f u g m : Int32} {b : Nat} : gi_c (ni h k f u g m) b = if b = gi_n h then (5, 0) else if b = gi_n h + 1 then (100, 12) else if b = gi_n h + 2 then (106, 32) else gi_c h b := rfl
theorem I_ni {h : gi_H} {k f u g m : Int32} {b j : Nat} : gi_I (ni h k f u g m) b j = if b = gi_n h then (if j = 4 then m else if j = 3 then g else if j = 2 then u else if j = 1 then f else if j = 0 then k else if j = 6 then -1 else 0) else if b = gi_n h + 1 then (if j < 12 then -1 else 0) else if b = gi_n h + 2 then 0 else gi_I h b j := rfl
theorem R_ni {h : gi_H} {k f u g m : Int32} {b j : Nat} : gi_R (ni h k f u g m) b j = if b = gi_n h then (if j = 8 then some (gi_n h + 2) else if j = 7 then some (gi_n h + 1) else none) else if b = gi_n h + 1 then none else if b = gi_n h + 2 then none else gi_R h b j := rfl
theorem n_ni {h : gi_H} {k f u g m : Int32} : gi_n (ni h k f u g m) = gi_n h + 3 := rfl
theorem u_ni {h : gi_H} {k f u g m : Int32} : gi_u (ni h k f u g m) = gi_u h + 55 := rfl
theorem k12 : ((12 : Int32) < 0) = False := by decide
theorem k12b : (12 : Int32).toNatClampNeg = 12 := by decide
theorem k12c : ((12 : Nat) ≤ 200000) = True := by decide
theorem k12d : ((12 : Nat) < 1000) = True := by decide
theorem c_5 {d : Nat} {k f u g m : Int32} {h : gi_H} {Q : gi_P} : gi_cx (d + 2) 5 [.inr (.inr (some (gi_n h))), .inl k, .inl f, .inl u, .inl g, .inl m] (gi_new h 5 0 11) Q ↔ Q none (ni h k f u g m) := by
  refine gi_cx_iff ?_ Q
  simp only [e5, x5_0, x5_1, x5_4, x5_5, x5_6, x5_9, x5_10, x5_12, x5_14, x5_17, x5_18, x5_20, x5_23, x5_26, x5_27, x5_28, x5_31, x5_32, x5_33, x5_36, x5_37, x5_38, x5_41, x5_42, x5_44, x5_47, x5_48, x5_50, x5_53, x5_54, x5_57, x5_58, x5_61, ldI_1, ldI_2, ldI_3, ldI_4, ldI_5, ldR_0, I_pI, R_pI, c_pI, n_pI, u_pI, t_pI, l_pI, I_pR, R_pR, c_pR, n_pR, u_pR, t_pR, l_pR, get_s, Option.toList, List.nil_append, List.cons_append, List.length_nil, List.length_cons, gi_B, true_and, and_true, false_and, and_false, not_true_eq_false, not_false_eq_true, true_implies, false_implies, implies_true, Classical.not_not, ite_true, ite_false, Option.some.injEq, Sum.inl.injEq, exists_eq', eq_self, true_or, or_true, false_or, or_false, Nat.reduceEqDiff, Nat.reduceLeDiff, Nat.reduceAdd, Nat.zero_le, one_ne0, if_neg one_ne0', lt_102_103, lt_102_104, lt_102_105, lt_102_106, lt_99_107, lt_100_107, lt_101_107, lt_103_107, lt_104_107, lt_105_107, lt_106_107, lt_98_99, lt_98_100, lt_98_101, lt_98_106, I_new, R_new, c_new, n_new, n_pI, n_pR, u_new, t_new, l_new, I_wI, R_wI, c_wI, n_wI, u_wI, t_wI, l_wI, s_n1, s_n2, s_n3, s_n4, s_n5, s_n6, s_n7, k32, k32b, k32c, k12, k12b, k12c, k12d, c_6]
  refine gi_ext (fun x => ?_) (fun x j => ?_) (fun x j => ?_) rfl rfl
  · by_cases e1 : x = gi_n h
    · simp [c_wI, c_pI, c_pR, c_new, n_new, n_pI, n_pR, c_ni, e1, s_n4, s_n7]
    · by_cases e2 : x = gi_n h + 1
      · simp [c_wI, c_pI, c_pR, c_new, n_new, n_pI, n_pR, c_ni, e2]
      · simp [c_wI, c_pI, c_pR, c_new, n_new, n_pI, n_pR, c_ni, e1, e2]
  · by_cases e1 : x = gi_n h
    · simp only [I_wI, I_pI, I_pR, I_new, n_new, n_pI, n_pR, I_ni, e1, s_n2, s_n4, s_n7, false_and, ite_false, ite_true, true_and]
    · by_cases e2 : x = gi_n h + 1
      · simp only [I_wI, I_pI, I_pR, I_new, n_new, n_pI, n_pR, I_ni, e2, s_n1, s_n6, s_n7, false_and, ite_false, ite_true, true_and, eq_self]
      · by_cases e3 : x = gi_n h + 2
        · simp only [I_wI, I_pI, I_pR, I_new, n_new, n_pI, n_pR, I_ni, e3, s_n3, s_n5, s_n7, false_and, ite_false, ite_true, true_and, eq_self]
        · simp [I_wI, I_pI, I_pR, I_new, n_new, n_pI, n_pR, I_ni, e1, e2, e3]
  · by_cases e1 : x = gi_n h
    · simp [R_wI, R_pI, R_pR, R_new, n_new, n_pI, n_pR, R_ni, e1, s_n4, s_n7]
    · by_cases e2 : x = gi_n h + 1
      · simp [R_wI, R_pI, R_pR, R_new, n_new, n_pI, n_pR, R_ni, e2]
      · simp [R_wI, R_pI, R_pR, R_new, n_new, n_pI, n_pR, R_ni, e1, e2]
/-- a heap with a copy of the list at b -/
def cl (h : gi_H) (b : Nat) : gi_H := (fun x => if x = gi_n h then (6, 0) else if x = gi_n h + 1 then (100, 32) else gi_c h x, fun x j => if x = gi_n h then (if j = 3 then gi_I h b 3 else if j = 0 then gi_I h b 0 else if j = 1 then gi_I h b 1 else if j = 2 then gi_I h b 2 else 0) else if x = gi_n h + 1 then (if j < 32 then gi_I h (b + 1) j else 0) else gi_I h x j, fun x j => if x = gi_n h then (if j = 4 then some (gi_n h + 1) else none) else if x = gi_n h + 1 then none else gi_R h x j, gi_n h + 2, gi_u h + 37)
theorem c_cl {h : gi_H} {b x : Nat} : gi_c (cl h b) x = if x = gi_n h then (6, 0) else if x = gi_n h + 1 then (100, 32) else gi_c h x := rfl
theorem I_cl {h : gi_H} {b x j : Nat} : gi_I (cl h b) x j = if x = gi_n h then (if j = 3 then gi_I h b 3 else if j = 0 then gi_I h b 0 else if j = 1 then gi_I h b 1 else if j = 2 then gi_I h b 2 else 0) else if x = gi_n h + 1 then (if j < 32 then gi_I h (b + 1) j else 0) else gi_I h x j := rfl
theorem R_cl {h : gi_H} {b x j : Nat} : gi_R (cl h b) x j = if x = gi_n h then (if j = 4 then some (gi_n h + 1) else none) else if x = gi_n h + 1 then none else gi_R h x j := rfl
theorem n_cl {h : gi_H} {b : Nat} : gi_n (cl h b) = gi_n h + 2 := rfl
theorem u_cl {h : gi_H} {b : Nat} : gi_u (cl h b) = gi_u h + 37 := rfl
theorem t_cl {h : gi_H} {b x : Nat} : gi_tag (cl h b) (some x) = if x = gi_n h then 6 else if x = gi_n h + 1 then 100 else gi_tag h (some x) := by
  rw [tag_s, tag_s, c_cl]; split
  · rfl
  · split <;> rfl
theorem c_35 {d b : Nat} {h : gi_H} {Q : gi_P} (t1 : gi_tag h (some b) = 6) (t2 : gi_tag h (some (b + 1)) = 100) (t3 : gi_len h (some (b + 1)) = 32) (t4 : gi_R h b 4 = some (b + 1)) (l1 : b < gi_n h) (l2 : b + 1 < gi_n h) : gi_cx (d + 3) 35 [.inr (.inr (some b))] h Q ↔ Q (some (.inr (.inr (some (gi_n h))))) (cl h b) := by
  refine gi_cx_iff ?_ Q
  have q1 : (b = gi_n h) = False := eq_false (by omega)
  have q2 : (b = gi_n h + 1) = False := eq_false (by omega)
  have q3 : (b + 1 = gi_n h) = False := eq_false (by omega)
  have q4 : (b + 1 = gi_n h + 1) = False := eq_false (by omega)
  simp only [e35, x35_0, x35_3, x35_4, x35_5, x35_8, x35_9, x35_12, x35_13, x35_16, x35_19, x35_20, x35_21, x35_22, x35_25, x35_28, x35_29, x35_32, x35_33, x35_34, x35_37, x35_38, x35_39, x35_42, x35_43, x35_46, x35_47, ldR_0, ldR_1, stR_1i, stR_1n, stR_1r, I_pI, R_pI, c_pI, n_pI, u_pI, t_pI, l_pI, I_pR, R_pR, c_pR, n_pR, u_pR, t_pR, l_pR, get_s, Option.toList, List.nil_append, List.cons_append, List.length_nil, List.length_cons, gi_B, true_and, and_true, false_and, and_false, not_true_eq_false, not_false_eq_true, true_implies, false_implies, implies_true, Classical.not_not, ite_true, ite_false, Option.some.injEq, Sum.inl.injEq, exists_eq', eq_self, true_or, or_true, false_or, or_false, Nat.reduceEqDiff, Nat.reduceLeDiff, Nat.reduceAdd, Nat.zero_le, one_ne0, if_neg one_ne0', lt_102_103, lt_102_104, lt_102_105, lt_102_106, lt_99_107, lt_100_107, lt_101_107, lt_103_107, lt_104_107, lt_105_107, lt_106_107, lt_98_99, lt_98_100, lt_98_101, lt_98_106, I_new, R_new, c_new, n_new, n_pI, n_pR, u_new, t_new, l_new, I_nl, R_nl, c_nl, n_nl, u_nl, t_nl, l_nl, s_n1, s_n2, s_n7, c_36, t1, t2, t3, t4, q1, q2, q3, q4, gi_acpy]
  refine ⟨by decide, by decide, by decide, by decide, by decide, ?_⟩
  rw [show Int32.toNatClampNeg 0 = 0 from rfl, show (Int32.ofNat 32).toNatClampNeg = 32 from rfl]
  refine gi_ext (fun x => rfl) (fun x j => ?_) (fun x j => rfl) rfl rfl
  have cp : gi_I (gi_cpy (gi_pI (nl h (gi_I h b 0) (gi_I h b 1) (gi_I h b 2)) (gi_n h) 3 (gi_I h b 3)) (b + 1) (gi_n h + 1) 0 0 32) x j = if x = gi_n h + 1 ∧ 0 ≤ j ∧ j < 0 + 32 then gi_I (gi_pI (nl h (gi_I h b 0) (gi_I h b 1) (gi_I h b 2)) (gi_n h) 3 (gi_I h b 3)) (b + 1) (0 + (j - 0)) else gi_I (gi_pI (nl h (gi_I h b 0) (gi_I h b 1) (gi_I h b 2)) (gi_n h) 3 (gi_I h b 3)) x j := rfl
  rw [cp, I_cl]
  by_cases e1 : x = gi_n h
  · rw [if_neg (by omega), if_pos e1, I_pI]
    by_cases e3 : j = 3
    · rw [if_pos ⟨e1, e3⟩, if_pos e3]
    · rw [if_neg (fun z => e3 z.2), if_neg e3, I_nl, if_pos e1]
  · rw [if_neg e1]
    by_cases e2 : x = gi_n h + 1
    · rw [if_pos e2]
      by_cases e3 : j < 32
      · rw [if_pos ⟨e2, by omega, by omega⟩, if_pos e3, I_pI, if_neg (by omega), I_nl, if_neg (by omega), if_neg (by omega)]
        congr 1
        omega
      · rw [if_neg (by omega), if_neg e3, I_pI, if_neg (by omega), I_nl, if_neg e1, if_pos e2, if_neg e3]
    · rw [if_neg (by omega), if_neg e2, I_pI, if_neg (by omega), I_nl, if_neg e1, if_neg e2]
theorem c_34 {d b l : Nat} {h : gi_H} {Q : gi_P} {S : gi_Z} (H : rL h S l (some b)) : gi_cx (d + 2) 34 [.inr (.inr (some b))] h Q ↔ Q (some (.inl ((S 96 l <<< (6 &&& 31)) ||| (al_ S l <<< (3 &&& 31)) ||| S 97 l))) h := by
  obtain ⟨d1, d2, g3, g4, g5, g6, g7, g8, g9, g10, g11⟩ := H.2 b rfl
  have t1 := (rL_t H).1
  refine gi_cx_iff ?_ Q
  simp only [e34, x34_0, x34_1, x34_4, x34_6, x34_7, x34_8, x34_11, x34_12, x34_13, x34_14, x34_15, x34_18, x34_19, ldR_0, I_pI, R_pI, c_pI, n_pI, u_pI, t_pI, l_pI, I_pR, R_pR, c_pR, n_pR, u_pR, t_pR, l_pR, get_s, Option.toList, List.nil_append, List.cons_append, List.length_nil, List.length_cons, gi_B, true_and, and_true, false_and, and_false, not_true_eq_false, not_false_eq_true, true_implies, false_implies, implies_true, Classical.not_not, ite_true, ite_false, Option.some.injEq, Sum.inl.injEq, exists_eq', eq_self, true_or, or_true, false_or, or_false, Nat.reduceEqDiff, Nat.reduceLeDiff, Nat.reduceAdd, Nat.zero_le, one_ne0, if_neg one_ne0', lt_102_103, lt_102_104, lt_102_105, lt_102_106, lt_99_107, lt_100_107, lt_101_107, lt_103_107, lt_104_107, lt_105_107, lt_106_107, lt_98_99, lt_98_100, lt_98_101, lt_98_106, t1, g6, g8, c_18 H]
/-- what is above the nine bits -/
def abv (k m mf : Int32) : Int32 := if k = 2 then (m &&& 512) ||| (mf &&& 1024) else 0
theorem c_33_n {d a b : Nat} {k m ms : Int32} {h : gi_H} {Q : gi_P} (ta : gi_tag h (some a) = 5) (tb : gi_tag h (some b) = 5) (e : gi_R h a 10 = none) (hk : gi_I h b 0 = k) : gi_cx (d + 1) 33 [.inr (.inr (some b)), .inr (.inr (some a)), .inl m, .inl ms] h Q ↔ Q none (gi_pI h b 4 (((m &&& 511) &&& (ms ^^^ -1)) ||| abv k m (gi_I h a 4))) := by
  refine gi_cx_iff ?_ Q
  unfold abv
  rcases em_ (k = 2) with w | w <;> simp only [e33, x33_0, x33_1, x33_4, x33_5, x33_6, x33_7, x33_8, x33_9, x33_11, x33_12, x33_15, x33_17, x33_19, x33_22, x33_23, x33_25, x33_28, x33_29, x33_31, x33_32, x33_34, x33_37, x33_40, x33_41, x33_42, x33_45, x33_46, x33_49, x33_51, x33_54, x33_57, x33_58, x33_61, x33_62, x33_65, x33_66, x33_69, x33_70, x33_73, x33_74, x33_75, x33_78, x33_81, x33_82, x33_83, x33_86, x33_87, x33_89, x33_90, x33_92, x33_94, x33_95, x33_98, ldI_2, ldI_3, ldI_4, ldI_6, ldR_0, ldR_1, ldR_5, stI_4i, stI_4n, stI_4r, stI_6i, stI_6n, stI_6r, stR_5i, stR_5n, stR_5r, I_pI, R_pI, c_pI, n_pI, u_pI, t_pI, l_pI, I_pR, R_pR, c_pR, n_pR, u_pR, t_pR, l_pR, get_s, Option.toList, List.nil_append, List.cons_append, List.length_nil, List.length_cons, gi_B, true_and, and_true, false_and, and_false, not_true_eq_false, not_false_eq_true, true_implies, false_implies, implies_true, Classical.not_not, ite_true, ite_false, Option.some.injEq, Sum.inl.injEq, exists_eq', eq_self, true_or, or_true, false_or, or_false, Nat.reduceEqDiff, Nat.reduceLeDiff, Nat.reduceAdd, Nat.zero_le, one_ne0, if_neg one_ne0', lt_102_103, lt_102_104, lt_102_105, lt_102_106, lt_99_107, lt_100_107, lt_101_107, lt_103_107, lt_104_107, lt_105_107, lt_106_107, lt_98_99, lt_98_100, lt_98_101, lt_98_106, ta, tb, e, hk, w]
theorem c_33_l {d a b r l : Nat} {k m ms : Int32} {h : gi_H} {Q : gi_P} {S : gi_Z} (ta : gi_tag h (some a) = 5) (tb : gi_tag h (some b) = 5) (e : gi_R h a 10 = some r) (hk : gi_I h b 0 = k) (H : rL h S l (some r)) (lr : r + 1 < gi_n h) (la : a < gi_n h) (lb : b < gi_n h) (rb : r ≠ b) : gi_cx (d + 4) 33 [.inr (.inr (some b)), .inr (.inr (some a)), .inl m, .inl ms] h Q ↔ Q none (gi_pI (if k = 2 then gi_pR (cl (gi_pR (cl h r) b 9 (some (gi_n h))) r) b 10 (some (gi_n h + 2)) else gi_pR (gi_pR (cl h r) b 9 (some (gi_n h))) b 10 none) b 4 ((m &&& ((S 96 l <<< (6 &&& 31)) ||| (al_ S l <<< (3 &&& 31)) ||| S 97 l)) ||| abv k m (gi_I h a 4))) := by
  obtain ⟨d1, d2, g3, g4, g5, g6, g7, g8, g9, g10, g11⟩ := H.2 r rfl
  obtain ⟨u1, u2, u3, u4, -⟩ := rL_t H
  refine gi_cx_iff ?_ Q
  have q1 : (b = gi_n h) = False := eq_false (by omega)
  have q2 : (b = gi_n h + 1) = False := eq_false (by omega)
  have q3 : (a = gi_n h) = False := eq_false (by omega)
  have q4 : (a = gi_n h + 1) = False := eq_false (by omega)
  have q5 : (b = gi_n h + 2) = False := eq_false (by omega)
  have q6 : (b = gi_n h + 2 + 1) = False := eq_false (by omega)
  have q7 : (a = gi_n h + 2) = False := eq_false (by omega)
  have q8 : (a = gi_n h + 2 + 1) = False := eq_false (by omega)
  have q9 : (r = gi_n h) = False := eq_false (by omega)
  have q10 : (r = gi_n h + 1) = False := eq_false (by omega)
  have c35 := fun {d : Nat} {Q : gi_P} => c_35 (d := d) (Q := Q) u1 u2 u3 u4 (by omega) lr
  have c35b := fun {d : Nat} {Q : gi_P} => c_35 (d := d) (b := r) (h := gi_pR (cl h r) b 9 (some (gi_n h))) (Q := Q) (by rw [t_pR, t_cl, if_neg (by omega), if_neg (by omega)]; exact u1) (by rw [t_pR, t_cl, if_neg (by omega), if_neg (by omega)]; exact u2) (by rw [l_pR, len_s, c_cl, if_neg (by omega), if_neg (by omega)]; exact u3) (by rw [R_pR, if_neg (by omega), R_cl, if_neg (by omega), if_neg (by omega)]; exact u4) (by rw [n_pR, n_cl]; omega) (by rw [n_pR, n_cl]; omega)
  rw [show gi_n (gi_pR (cl h r) b 9 (some (gi_n h))) = gi_n h + 2 from rfl] at c35b
  unfold abv
  rcases em_ (k = 2) with w | w <;> simp only [e33, x33_0, x33_1, x33_4, x33_5, x33_6, x33_7, x33_8, x33_9, x33_11, x33_12, x33_15, x33_17, x33_19, x33_22, x33_23, x33_25, x33_28, x33_29, x33_31, x33_32, x33_34, x33_37, x33_40, x33_41, x33_42, x33_45, x33_46, x33_49, x33_51, x33_54, x33_57, x33_58, x33_61, x33_62, x33_65, x33_66, x33_69, x33_70, x33_73, x33_74, x33_75, x33_78, x33_81, x33_82, x33_83, x33_86, x33_87, x33_89, x33_90, x33_92, x33_94, x33_95, x33_98, ldI_2, ldI_3, ldI_4, ldI_6, ldR_0, ldR_1, ldR_5, stI_4i, stI_4n, stI_4r, stI_6i, stI_6n, stI_6r, stR_5i, stR_5n, stR_5r, I_pI, R_pI, c_pI, n_pI, u_pI, t_pI, l_pI, I_pR, R_pR, c_pR, n_pR, u_pR, t_pR, l_pR, get_s, Option.toList, List.nil_append, List.cons_append, List.length_nil, List.length_cons, gi_B, true_and, and_true, false_and, and_false, not_true_eq_false, not_false_eq_true, true_implies, false_implies, implies_true, Classical.not_not, ite_true, ite_false, Option.some.injEq, Sum.inl.injEq, exists_eq', eq_self, true_or, or_true, false_or, or_false, Nat.reduceEqDiff, Nat.reduceLeDiff, Nat.reduceAdd, Nat.zero_le, one_ne0, if_neg one_ne0', lt_102_103, lt_102_104, lt_102_105, lt_102_106, lt_99_107, lt_100_107, lt_101_107, lt_103_107, lt_104_107, lt_105_107, lt_106_107, lt_98_99, lt_98_100, lt_98_101, lt_98_106, ta, tb, e, hk, w, so_ne, c_34 H, c35, c35b, I_cl, R_cl, n_cl, u_cl, t_cl, q1, q2, q3, q4, q5, q6, q7, q8, q9, q10, u1]

/-! blocks: given back -/
set_option maxRecDepth 100000

theorem c_45 {d b : Nat} {h : gi_H} {Q : gi_P} (hS : gi_S h) (hb : b < 256) : gi_cx (d + 1) 45 [.inr (.inr (some 6)), .inl (nI b)] h Q ↔ Q none (gi_pR h 7 b none) := by
  refine gi_cx_iff ?_ Q
  have z1 : vp_in (nI b) 256 := vp_in_nI hb (by omega)
  have z2 : (nI b).toNatClampNeg = b := nI_clamp (by omega)
  have z3 : ((256 : Int32) ≤ nI b) = False := lit_le (N := 256) (by omega) hb
  have z4 : (nI b < 0) = False := eq_false (by rw [i32_lt, nI_toInt (by omega), ti_0]; omega)
  simp only [e45, x45_0, x45_1, x45_4, x45_5, x45_8, x45_11, x45_12, x45_15, x45_16, x45_17, x45_18, ldI_1, ldR_0, I_pI, R_pI, c_pI, n_pI, u_pI, t_pI, l_pI, I_pR, R_pR, c_pR, n_pR, u_pR, t_pR, l_pR, get_s, Option.toList, List.nil_append, List.cons_append, List.length_nil, List.length_cons, gi_B, tg_1 hS, tg_2 hS, tg_3 hS, tg_4 hS, tg_5 hS, tg_6 hS, tg_7 hS, tg_8 hS, tg_9 hS, tg_10 hS, tg_75 hS, tg_79 hS, tg_80 hS, tg_81 hS, tg_82 hS, tg_83 hS, tg_84 hS, tg_85 hS, tg_86 hS, tg_87 hS, tg_88 hS, tg_89 hS, tg_90 hS, tg_91 hS, tg_92 hS, tg_93 hS, tg_94 hS, tg_95 hS, tg_96 hS, tg_97 hS, tg_98 hS, tg_99 hS, tg_100 hS, tg_101 hS, tg_102 hS, tg_103 hS, tg_104 hS, tg_105 hS, tg_106 hS, tg_107 hS, tg_108 hS, ln_2 hS, ln_3 hS, ln_4 hS, ln_5 hS, ln_7 hS, ln_9 hS, ln_10 hS, ln_75 hS, ln_80 hS, ln_81 hS, ln_82 hS, ln_83 hS, ln_84 hS, ln_85 hS, ln_86 hS, ln_87 hS, ln_88 hS, ln_89 hS, ln_90 hS, ln_91 hS, ln_92 hS, ln_93 hS, ln_94 hS, ln_95 hS, ln_96 hS, ln_97 hS, ln_98 hS, ln_99 hS, ln_100 hS, ln_101 hS, ln_102 hS, ln_103 hS, ln_104 hS, ln_105 hS, ln_106 hS, ln_107 hS, ln_108 hS, rf_1_0 hS, rf_1_1 hS, rf_1_2 hS, rf_1_3 hS, rf_1_4 hS, rf_1_5 hS, rf_1_6 hS, rf_6_0 hS, rf_8_1 hS, rf_8_2 hS, rf_79_1 hS, rf_79_2 hS, rf_79_3 hS, rf_79_4 hS, rf_79_5 hS, rf_79_6 hS, rf_79_7 hS, rf_79_8 hS, rf_79_9 hS, rf_79_10 hS, rf_79_11 hS, rf_79_12 hS, rf_79_13 hS, rf_79_14 hS, rf_79_15 hS, rf_79_16 hS, rf_79_17 hS, rf_79_18 hS, rf_79_19 hS, rf_79_20 hS, rf_79_21 hS, rf_79_22 hS, rf_79_24 hS, rf_79_25 hS, rf_79_26 hS, rf_79_27 hS, rf_79_28 hS, rf_79_29 hS, rf_79_30 hS, true_and, and_true, false_and, and_false, not_true_eq_false, not_false_eq_true, true_implies, false_implies, implies_true, Classical.not_not, ite_true, ite_false, Option.some.injEq, Sum.inl.injEq, exists_eq', eq_self, true_or, or_true, false_or, or_false, Nat.reduceEqDiff, Nat.reduceLeDiff, Nat.reduceAdd, Nat.zero_le, one_ne0, if_neg one_ne0', lt_102_103, lt_102_104, lt_102_105, lt_102_106, lt_99_107, lt_100_107, lt_101_107, lt_103_107, lt_104_107, lt_105_107, lt_106_107, lt_98_99, lt_98_100, lt_98_101, lt_98_106, z1, z2, z3, z4]
theorem c_45n {d : Nat} {h : gi_H} {Q : gi_P} : gi_cx (d + 1) 45 [.inr (.inr (some 6)), .inl (-1)] h Q ↔ Q none h := by
  refine gi_cx_iff ?_ Q
  have z4 : ((-1 : Int32) < 0) = True := by decide
  simp only [e45, x45_0, x45_1, x45_4, x45_5, x45_8, x45_11, x45_12, x45_15, x45_16, x45_17, x45_18, ldI_1, ldR_0, I_pI, R_pI, c_pI, n_pI, u_pI, t_pI, l_pI, I_pR, R_pR, c_pR, n_pR, u_pR, t_pR, l_pR, get_s, Option.toList, List.nil_append, List.cons_append, List.length_nil, List.length_cons, gi_B, true_and, and_true, false_and, and_false, not_true_eq_false, not_false_eq_true, true_implies, false_implies, implies_true, Classical.not_not, ite_true, ite_false, Option.some.injEq, Sum.inl.injEq, exists_eq', eq_self, true_or, or_true, false_or, or_false, Nat.reduceEqDiff, Nat.reduceLeDiff, Nat.reduceAdd, Nat.zero_le, one_ne0, if_neg one_ne0', lt_102_103, lt_102_104, lt_102_105, lt_102_106, lt_99_107, lt_100_107, lt_101_107, lt_103_107, lt_104_107, lt_105_107, lt_106_107, lt_98_99, lt_98_100, lt_98_101, lt_98_106, z4]
/-- whether block y is one of the inode's parts p .. p + m - 1 -/
def hs (S : gi_Z) (n y p : Nat) : Nat → Bool
  | 0 => false
  | m + 1 => hs S n y p m || decide (y < 256 ∧ S 89 (12 * n + (p + m)) = nI y)
theorem hs_e {S : gi_Z} {n y p : Nat} : ∀ m, hs S n y p m = true ↔ ∃ q, p ≤ q ∧ q < p + m ∧ y < 256 ∧ S 89 (12 * n + q) = nI y
  | 0 => by
    simp only [hs]
    exact ⟨fun e => (by cases e), fun ⟨q, h1, h2, _⟩ => by omega⟩
  | m + 1 => by
    simp only [hs, Bool.or_eq_true, hs_e m, decide_eq_true_iff]
    constructor
    · rintro (⟨q, h1, h2, h3, h4⟩ | ⟨h3, h4⟩)
      · exact ⟨q, h1, by omega, h3, h4⟩
      · exact ⟨p + m, by omega, by omega, h3, h4⟩
    · rintro ⟨q, h1, h2, h3, h4⟩
      by_cases e : q = p + m
      · subst e; exact Or.inr ⟨h3, h4⟩
      · exact Or.inl ⟨q, h1, by omega, h3, h4⟩
/-- how many of the parts p .. p + m - 1 are there -/
def cs (S : gi_Z) (n p : Nat) : Nat → Nat
  | 0 => 0
  | m + 1 => cs S n p m + (if S 89 (12 * n + (p + m)) = -1 then 0 else 1)
theorem cs_le {S : gi_Z} {n p : Nat} : ∀ m, cs S n p m ≤ m
  | 0 => Nat.le_refl _
  | m + 1 => by
    have := cs_le (S := S) (n := n) (p := p) m
    simp only [cs]
    split <;> omega
def cutH (h : gi_H) (a n p m : Nat) : gi_H := (h.1, fun b k => if b = a + 1 ∧ p ≤ k ∧ k < p + m then -1 else gi_I h b k, fun b y => if b = 7 ∧ hs (gi_I h) n y p m = true then none else gi_R h b y, h.2.2.2.1, h.2.2.2.2)
theorem I_cut {h : gi_H} {a n p m b k : Nat} : gi_I (cutH h a n p m) b k = if b = a + 1 ∧ p ≤ k ∧ k < p + m then -1 else gi_I h b k := rfl
theorem R_cut {h : gi_H} {a n p m b y : Nat} : gi_R (cutH h a n p m) b y = if b = 7 ∧ hs (gi_I h) n y p m = true then none else gi_R h b y := rfl
theorem c_cut {h : gi_H} {a n p m b : Nat} : gi_c (cutH h a n p m) b = gi_c h b := rfl
theorem t_cut {h : gi_H} {a n p m : Nat} {x : Option Nat} : gi_tag (cutH h a n p m) x = gi_tag h x := rfl
theorem l_cut {h : gi_H} {a n p m : Nat} {x : Option Nat} : gi_len (cutH h a n p m) x = gi_len h x := rfl
theorem S_cut {h : gi_H} {a n p m : Nat} (hS : gi_S h) : gi_S (cutH h a n p m) := by
  refine ⟨hS.1, hS.2.1, fun e he => ?_, fun q hq => ⟨(hS.2.2.2 q hq).1, ?_⟩⟩
  · have z : ∀ e ∈ gi_rs, e.1 ≠ 7 := by decide
    rw [R_cut, if_neg (fun w => z e he w.1)]
    exact hS.2.2.1 e he
  · rw [R_cut, if_neg (by omega)]
    exact (hS.2.2.2 q hq).2
theorem cut_0 {h : gi_H} {a n p : Nat} : cutH h a n p 0 = h := by
  refine gi_ext (fun _ => rfl) (fun b k => ?_) (fun b y => ?_) rfl rfl
  · rw [I_cut, if_neg (by omega)]
  · rw [R_cut, if_neg (fun w => by cases w.2)]
theorem cut_s1 {h : gi_H} {a n p m : Nat} (e1 : gi_I h (a + 1) (p + m) = -1) (e2 : gi_I h 89 (12 * n + (p + m)) = -1) : cutH h a n p (m + 1) = cutH h a n p m := by
  refine gi_ext (fun _ => rfl) (fun b k => ?_) (fun b y => ?_) rfl rfl
  · rw [I_cut, I_cut]
    by_cases w : b = a + 1 ∧ p ≤ k ∧ k < p + m
    · rw [if_pos w, if_pos (by omega)]
    · rw [if_neg w]
      by_cases w2 : b = a + 1 ∧ p ≤ k ∧ k < p + (m + 1)
      · rw [if_pos w2, w2.1, show k = p + m by omega, e1]
      · rw [if_neg w2]
  · rw [R_cut, R_cut]
    have : hs (gi_I h) n y p (m + 1) = hs (gi_I h) n y p m := by
      simp only [hs, e2]
      rw [decide_eq_false, Bool.or_false]
      rintro ⟨w1, w2⟩
      have := congrArg Int32.toInt w2
      rw [nI_toInt (by omega), ti_m1] at this
      omega
    rw [this]
theorem cut_s2 {h : gi_H} {a n p m q : Nat} (hq : q < 256) (e2 : gi_I h 89 (12 * n + (p + m)) = nI q) : gi_pI (gi_pR (cutH h a n p m) 7 q none) (a + 1) (p + m) (-1) = cutH h a n p (m + 1) := by
  refine gi_ext (fun _ => rfl) (fun b k => ?_) (fun b y => ?_) rfl rfl
  · rw [I_pI, I_pR, I_cut, I_cut]
    by_cases w2 : b = a + 1 ∧ k = p + m
    · rw [if_pos w2, if_pos (by omega)]
    · rw [if_neg w2]
      by_cases w : b = a + 1 ∧ p ≤ k ∧ k < p + m
      · rw [if_pos w, if_pos (by omega)]
      · rw [if_neg w, if_neg (by omega)]
  · rw [R_pI, R_pR, R_cut, R_cut]
    have e : hs (gi_I h) n y p (m + 1) = (hs (gi_I h) n y p m || decide (y = q)) := by
      simp only [hs, e2]
      congr 1
      by_cases w : y = q
      · subst w; simp [hq]
      · rw [decide_eq_false w]
        refine decide_eq_false ?_
        rintro ⟨w1, w2⟩
        exact w ((nI_eq (by omega) (by omega)).mp w2).symm
    rw [e]
    by_cases w : b = 7 ∧ y = q
    · rw [if_pos w, if_pos ⟨w.1, by rw [decide_eq_true w.2, Bool.or_true]⟩]
    · rw [if_neg w]
      by_cases w3 : b = 7
      · rw [decide_eq_false (fun z => w ⟨w3, z⟩), Bool.or_false]
      · rw [if_neg (fun z => w3 z.1), if_neg (fun z => w3 z.1)]
theorem lp_60a {d n a z p : Nat} {h : gi_H} {Q : gi_P} (hS : gi_S h) (hN : rN h (gi_I h) n a) (sn : sN (gi_I h)) (hn : n < 64) : ∀ m j, p + j + m = 12 → gi_ex (gi_cx (d + 1)) 60 Q 67 [some (.inr (.inr (some 1))), some (.inl (nI n)), some (.inr (.inr (some a))), some (.inl (nI z)), some (.inl (nI (cs (gi_I h) n p (j + m)))), some (.inl (nI p)), some (.inl (nI (p + (j + m))))] [] (cutH h a n p (j + m)) → gi_ex (gi_cx (d + 1)) 60 Q 18 [some (.inr (.inr (some 1))), some (.inl (nI n)), some (.inr (.inr (some a))), some (.inl (nI z)), some (.inl (nI (cs (gi_I h) n p j))), some (.inl (nI p)), some (.inl (nI (p + j)))] [] (cutH h a n p j) := by
  obtain ⟨t0, t1, t2, t3, t4⟩ := rN_t hN
  obtain ⟨d1, d2, d3, c1, c2, c3, f7, f8, k0, k1, k2, k3, k4, k5, k6, kp, kl, kf, kt⟩ := id hN
  intro m
  induction m with
  | zero =>
    intro j e h0
    rw [x60_18]
    rw [show p + j = 12 by omega] 
    simp only [x60_20, x60_22, ldI_6, I_pI, R_pI, c_pI, n_pI, u_pI, t_pI, l_pI, I_pR, R_pR, c_pR, n_pR, u_pR, t_pR, l_pR, get_s, Option.toList, List.nil_append, List.cons_append, List.length_nil, List.length_cons, gi_B, true_and, and_true, false_and, and_false, not_true_eq_false, not_false_eq_true, true_implies, false_implies, implies_true, Classical.not_not, ite_true, ite_false, Option.some.injEq, Sum.inl.injEq, exists_eq', eq_self, true_or, or_true, false_or, or_false, Nat.reduceEqDiff, Nat.reduceLeDiff, Nat.reduceAdd, Nat.zero_le, one_ne0, if_neg one_ne0', lt_102_103, lt_102_104, lt_102_105, lt_102_106, lt_99_107, lt_100_107, lt_101_107, lt_103_107, lt_104_107, lt_105_107, lt_106_107, lt_98_99, lt_98_100, lt_98_101, lt_98_106, n12, lit_ge]
    rw [show p + (j + 0) = 12 by omega] at h0
    exact h0
  | succ m ih =>
    intro j e h0
    have z1 : vp_in (nI (p + j)) 12 := vp_in_nI (by omega) (by omega)
    have z2 : (nI (p + j)).toNatClampNeg = p + j := nI_clamp (by omega)
    have z3 : ((12 : Int32) ≤ nI (p + j)) = False := lit_le (N := 12) (by omega) (by omega)
    have nx := ih (j + 1) (by omega) (by rw [show j + 1 + m = j + (m + 1) by omega]; exact h0)
    have hk := kp (p + j) (by omega)
    have g9 := ((sn.2 n hn).2.2.2.2.2.2.2.2 (p + j) (by omega)).1
    have hSj : gi_S (cutH h a n p j) := S_cut hS
    have rd : gi_I (cutH h a n p j) (a + 1) (p + j) = gi_I h 89 (12 * n + (p + j)) := by rw [I_cut, if_neg (by omega)]; exact hk
    have r7 : gi_R (cutH h a n p j) a 7 = some (a + 1) := by rw [R_cut, if_neg (by unfold dy at d1; omega)]; exact f7
    have n7 : (a = 7) = False := eq_false (by unfold dy at d1; omega)
    rw [x60_18]
    rcases em_ (gi_I h 89 (12 * n + (p + j)) = -1) with w | w
    · rw [cut_s1 (by rw [hk]; exact of_eq_true w) (of_eq_true w), show p + (j + 1) = p + j + 1 from rfl] at nx
      simp only [cs] at nx
      rw [if_pos (of_eq_true w), Nat.add_zero] at nx
      simp only [x60_20, x60_22, x60_25, x60_26, x60_29, x60_31, x60_32, x60_33, x60_36, x60_37, x60_40, x60_41, x60_44, x60_46, x60_47, x60_50, x60_51, x60_54, x60_56, x60_57, x60_58, x60_61, x60_64, inc_4i, inc_4n, inc_4r, inc_6i, inc_6n, inc_6r, ldI_6, ldR_0, ldR_2, I_pI, R_pI, c_pI, n_pI, u_pI, t_pI, l_pI, I_pR, R_pR, c_pR, n_pR, u_pR, t_pR, l_pR, get_s, Option.toList, List.nil_append, List.cons_append, List.length_nil, List.length_cons, gi_B, true_and, and_true, false_and, and_false, not_true_eq_false, not_false_eq_true, true_implies, false_implies, implies_true, Classical.not_not, ite_true, ite_false, Option.some.injEq, Sum.inl.injEq, exists_eq', eq_self, true_or, or_true, false_or, or_false, Nat.reduceEqDiff, Nat.reduceLeDiff, Nat.reduceAdd, Nat.zero_le, one_ne0, if_neg one_ne0', lt_102_103, lt_102_104, lt_102_105, lt_102_106, lt_99_107, lt_100_107, lt_101_107, lt_103_107, lt_104_107, lt_105_107, lt_106_107, lt_98_99, lt_98_100, lt_98_101, lt_98_106, t_cut, l_cut, t0, t1, t2, r7, rd, z1, z2, z3, w, nI_i1]
      exact nx
    · obtain ⟨q, hq, eq⟩ : ∃ q, q < 256 ∧ gi_I h 89 (12 * n + (p + j)) = nI q := by
        have w' := of_eq_false w
        rw [i32_eq, ti_m1] at w'
        obtain ⟨q, hq, eq⟩ := nI_of (x := gi_I h 89 (12 * n + (p + j))) (by rw [i32_lt, ti_0]; omega)
        rw [eq, nI_toInt hq] at g9
        exact ⟨q, by omega, eq⟩
      rw [← cut_s2 hq eq, show p + (j + 1) = p + j + 1 from rfl] at nx
      simp only [cs] at nx
      rw [if_neg (of_eq_false w)] at nx
      have rd2 : gi_I (gi_pR (cutH h a n p j) 7 q none) (a + 1) (p + j) = nI q := by rw [I_pR, rd, eq]
      rw [eq] at w rd
      simp only [x60_20, x60_22, x60_25, x60_26, x60_29, x60_31, x60_32, x60_33, x60_36, x60_37, x60_40, x60_41, x60_44, x60_46, x60_47, x60_50, x60_51, x60_54, x60_56, x60_57, x60_58, x60_61, x60_64, inc_4i, inc_4n, inc_4r, inc_6i, inc_6n, inc_6r, ldI_6, ldR_0, ldR_2, I_pI, R_pI, c_pI, n_pI, u_pI, t_pI, l_pI, I_pR, R_pR, c_pR, n_pR, u_pR, t_pR, l_pR, get_s, Option.toList, List.nil_append, List.cons_append, List.length_nil, List.length_cons, gi_B, true_and, and_true, false_and, and_false, not_true_eq_false, not_false_eq_true, true_implies, false_implies, implies_true, Classical.not_not, ite_true, ite_false, Option.some.injEq, Sum.inl.injEq, exists_eq', eq_self, true_or, or_true, false_or, or_false, Nat.reduceEqDiff, Nat.reduceLeDiff, Nat.reduceAdd, Nat.zero_le, one_ne0, if_neg one_ne0', lt_102_103, lt_102_104, lt_102_105, lt_102_106, lt_99_107, lt_100_107, lt_101_107, lt_103_107, lt_104_107, lt_105_107, lt_106_107, lt_98_99, lt_98_100, lt_98_101, lt_98_106, tg_1 hSj, tg_6 hSj, rf_1_4 hSj, t_cut, l_cut, t0, t1, t2, r7, n7, rd, z1, z2, z3, w, c_45 hSj hq, nI_i1]
      exact nx

/-! put: its pieces -/
set_option maxRecDepth 100000

/-- a heap with a new attribute -/
def na (h : gi_H) (m : Nat) : gi_H := (fun b => if b = gi_n h then (7, 0) else if b = gi_n h + 1 then (101, m) else gi_c h b, fun b j => if b = gi_n h then 0 else if b = gi_n h + 1 then (if j < m then gi_I h 75 j else 0) else gi_I h b j, fun b j => if b = gi_n h then (if j = 0 then some (gi_n h + 1) else none) else if b = gi_n h + 1 then none else gi_R h b j, gi_n h + 2, gi_u h + 1 + m)
theorem c_na {h : gi_H} {m b : Nat} : gi_c (na h m) b = if b = gi_n h then (7, 0) else if b = gi_n h + 1 then (101, m) else gi_c h b := rfl
theorem I_na {h : gi_H} {m b j : Nat} : gi_I (na h m) b j = if b = gi_n h then 0 else if b = gi_n h + 1 then (if j < m then gi_I h 75 j else 0) else gi_I h b j := rfl
theorem R_na {h : gi_H} {m b j : Nat} : gi_R (na h m) b j = if b = gi_n h then (if j = 0 then some (gi_n h + 1) else none) else if b = gi_n h + 1 then none else gi_R h b j := rfl
theorem n_na {h : gi_H} {m : Nat} : gi_n (na h m) = gi_n h + 2 := rfl
theorem u_na {h : gi_H} {m : Nat} : gi_u (na h m) = gi_u h + 1 + m := rfl
theorem ext_na {h : gi_H} {m : Nat} : ext h (na h m) := by
  refine ⟨by rw [n_na]; omega, fun x hx => ⟨?_, fun y => ?_, fun y => ?_⟩⟩
  · rw [c_na, if_neg (by omega), if_neg (by omega)]
  · rw [I_na, if_neg (by omega), if_neg (by omega)]
  · rw [R_na, if_neg (by omega), if_neg (by omega)]
theorem e78 {d : Nat} {x : Option Nat} {n : Int32} {h : gi_H} {Q : gi_P} : gi_cx (d + 1) 78 [.inr (.inr x), .inl n] h Q = (gi_tag h x = 101 ∧ ¬ n < 0 ∧ n.toNatClampNeg ≤ gi_len h x ∧ gi_len h x ≤ 200000 ∧ (∀ i, i < gi_len h x → fits .byte (.int (gi_I h (x.getD 0) i)) = true) ∧ Q (some (.inr (.inr (some (gi_n h))))) (gi_cpy (gi_new h 101 n.toNatClampNeg n.toNatClampNeg) (x.getD 0) (gi_n h) 0 0 n.toNatClampNeg)) := gi_cx_eq1 rfl _ _ _
theorem c_77 {d m : Nat} {h : gi_H} {Q : gi_P} (hS : gi_S h) (hm : m ≤ 60) (hf : ∀ i, i < 60 → fits .byte (.int (gi_I h 75 i)) = true) : gi_cx (d + 2) 77 [.inr (.inr (some (gi_n h))), .inr (.inr (some 75)), .inl (nI m)] (gi_new h 7 0 1) Q ↔ Q none (na h m) := by
  refine gi_cx_iff ?_ Q
  have h109 := hS.1
  have q1 : (75 = gi_n h) = False := eq_false (by omega)
  have q2 : (nI m < 0) = False := eq_false (by rw [i32_lt, nI_toInt (by omega), ti_0]; omega)
  have q3 : (nI m).toNatClampNeg = m := nI_clamp (by omega)
  have q4 : (m ≤ 60) = True := eq_true hm
  have q5 : ((60 : Nat) ≤ 200000) = True := by decide
  have tc : ∀ x, gi_tag (gi_cpy (gi_new (gi_new h 7 0 1) 101 m m) 75 (gi_n h + 1) 0 0 m) x = gi_tag (gi_new (gi_new h 7 0 1) 101 m m) x := fun _ => rfl
  have ff' : (∀ i, i < 60 → fits .byte (.int (gi_I (gi_new h 7 0 1) 75 i)) = true) = True := eq_true (fun i hi => by rw [I_new, if_neg (by omega)]; exact hf i hi)
  simp only [e77, x77_0, x77_1, x77_4, x77_5, x77_6, x77_7, x77_10, x77_13, ldI_2, ldR_0, ldR_1, I_pI, R_pI, c_pI, n_pI, u_pI, t_pI, l_pI, I_pR, R_pR, c_pR, n_pR, u_pR, t_pR, l_pR, get_s, Option.toList, List.nil_append, List.cons_append, List.length_nil, List.length_cons, gi_B, true_and, and_true, false_and, and_false, not_true_eq_false, not_false_eq_true, true_implies, false_implies, implies_true, Classical.not_not, ite_true, ite_false, Option.some.injEq, Sum.inl.injEq, exists_eq', eq_self, true_or, or_true, false_or, or_false, Nat.reduceEqDiff, Nat.reduceLeDiff, Nat.reduceAdd, Nat.zero_le, one_ne0, if_neg one_ne0', lt_102_103, lt_102_104, lt_102_105, lt_102_106, lt_99_107, lt_100_107, lt_101_107, lt_103_107, lt_104_107, lt_105_107, lt_106_107, lt_98_99, lt_98_100, lt_98_101, lt_98_106, e78, t_new, l_new, q1, tg_75 hS, ln_75 hS, q2, q3, q4, q5, n_new, ff', Option.getD_some, tc, s_n1, s_n2]
  refine gi_ext (fun x => ?_) (fun x j => ?_) (fun x j => ?_) rfl rfl
  · show gi_c (gi_new (gi_new h 7 0 1) 101 m m) x = _
    rw [c_new, c_new, n_new, c_na]
    by_cases e1 : x = gi_n h
    · rw [if_neg (by omega), if_pos e1, if_pos e1]
    · by_cases e2 : x = gi_n h + 1
      · rw [if_pos e2, if_neg e1, if_pos e2]
      · rw [if_neg e2, if_neg e1, if_neg e1, if_neg e2]
  · show gi_I (gi_cpy (gi_new (gi_new h 7 0 1) 101 m m) 75 (gi_n h + 1) 0 0 m) x j = _
    have cp : gi_I (gi_cpy (gi_new (gi_new h 7 0 1) 101 m m) 75 (gi_n h + 1) 0 0 m) x j = if x = gi_n h + 1 ∧ 0 ≤ j ∧ j < 0 + m then gi_I (gi_new (gi_new h 7 0 1) 101 m m) 75 (0 + (j - 0)) else gi_I (gi_new (gi_new h 7 0 1) 101 m m) x j := rfl
    rw [cp, I_na]
    by_cases e1 : x = gi_n h
    · rw [if_neg (by omega), if_pos e1, I_new, n_new, if_neg (by omega), I_new, if_pos e1]
    · rw [if_neg e1]
      by_cases e2 : x = gi_n h + 1
      · rw [if_pos e2]
        by_cases e3 : j < m
        · rw [if_pos ⟨e2, by omega, by omega⟩, if_pos e3, I_new, n_new, if_neg (by omega), I_new, if_neg (by omega)]
          congr 1
          omega
        · rw [if_neg (by omega), if_neg e3, I_new, n_new, if_pos e2]
      · rw [if_neg (by omega), if_neg e2, I_new, n_new, if_neg e2, I_new, if_neg e1]
  · show gi_R (gi_pR (gi_new (gi_new h 7 0 1) 101 m m) (gi_n h) 0 (some (gi_n h + 1))) x j = _
    rw [R_pR, R_new, R_new, n_new, R_na]
    by_cases e1 : x = gi_n h
    · by_cases e3 : j = 0
      · rw [if_pos ⟨e1, e3⟩, if_pos e1, if_pos e3]
      · rw [if_neg (by omega), if_neg (by omega), if_pos e1, if_pos e1, if_neg e3]
    · by_cases e2 : x = gi_n h + 1
      · rw [if_neg (by omega), if_pos e2, if_neg e1, if_pos e2]
      · rw [if_neg (by omega), if_neg e2, if_neg e1, if_neg e1, if_neg e2]
/-- a heap with a new block in place q -/
def nbk (h : gi_H) (q : Nat) : gi_H := (fun b => if b = gi_n h then (8, 0) else if b = gi_n h + 1 then (101, 64) else gi_c h b, fun b j => if b = gi_n h then 0 else if b = gi_n h + 1 then 0 else gi_I h b j, fun b j => if b = 7 ∧ j = q then some (gi_n h) else if b = gi_n h then (if j = 0 then some (gi_n h + 1) else none) else if b = gi_n h + 1 then none else gi_R h b j, gi_n h + 2, gi_u h + 65)
theorem c_nbk {h : gi_H} {q b : Nat} : gi_c (nbk h q) b = if b = gi_n h then (8, 0) else if b = gi_n h + 1 then (101, 64) else gi_c h b := rfl
theorem I_nbk {h : gi_H} {q b j : Nat} : gi_I (nbk h q) b j = if b = gi_n h then 0 else if b = gi_n h + 1 then 0 else gi_I h b j := rfl
theorem R_nbk {h : gi_H} {q b j : Nat} : gi_R (nbk h q) b j = if b = 7 ∧ j = q then some (gi_n h) else if b = gi_n h then (if j = 0 then some (gi_n h + 1) else none) else if b = gi_n h + 1 then none else gi_R h b j := rfl
theorem n_nbk {h : gi_H} {q : Nat} : gi_n (nbk h q) = gi_n h + 2 := rfl
theorem u_nbk {h : gi_H} {q : Nat} : gi_u (nbk h q) = gi_u h + 65 := rfl
theorem k64a : ((64 : Int32) < 0) = False := by decide
theorem k64b : (64 : Int32).toNatClampNeg = 64 := by decide
theorem k64c : ((64 : Nat) ≤ 200000) = True := by decide
theorem c_52 {d b : Nat} {h : gi_H} {Q : gi_P} (hS : gi_S h) (hb : b < 256) (eb : ff (fun q => (gi_R h 7 q).isNone) 0 256 = b) : gi_cx (d + 2) 52 [.inr (.inr (some 6))] h Q ↔ Q (some (.inl (nI b))) (nbk h b) := by
  refine gi_cx_iff ?_ Q
  have h109 := hS.1
  rw [e52]
  have lp : ∀ m j, j + m = 256 → ff (fun q => (gi_R h 7 q).isNone) j m = b → gi_ex (gi_cx (d + 1)) 52 (fun r1 h1 => r1 = some (.inl (nI b)) ∧ h1 = nbk h b) 2 [some (.inr (.inr (some 6))), some (.inl (nI j))] [] h := by
    intro m
    induction m with
    | zero =>
      intro j e e2
      simp only [ff] at e2
      omega
    | succ m ih =>
      intro j e e2
      have z1 : vp_in (nI j) 256 := vp_in_nI (by omega) (by omega)
      have z2 : (nI j).toNatClampNeg = j := nI_clamp (by omega)
      have z3 : ((256 : Int32) ≤ nI j) = False := lit_le (N := 256) (by omega) (by omega)
      simp only [ff] at e2
      rw [x52_2]
      rcases em_ (gi_R h 7 j = none) with w | w
      · have er := of_eq_true w
        rw [er] at e2
        simp only [Option.isNone_none, cond_true] at e2
        subst e2
        have q6 : (6 = gi_n h) = False := eq_false (by omega)
        have q7 : (7 = gi_n h) = False := eq_false (by omega)
        have q61 : (6 = gi_n h + 1) = False := eq_false (by omega)
        have q71 : (7 = gi_n h + 1) = False := eq_false (by omega)
        have t0 : gi_tag (gi_new h 8 0 1) (some (gi_n h)) = 8 := by rw [t_new, if_pos rfl]
        have cmp : (gi_comp.getD (104 - 100) 50 = 7) = True := by decide
        simp only [x52_3, x52_6, x52_9, x52_10, x52_13, x52_14, x52_15, x52_18, x52_19, x52_22, x52_23, x52_26, x52_27, x52_30, x52_31, x52_32, x52_33, x52_36, x52_39, x52_40, inc_1i, inc_1n, inc_1r, ldI_1, ldR_0, I_pI, R_pI, c_pI, n_pI, u_pI, t_pI, l_pI, I_pR, R_pR, c_pR, n_pR, u_pR, t_pR, l_pR, get_s, Option.toList, List.nil_append, List.cons_append, List.length_nil, List.length_cons, gi_B, true_and, and_true, false_and, and_false, not_true_eq_false, not_false_eq_true, true_implies, false_implies, implies_true, Classical.not_not, ite_true, ite_false, Option.some.injEq, Sum.inl.injEq, exists_eq', eq_self, true_or, or_true, false_or, or_false, Nat.reduceEqDiff, Nat.reduceLeDiff, Nat.reduceAdd, Nat.zero_le, one_ne0, if_neg one_ne0', lt_102_103, lt_102_104, lt_102_105, lt_102_106, lt_99_107, lt_100_107, lt_101_107, lt_103_107, lt_104_107, lt_105_107, lt_106_107, lt_98_99, lt_98_100, lt_98_101, lt_98_106, tg_1 hS, tg_2 hS, tg_3 hS, tg_4 hS, tg_5 hS, tg_6 hS, tg_7 hS, tg_8 hS, tg_9 hS, tg_10 hS, tg_75 hS, tg_79 hS, tg_80 hS, tg_81 hS, tg_82 hS, tg_83 hS, tg_84 hS, tg_85 hS, tg_86 hS, tg_87 hS, tg_88 hS, tg_89 hS, tg_90 hS, tg_91 hS, tg_92 hS, tg_93 hS, tg_94 hS, tg_95 hS, tg_96 hS, tg_97 hS, tg_98 hS, tg_99 hS, tg_100 hS, tg_101 hS, tg_102 hS, tg_103 hS, tg_104 hS, tg_105 hS, tg_106 hS, tg_107 hS, tg_108 hS, ln_2 hS, ln_3 hS, ln_4 hS, ln_5 hS, ln_7 hS, ln_9 hS, ln_10 hS, ln_75 hS, ln_80 hS, ln_81 hS, ln_82 hS, ln_83 hS, ln_84 hS, ln_85 hS, ln_86 hS, ln_87 hS, ln_88 hS, ln_89 hS, ln_90 hS, ln_91 hS, ln_92 hS, ln_93 hS, ln_94 hS, ln_95 hS, ln_96 hS, ln_97 hS, ln_98 hS, ln_99 hS, ln_100 hS, ln_101 hS, ln_102 hS, ln_103 hS, ln_104 hS, ln_105 hS, ln_106 hS, ln_107 hS, ln_108 hS, rf_1_0 hS, rf_1_1 hS, rf_1_2 hS, rf_1_3 hS, rf_1_4 hS, rf_1_5 hS, rf_1_6 hS, rf_6_0 hS, rf_8_1 hS, rf_8_2 hS, rf_79_1 hS, rf_79_2 hS, rf_79_3 hS, rf_79_4 hS, rf_79_5 hS, rf_79_6 hS, rf_79_7 hS, rf_79_8 hS, rf_79_9 hS, rf_79_10 hS, rf_79_11 hS, rf_79_12 hS, rf_79_13 hS, rf_79_14 hS, rf_79_15 hS, rf_79_16 hS, rf_79_17 hS, rf_79_18 hS, rf_79_19 hS, rf_79_20 hS, rf_79_21 hS, rf_79_22 hS, rf_79_24 hS, rf_79_25 hS, rf_79_26 hS, rf_79_27 hS, rf_79_28 hS, rf_79_29 hS, rf_79_30 hS, z1, z2, z3, er, e53, x53_0, x53_1, x53_4, x53_5, x53_7, x53_9, x53_12, ldR_0, t_new, l_new, c_new, R_new, n_new, q6, q7, q61, q71, k64a, k64b, k64c, s_n1, s_n2, s_n7, so_ne, cmp, tg_7 hS, ln_7 hS]
        refine gi_ext (fun x => ?_) (fun x i => ?_) (fun x i => ?_) rfl rfl
        · show gi_c (gi_new (gi_new h 8 0 1) 101 64 64) x = _
          rw [c_new, c_new, n_new, c_nbk]
          by_cases e1 : x = gi_n h
          · rw [if_neg (by omega), if_pos e1, if_pos e1]
          · by_cases e2 : x = gi_n h + 1
            · rw [if_pos e2, if_neg e1, if_pos e2]
            · rw [if_neg e2, if_neg e1, if_neg e1, if_neg e2]
        · show gi_I (gi_new (gi_new h 8 0 1) 101 64 64) x i = _
          rw [I_new, I_new, n_new, I_nbk]
          by_cases e1 : x = gi_n h
          · rw [if_neg (by omega), if_pos e1, if_pos e1]
          · by_cases e2 : x = gi_n h + 1
            · rw [if_pos e2, if_neg e1, if_pos e2]
            · rw [if_neg e2, if_neg e1, if_neg e1, if_neg e2]
        · rw [R_pR, R_pR, R_new, R_new, n_new, R_nbk]
          by_cases w7 : x = 7 ∧ i = j
          · rw [if_pos w7, if_pos w7]
          · rw [if_neg w7, if_neg w7]
            by_cases e1 : x = gi_n h
            · by_cases e3 : i = 0
              · rw [if_pos ⟨e1, e3⟩, if_pos e1, if_pos e3]
              · rw [if_neg (by omega), if_neg (by omega), if_pos e1, if_pos e1, if_neg e3]
            · by_cases e2 : x = gi_n h + 1
              · rw [if_neg (by omega), if_pos e2, if_neg e1, if_pos e2]
              · rw [if_neg (by omega), if_neg e2, if_neg e1, if_neg e1, if_neg e2]
      · obtain ⟨b', er⟩ : ∃ b', gi_R h 7 j = some b' := by
          cases q : gi_R h 7 j with
          | none => exact absurd q (of_eq_false w)
          | some b' => exact ⟨b', rfl⟩
        rw [er] at e2
        simp only [Option.isNone_some, cond_false] at e2
        have nx := ih (j + 1) (by omega) e2
        simp only [x52_3, x52_6, x52_9, x52_10, x52_13, x52_14, x52_15, x52_18, x52_19, x52_22, x52_23, x52_26, x52_27, x52_30, x52_31, x52_32, x52_33, x52_36, x52_39, x52_40, inc_1i, inc_1n, inc_1r, ldI_1, ldR_0, I_pI, R_pI, c_pI, n_pI, u_pI, t_pI, l_pI, I_pR, R_pR, c_pR, n_pR, u_pR, t_pR, l_pR, get_s, Option.toList, List.nil_append, List.cons_append, List.length_nil, List.length_cons, gi_B, true_and, and_true, false_and, and_false, not_true_eq_false, not_false_eq_true, true_implies, false_implies, implies_true, Classical.not_not, ite_true, ite_false, Option.some.injEq, Sum.inl.injEq, exists_eq', eq_self, true_or, or_true, false_or, or_false, Nat.reduceEqDiff, Nat.reduceLeDiff, Nat.reduceAdd, Nat.zero_le, one_ne0, if_neg one_ne0', lt_102_103, lt_102_104, lt_102_105, lt_102_106, lt_99_107, lt_100_107, lt_101_107, lt_103_107, lt_104_107, lt_105_107, lt_106_107, lt_98_99, lt_98_100, lt_98_101, lt_98_106, tg_1 hS, tg_2 hS, tg_3 hS, tg_4 hS, tg_5 hS, tg_6 hS, tg_7 hS, tg_8 hS, tg_9 hS, tg_10 hS, tg_75 hS, tg_79 hS, tg_80 hS, tg_81 hS, tg_82 hS, tg_83 hS, tg_84 hS, tg_85 hS, tg_86 hS, tg_87 hS, tg_88 hS, tg_89 hS, tg_90 hS, tg_91 hS, tg_92 hS, tg_93 hS, tg_94 hS, tg_95 hS, tg_96 hS, tg_97 hS, tg_98 hS, tg_99 hS, tg_100 hS, tg_101 hS, tg_102 hS, tg_103 hS, tg_104 hS, tg_105 hS, tg_106 hS, tg_107 hS, tg_108 hS, ln_2 hS, ln_3 hS, ln_4 hS, ln_5 hS, ln_7 hS, ln_9 hS, ln_10 hS, ln_75 hS, ln_80 hS, ln_81 hS, ln_82 hS, ln_83 hS, ln_84 hS, ln_85 hS, ln_86 hS, ln_87 hS, ln_88 hS, ln_89 hS, ln_90 hS, ln_91 hS, ln_92 hS, ln_93 hS, ln_94 hS, ln_95 hS, ln_96 hS, ln_97 hS, ln_98 hS, ln_99 hS, ln_100 hS, ln_101 hS, ln_102 hS, ln_103 hS, ln_104 hS, ln_105 hS, ln_106 hS, ln_107 hS, ln_108 hS, rf_1_0 hS, rf_1_1 hS, rf_1_2 hS, rf_1_3 hS, rf_1_4 hS, rf_1_5 hS, rf_1_6 hS, rf_6_0 hS, rf_8_1 hS, rf_8_2 hS, rf_79_1 hS, rf_79_2 hS, rf_79_3 hS, rf_79_4 hS, rf_79_5 hS, rf_79_6 hS, rf_79_7 hS, rf_79_8 hS, rf_79_9 hS, rf_79_10 hS, rf_79_11 hS, rf_79_12 hS, rf_79_13 hS, rf_79_14 hS, rf_79_15 hS, rf_79_16 hS, rf_79_17 hS, rf_79_18 hS, rf_79_19 hS, rf_79_20 hS, rf_79_21 hS, rf_79_22 hS, rf_79_24 hS, rf_79_25 hS, rf_79_26 hS, rf_79_27 hS, rf_79_28 hS, rf_79_29 hS, rf_79_30 hS, z1, z2, z3, er, so_ne, nI_i1]
        exact nx
  have := lp 256 0 rfl eb
  simp only [x52_0, x52_1, stI_1i, stI_1n, stI_1r, I_pI, R_pI, c_pI, n_pI, u_pI, t_pI, l_pI, I_pR, R_pR, c_pR, n_pR, u_pR, t_pR, l_pR, get_s, Option.toList, List.nil_append, List.cons_append, List.length_nil, List.length_cons, gi_B, true_and, and_true, false_and, and_false, not_true_eq_false, not_false_eq_true, true_implies, false_implies, implies_true, Classical.not_not, ite_true, ite_false, Option.some.injEq, Sum.inl.injEq, exists_eq', eq_self, true_or, or_true, false_or, or_false, Nat.reduceEqDiff, Nat.reduceLeDiff, Nat.reduceAdd, Nat.zero_le, one_ne0, if_neg one_ne0', lt_102_103, lt_102_104, lt_102_105, lt_102_106, lt_99_107, lt_100_107, lt_101_107, lt_103_107, lt_104_107, lt_105_107, lt_106_107, lt_98_99, lt_98_100, lt_98_101, lt_98_106]
  exact this

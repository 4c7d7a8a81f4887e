/-! heaps told by their ints; new lists -/
set_option maxRecDepth 100000

def wI (h : gi_H) (F : Nat → Nat → Int32) : gi_H := (h.1, F, h.2.2)
theorem I_wI {h : gi_H} {F : Nat → Nat → Int32} {b j : Nat} : gi_I (wI h F) b j = F b j := rfl
theorem R_wI {h : gi_H} {F : Nat → Nat → Int32} {b j : Nat} : gi_R (wI h F) b j = gi_R h b j := rfl
theorem c_wI {h : gi_H} {F : Nat → Nat → Int32} {b : Nat} : gi_c (wI h F) b = gi_c h b := rfl
theorem n_wI {h : gi_H} {F : Nat → Nat → Int32} : gi_n (wI h F) = gi_n h := rfl
theorem u_wI {h : gi_H} {F : Nat → Nat → Int32} : gi_u (wI h F) = gi_u h := rfl
theorem t_wI {h : gi_H} {F : Nat → Nat → Int32} {x : Option Nat} : gi_tag (wI h F) x = gi_tag h x := rfl
theorem l_wI {h : gi_H} {F : Nat → Nat → Int32} {x : Option Nat} : gi_len (wI h F) x = gi_len h x := rfl
theorem pI_wI {h : gi_H} {F : Nat → Nat → Int32} {a k : Nat} {v : Int32} : gi_pI (wI h F) a k v = wI h (fun b j => if b = a ∧ j = k then v else F b j) := rfl
theorem wI_self {h : gi_H} : wI h (gi_I h) = h := rfl
theorem wI_c {h : gi_H} {F G : Nat → Nat → Int32} (e : ∀ b j, F b j = G b j) : wI h F = wI h G := by
  rw [show F = G from funext fun b => funext fun j => e b j]
theorem n_new {h : gi_H} {t l s : Nat} : gi_n (gi_new h t l s) = gi_n h + 1 := rfl
theorem u_new {h : gi_H} {t l s : Nat} : gi_u (gi_new h t l s) = gi_u h + s := rfl
theorem t_new {h : gi_H} {t l s b : Nat} : gi_tag (gi_new h t l s) (some b) = if b = gi_n h then t else gi_tag h (some b) := by
  rw [tag_s, tag_s, c_new]; split <;> rfl
theorem l_new {h : gi_H} {t l s b : Nat} : gi_len (gi_new h t l s) (some b) = if b = gi_n h then l else gi_len h (some b) := by
  rw [len_s, len_s, c_new]; split <;> rfl
theorem nI_of_len {n : Nat} : Int32.ofNat n = nI n := rfl
theorem s_n1 {n : Nat} : (n + 1 = n) = False := eq_false (by omega)
theorem s_n2 {n : Nat} : (n = n + 1) = False := eq_false (by omega)
theorem s_n3 {n : Nat} : (n + 2 = n) = False := eq_false (by omega)
theorem s_n4 {n : Nat} : (n = n + 2) = False := eq_false (by omega)
theorem s_n5 {n : Nat} : (n + 2 = n + 1) = False := eq_false (by omega)
theorem s_n6 {n : Nat} : (n + 1 = n + 2) = False := eq_false (by omega)
theorem s_n7 {n : Nat} : n + 1 + 1 = n + 2 := rfl
/-- a row filled -/
theorem c_6 {d a : Nat} {v : Int32} {h : gi_H} {Q : gi_P} (t1 : gi_tag h (some a) = 100) (t2 : gi_len h (some a) < 1000) : gi_cx (d + 1) 6 [.inr (.inr (some a)), .inl v] h Q ↔ Q none (wI h (fun b k => if b = a ∧ k < gi_len h (some a) then v else gi_I h b k)) := by
  refine gi_cx_iff ?_ Q
  rw [e6]
  generalize hN : gi_len h (some a) = N at t2
  generalize hq : (fun (r1 : Option gi_V) (h1 : gi_H) => r1 = none ∧ h1 = wI h (fun b k => if b = a ∧ k < N then v else gi_I h b k)) = Q1
  have hQ : Q1 none (wI h (fun b k => if b = a ∧ k < N then v else gi_I h b k)) := by rw [← hq]; exact ⟨rfl, rfl⟩
  clear hq
  have lp : ∀ m j, j + m = N → gi_ex (gi_cx d) 6 Q1 5 [some (.inr (.inr (some a))), some (.inl v), some (.inl (nI j)), some (.inl (nI N))] [] (wI h (fun b k => if b = a ∧ k < j then v else gi_I h b k)) := by
    intro m
    induction m with
    | zero =>
      intro j e
      obtain rfl : j = N := by omega
      rw [x6_5]
      simp only [x6_6, x6_7, x6_20, ldI_3, ldI_2, I_pI, R_pI, c_pI, n_pI, u_pI, t_pI, l_pI, I_pR, R_pR, c_pR, n_pR, u_pR, t_pR, l_pR, get_s, Option.toList, List.nil_append, List.cons_append, List.length_nil, List.length_cons, gi_B, true_and, and_true, false_and, and_false, not_true_eq_false, not_false_eq_true, true_implies, false_implies, implies_true, Classical.not_not, ite_true, ite_false, Option.some.injEq, Sum.inl.injEq, exists_eq', eq_self, true_or, or_true, false_or, or_false, Nat.reduceEqDiff, Nat.reduceLeDiff, Nat.reduceAdd, Nat.zero_le, one_ne0, if_neg one_ne0', lt_102_103, lt_102_104, lt_102_105, lt_102_106, lt_99_107, lt_100_107, lt_101_107, lt_103_107, lt_104_107, lt_105_107, lt_106_107, lt_98_99, lt_98_100, lt_98_101, lt_98_106, lit_ge]
      exact hQ
    | succ m ih =>
      intro j e
      have z1 : vp_in (nI j) N := vp_in_nI (by omega) (by omega)
      have z2 : (nI j).toNatClampNeg = j := nI_clamp (by omega)
      have z3 : (nI N ≤ nI j) = False := lit_le (N := N) (by omega) (by omega)
      have nx := ih (j + 1) (by omega)
      have e2 : wI h (fun b k => if b = a ∧ k < j + 1 then v else gi_I h b k) = gi_pI (wI h (fun b k => if b = a ∧ k < j then v else gi_I h b k)) a j v := by
        rw [pI_wI]
        refine wI_c (fun b k => ?_)
        by_cases p1 : b = a ∧ k = j
        · rw [if_pos p1, if_pos ⟨p1.1, by omega⟩]
        · rw [if_neg p1]
          by_cases p2 : b = a ∧ k < j
          · rw [if_pos p2, if_pos ⟨p2.1, by omega⟩]
          · rw [if_neg p2, if_neg (by omega)]
      rw [e2] at nx
      rw [x6_5]
      simp only [x6_6, x6_7, x6_10, x6_11, x6_12, x6_13, x6_14, x6_17, x6_20, inc_2i, inc_2n, inc_2r, ldI_1, ldI_2, ldI_3, ldR_0, I_pI, R_pI, c_pI, n_pI, u_pI, t_pI, l_pI, I_pR, R_pR, c_pR, n_pR, u_pR, t_pR, l_pR, get_s, Option.toList, List.nil_append, List.cons_append, List.length_nil, List.length_cons, gi_B, true_and, and_true, false_and, and_false, not_true_eq_false, not_false_eq_true, true_implies, false_implies, implies_true, Classical.not_not, ite_true, ite_false, Option.some.injEq, Sum.inl.injEq, exists_eq', eq_self, true_or, or_true, false_or, or_false, Nat.reduceEqDiff, Nat.reduceLeDiff, Nat.reduceAdd, Nat.zero_le, one_ne0, if_neg one_ne0', lt_102_103, lt_102_104, lt_102_105, lt_102_106, lt_99_107, lt_100_107, lt_101_107, lt_103_107, lt_104_107, lt_105_107, lt_106_107, lt_98_99, lt_98_100, lt_98_101, lt_98_106, I_wI, R_wI, c_wI, n_wI, u_wI, t_wI, l_wI, z1, z2, z3, t1, hN, nI_i1]
      exact nx
  have := lp N 0 (by omega)
  rw [show (fun b k => if b = a ∧ k < 0 then v else gi_I h b k) = gi_I h from funext fun b => funext fun k => if_neg (by omega), wI_self, show nI 0 = (0 : Int32) from rfl] at this
  simp only [x6_0, x6_1, x6_2, x6_3, x6_4, ldR_0, stI_2i, stI_2n, stI_2r, stI_3i, stI_3n, stI_3r, I_pI, R_pI, c_pI, n_pI, u_pI, t_pI, l_pI, I_pR, R_pR, c_pR, n_pR, u_pR, t_pR, l_pR, get_s, Option.toList, List.nil_append, List.cons_append, List.length_nil, List.length_cons, gi_B, true_and, and_true, false_and, and_false, not_true_eq_false, not_false_eq_true, true_implies, false_implies, implies_true, Classical.not_not, ite_true, ite_false, Option.some.injEq, Sum.inl.injEq, exists_eq', eq_self, true_or, or_true, false_or, or_false, Nat.reduceEqDiff, Nat.reduceLeDiff, Nat.reduceAdd, Nat.zero_le, one_ne0, if_neg one_ne0', lt_102_103, lt_102_104, lt_102_105, lt_102_106, lt_99_107, lt_100_107, lt_101_107, lt_103_107, lt_104_107, lt_105_107, lt_106_107, lt_98_99, lt_98_100, lt_98_101, lt_98_106, hN, nI_of_len, t1]
  exact this
/-- a heap with a new list -/
def nl (h : gi_H) (O G T : Int32) : gi_H := (fun b => if b = gi_n h then (6, 0) else if b = gi_n h + 1 then (100, 32) else gi_c h b, fun b j => if b = gi_n h then (if j = 0 then O else if j = 1 then G else if j = 2 then T else 0) else if b = gi_n h + 1 then (if j < 32 then -1 else 0) else gi_I h b j, fun b j => if b = gi_n h then (if j = 4 then some (gi_n h + 1) else none) else if b = gi_n h + 1 then none else gi_R h b j, gi_n h + 2, gi_u h + 37)
theorem c_nl {h : gi_H} {O G T : Int32} {b : Nat} : gi_c (nl h O G T) b = if b = gi_n h then (6, 0) else if b = gi_n h + 1 then (100, 32) else gi_c h b := rfl
theorem I_nl {h : gi_H} {O G T : Int32} {b j : Nat} : gi_I (nl h O G T) b j = if b = gi_n h then (if j = 0 then O else if j = 1 then G else if j = 2 then T else 0) else if b = gi_n h + 1 then (if j < 32 then -1 else 0) else gi_I h b j := rfl
theorem R_nl {h : gi_H} {O G T : Int32} {b j : Nat} : gi_R (nl h O G T) b j = if b = gi_n h then (if j = 4 then some (gi_n h + 1) else none) else if b = gi_n h + 1 then none else gi_R h b j := rfl
theorem n_nl {h : gi_H} {O G T : Int32} : gi_n (nl h O G T) = gi_n h + 2 := rfl
theorem u_nl {h : gi_H} {O G T : Int32} : gi_u (nl h O G T) = gi_u h + 37 := rfl
theorem t_nl {h : gi_H} {O G T : Int32} {b : Nat} : gi_tag (nl h O G T) (some b) = if b = gi_n h then 6 else if b = gi_n h + 1 then 100 else gi_tag h (some b) := by
  rw [tag_s, tag_s, c_nl]; split
  · rfl
  · split <;> rfl
theorem l_nl {h : gi_H} {O G T : Int32} {b : Nat} : gi_len (nl h O G T) (some b) = if b = gi_n h then 0 else if b = gi_n h + 1 then 32 else gi_len h (some b) := by
  rw [len_s, len_s, c_nl]; split
  · rfl
  · split <;> rfl
theorem k32 : ((32 : Int32) < 0) = False := by decide
theorem k32b : (32 : Int32).toNatClampNeg = 32 := by decide
theorem k32c : ((32 : Nat) ≤ 200000) = True := by decide
theorem k32d : ((32 : Nat) < 1000) = True := by decide
theorem c_36 {d : Nat} {O G T : Int32} {h : gi_H} {Q : gi_P} : gi_cx (d + 2) 36 [.inr (.inr (some (gi_n h))), .inl O, .inl G, .inl T] (gi_new h 6 0 5) Q ↔ Q none (nl h O G T) := by
  refine gi_cx_iff ?_ Q
  simp only [e36, x36_0, x36_1, x36_4, x36_5, x36_7, x36_9, x36_12, x36_13, x36_14, x36_17, x36_18, x36_19, x36_22, x36_23, x36_24, x36_27, x36_28, x36_31, x36_32, x36_35, ldI_1, ldI_2, ldI_3, ldR_0, I_pI, R_pI, c_pI, n_pI, u_pI, t_pI, l_pI, I_pR, R_pR, c_pR, n_pR, u_pR, t_pR, l_pR, get_s, Option.toList, List.nil_append, List.cons_append, List.length_nil, List.length_cons, gi_B, true_and, and_true, false_and, and_false, not_true_eq_false, not_false_eq_true, true_implies, false_implies, implies_true, Classical.not_not, ite_true, ite_false, Option.some.injEq, Sum.inl.injEq, exists_eq', eq_self, true_or, or_true, false_or, or_false, Nat.reduceEqDiff, Nat.reduceLeDiff, Nat.reduceAdd, Nat.zero_le, one_ne0, if_neg one_ne0', lt_102_103, lt_102_104, lt_102_105, lt_102_106, lt_99_107, lt_100_107, lt_101_107, lt_103_107, lt_104_107, lt_105_107, lt_106_107, lt_98_99, lt_98_100, lt_98_101, lt_98_106, I_new, R_new, c_new, n_new, u_new, t_new, l_new, I_wI, R_wI, c_wI, n_wI, u_wI, t_wI, l_wI, s_n1, s_n2, s_n7, k32, k32b, k32c, k32d, c_6]
  refine gi_ext (fun x => ?_) (fun x j => ?_) (fun x j => ?_) rfl rfl
  · by_cases e1 : x = gi_n h
    · simp [c_wI, c_pI, c_pR, c_new, n_new, c_nl, e1]
    · simp [c_wI, c_pI, c_pR, c_new, n_new, c_nl, e1]
  · by_cases e1 : x = gi_n h
    · simp only [I_wI, I_pI, I_pR, I_new, n_new, I_nl, e1, s_n2, false_and, ite_false, ite_true, true_and]
      by_cases q2 : j = 2
      · simp [q2]
      · by_cases q1 : j = 1
        · simp [q1]
        · by_cases q0 : j = 0
          · simp [q0]
          · simp [q0, q1, q2]
    · by_cases e2 : x = gi_n h + 1
      · simp only [I_wI, I_pI, I_pR, I_new, n_new, I_nl, e2, s_n1, false_and, ite_false, ite_true, true_and, eq_self]
      · simp [I_wI, I_pI, I_pR, I_new, n_new, I_nl, e1, e2]
  · by_cases e1 : x = gi_n h
    · simp [R_wI, R_pI, R_pR, R_new, n_new, R_nl, e1]
    · simp [R_wI, R_pI, R_pR, R_new, n_new, R_nl, e1]
theorem c_69 {d r k i : Nat} {v : Int32} {h : gi_H} {Q : gi_P} (t1 : gi_tag h (some r) = 6) (t2 : gi_tag h (some (r + 1)) = 100) (t3 : gi_len h (some (r + 1)) = 32) (t4 : gi_R h r 4 = some (r + 1)) (hk : 16 * k + i < 32) : gi_cx (d + 1) 69 [.inr (.inr (some r)), .inl (nI k), .inl (nI i), .inl v] h Q ↔ Q none (gi_pI (gi_pI h r 3 (gi_I h r 3 + ((if v = -1 then 0 else 1) - (if gi_I h (r + 1) (16 * k + i) = -1 then 0 else 1)))) (r + 1) (16 * k + i) v) := by
  refine gi_cx_iff ?_ Q
  rcases em_ (v = -1) with w1 | w1 <;> rcases em_ (gi_I h (r + 1) (16 * k + i) = -1) with w2 | w2 <;> simp only [e69, x69_0, x69_1, x69_3, x69_4, x69_5, x69_6, x69_8, x69_9, x69_10, x69_13, x69_14, x69_15, x69_18, x69_19, x69_22, x69_23, x69_24, x69_27, x69_29, x69_30, x69_31, x69_34, x69_35, x69_38, x69_39, x69_40, x69_41, x69_44, x69_45, x69_48, x69_50, x69_51, x69_52, ldI_1, ldI_2, ldI_3, ldI_4, ldR_0, stI_4i, stI_4n, stI_4r, I_pI, R_pI, c_pI, n_pI, u_pI, t_pI, l_pI, I_pR, R_pR, c_pR, n_pR, u_pR, t_pR, l_pR, get_s, Option.toList, List.nil_append, List.cons_append, List.length_nil, List.length_cons, gi_B, true_and, and_true, false_and, and_false, not_true_eq_false, not_false_eq_true, true_implies, false_implies, implies_true, Classical.not_not, ite_true, ite_false, Option.some.injEq, Sum.inl.injEq, exists_eq', eq_self, true_or, or_true, false_or, or_false, Nat.reduceEqDiff, Nat.reduceLeDiff, Nat.reduceAdd, Nat.zero_le, one_ne0, if_neg one_ne0', lt_102_103, lt_102_104, lt_102_105, lt_102_106, lt_99_107, lt_100_107, lt_101_107, lt_103_107, lt_104_107, lt_105_107, lt_106_107, lt_98_99, lt_98_100, lt_98_101, lt_98_106, ixB, t1, t2, t3, t4, vp_in_nI hk (show 32 < 2 ^ 31 by omega), nI_clamp (show 16 * k + i < 2 ^ 31 by omega), w1, w2]
theorem c_18w {d r l : Nat} {h : gi_H} {Q : gi_P} {S : gi_Z} (t1 : gi_tag h (some r) = 6) (t2 : gi_tag h (some (r + 1)) = 100) (t3 : gi_len h (some (r + 1)) = 32) (t4 : gi_R h r 4 = some (r + 1)) (t5 : gi_I h r 1 = S 95 l) (t6 : ∀ k, k < 32 → gi_I h (r + 1) k = S 98 (32 * l + k)) : gi_cx (d + 1) 18 [.inr (.inr (some r))] h Q ↔ Q (some (.inl (al_ S l))) h := by
  refine gi_cx_iff ?_ Q
  rw [e18]
  generalize hq : (fun (r1 : Option gi_V) (h1 : gi_H) => r1 = some (.inl (al_ S l)) ∧ h1 = h) = Q1
  have hQ : Q1 (some (.inl (al_ S l))) h := by rw [← hq]; exact ⟨rfl, rfl⟩
  clear hq
  have key := loop_st (σ := Int32) (E := fun aq iq => gi_ex (gi_cx d) 18 Q1 7 [some (.inr (.inr (some r))), some (.inl aq), some (.inl iq)] [] h) (N := 32) (f := fun k (a : Int32) => if S 98 (32 * l + k) = -1 then a else a ||| S 98 (32 * l + k)) (fun j hj c hx => ?_) 32 0 (S 95 l) rfl ?_
  · simp only [x18_0, x18_1, x18_4, x18_5, x18_6, x18_8, x18_9, x18_12, x18_13, x18_16, x18_17, x18_20, x18_21, x18_22, x18_23, x18_26, x18_27, x18_28, x18_31, x18_32, x18_33, x18_34, x18_35, x18_38, x18_41, x18_42, inc_2i, inc_2n, inc_2r, ldI_1, ldI_2, ldR_0, stI_1i, stI_1n, stI_1r, stI_2i, stI_2n, stI_2r, I_pI, R_pI, c_pI, n_pI, u_pI, t_pI, l_pI, I_pR, R_pR, c_pR, n_pR, u_pR, t_pR, l_pR, get_s, Option.toList, List.nil_append, List.cons_append, List.length_nil, List.length_cons, gi_B, true_and, and_true, false_and, and_false, not_true_eq_false, not_false_eq_true, true_implies, false_implies, implies_true, Classical.not_not, ite_true, ite_false, Option.some.injEq, Sum.inl.injEq, exists_eq', eq_self, true_or, or_true, false_or, or_false, Nat.reduceEqDiff, Nat.reduceLeDiff, Nat.reduceAdd, Nat.zero_le, one_ne0, if_neg one_ne0', lt_102_103, lt_102_104, lt_102_105, lt_102_106, lt_99_107, lt_100_107, lt_101_107, lt_103_107, lt_104_107, lt_105_107, lt_106_107, lt_98_99, lt_98_100, lt_98_101, lt_98_106, t1, t5]
    exact key
  · rw [x18_7]
    simp only [x18_0, x18_1, x18_4, x18_5, x18_6, x18_8, x18_9, x18_12, x18_13, x18_16, x18_17, x18_20, x18_21, x18_22, x18_23, x18_26, x18_27, x18_28, x18_31, x18_32, x18_33, x18_34, x18_35, x18_38, x18_41, x18_42, inc_2i, inc_2n, inc_2r, ldI_1, ldI_2, ldR_0, stI_1i, stI_1n, stI_1r, stI_2i, stI_2n, stI_2r, I_pI, R_pI, c_pI, n_pI, u_pI, t_pI, l_pI, I_pR, R_pR, c_pR, n_pR, u_pR, t_pR, l_pR, get_s, Option.toList, List.nil_append, List.cons_append, List.length_nil, List.length_cons, gi_B, true_and, and_true, false_and, and_false, not_true_eq_false, not_false_eq_true, true_implies, false_implies, implies_true, Classical.not_not, ite_true, ite_false, Option.some.injEq, Sum.inl.injEq, exists_eq', eq_self, true_or, or_true, false_or, or_false, Nat.reduceEqDiff, Nat.reduceLeDiff, Nat.reduceAdd, Nat.zero_le, one_ne0, if_neg one_ne0', lt_102_103, lt_102_104, lt_102_105, lt_102_106, lt_99_107, lt_100_107, lt_101_107, lt_103_107, lt_104_107, lt_105_107, lt_106_107, lt_98_99, lt_98_100, lt_98_101, lt_98_106, t1, t2, t3, t4, show Int32.ofNat 32 = nI 32 from rfl, lit_le (show 32 < 2147483648 by omega) hj, vp_in_nI hj (show 32 < 2 ^ 31 by omega), nI_clamp (show j < 2 ^ 31 by omega), nI_i1, t6 j hj]
    by_cases w : S 98 (32 * l + j) = -1
    · rw [if_pos w] at hx
      exact ⟨fun _ => hx, fun q => absurd w q⟩
    · rw [if_neg w] at hx
      exact ⟨fun q => absurd q w, fun _ => hx⟩
  · rw [x18_7]
    simp only [x18_0, x18_1, x18_4, x18_5, x18_6, x18_8, x18_9, x18_12, x18_13, x18_16, x18_17, x18_20, x18_21, x18_22, x18_23, x18_26, x18_27, x18_28, x18_31, x18_32, x18_33, x18_34, x18_35, x18_38, x18_41, x18_42, inc_2i, inc_2n, inc_2r, ldI_1, ldI_2, ldR_0, stI_1i, stI_1n, stI_1r, stI_2i, stI_2n, stI_2r, I_pI, R_pI, c_pI, n_pI, u_pI, t_pI, l_pI, I_pR, R_pR, c_pR, n_pR, u_pR, t_pR, l_pR, get_s, Option.toList, List.nil_append, List.cons_append, List.length_nil, List.length_cons, gi_B, true_and, and_true, false_and, and_false, not_true_eq_false, not_false_eq_true, true_implies, false_implies, implies_true, Classical.not_not, ite_true, ite_false, Option.some.injEq, Sum.inl.injEq, exists_eq', eq_self, true_or, or_true, false_or, or_false, Nat.reduceEqDiff, Nat.reduceLeDiff, Nat.reduceAdd, Nat.zero_le, one_ne0, if_neg one_ne0', lt_102_103, lt_102_104, lt_102_105, lt_102_106, lt_99_107, lt_100_107, lt_101_107, lt_103_107, lt_104_107, lt_105_107, lt_106_107, lt_98_99, lt_98_100, lt_98_101, lt_98_106, t1, t2, t3, t4, show Int32.ofNat 32 = nI 32 from rfl, lit_ge]
    exact hQ


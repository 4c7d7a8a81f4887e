/-! leaves: contracts of methods that look at their arguments alone, or at the shape -/
/-- C_isId -/
theorem c_10 {d : Nat} {x : Int32} {h : gi_H} {Q : gi_P} : gi_cx (d + 1) 10 [.inl x] h Q ↔ gi_B (vp_in x 16) Q h := by
  refine cx_b ?_
  rw [gi_cx_run rfl]
  refine ⟨rfl, ?_⟩
  show gi_ex _ _ _ 0 [some (.inl x)] [] h
  simp only [x10_0, x10_1, x10_4, x10_5, x10_7, x10_10, x10_11, x10_14, x10_15, ldI_0, I_pI, R_pI, c_pI, n_pI, u_pI, t_pI, l_pI, I_pR, R_pR, c_pR, n_pR, u_pR, t_pR, l_pR, get_s, Option.toList, List.nil_append, List.cons_append, List.length_nil, List.length_cons, gi_B]
  repeat' (first | apply And.intro | intro _)
  all_goals (first | rfl | trivial | exact Or.inl rfl | exact Or.inr rfl | omega | (exfalso; contradiction) | (exfalso; (try simp only [vp_in_iff, i32_lt, i32_le, i32_eq, ti_0, ti_1, ti_2, ti_3, ti_4, ti_5, ti_7, ti_8, ti_12, ti_15, ti_16, ti_31, ti_32, ti_40, ti_60, ti_63, ti_64, ti_255, ti_256, ti_511, ti_768, ti_1000, ti_1023, ti_2047, ti_10000, ti_100000, ti_1000000, ti_m1, ti_m2, ti_m3, ti_m4, ti_m5, ti_m6, ti_m7] at *); omega))

/-- C_isZeroOrOne -/
theorem c_66 {d : Nat} {x : Int32} {h : gi_H} {Q : gi_P} : gi_cx (d + 1) 66 [.inl x] h Q ↔ gi_B (vp_in x 2) Q h := by
  refine cx_b ?_
  rw [gi_cx_run rfl]
  refine ⟨rfl, ?_⟩
  show gi_ex _ _ _ 0 [some (.inl x)] [] h
  simp only [x66_0, x66_1, x66_4, x66_5, x66_6, x66_9, x66_10, x66_13, x66_14, ldI_0, I_pI, R_pI, c_pI, n_pI, u_pI, t_pI, l_pI, I_pR, R_pR, c_pR, n_pR, u_pR, t_pR, l_pR, get_s, Option.toList, List.nil_append, List.cons_append, List.length_nil, List.length_cons, gi_B]
  repeat' (first | apply And.intro | intro _)
  all_goals (first | rfl | trivial | exact Or.inl rfl | exact Or.inr rfl | omega | (exfalso; contradiction) | (exfalso; (try simp only [vp_in_iff, i32_lt, i32_le, i32_eq, ti_0, ti_1, ti_2, ti_3, ti_4, ti_5, ti_7, ti_8, ti_12, ti_15, ti_16, ti_31, ti_32, ti_40, ti_60, ti_63, ti_64, ti_255, ti_256, ti_511, ti_768, ti_1000, ti_1023, ti_2047, ti_10000, ti_100000, ti_1000000, ti_m1, ti_m2, ti_m3, ti_m4, ti_m5, ti_m6, ti_m7] at *); omega))

/-- C_isAttribute -/
theorem c_75 {d : Nat} {x : Int32} {h : gi_H} {Q : gi_P} : gi_cx (d + 1) 75 [.inl x] h Q ↔ gi_B (vp_in x 32) Q h := by
  refine cx_b ?_
  rw [gi_cx_run rfl]
  refine ⟨rfl, ?_⟩
  show gi_ex _ _ _ 0 [some (.inl x)] [] h
  simp only [x75_0, x75_1, x75_4, x75_5, x75_7, x75_10, x75_11, x75_14, x75_15, ldI_0, I_pI, R_pI, c_pI, n_pI, u_pI, t_pI, l_pI, I_pR, R_pR, c_pR, n_pR, u_pR, t_pR, l_pR, get_s, Option.toList, List.nil_append, List.cons_append, List.length_nil, List.length_cons, gi_B]
  repeat' (first | apply And.intro | intro _)
  all_goals (first | rfl | trivial | exact Or.inl rfl | exact Or.inr rfl | omega | (exfalso; contradiction) | (exfalso; (try simp only [vp_in_iff, i32_lt, i32_le, i32_eq, ti_0, ti_1, ti_2, ti_3, ti_4, ti_5, ti_7, ti_8, ti_12, ti_15, ti_16, ti_31, ti_32, ti_40, ti_60, ti_63, ti_64, ti_255, ti_256, ti_511, ti_768, ti_1000, ti_1023, ti_2047, ti_10000, ti_100000, ti_1000000, ti_m1, ti_m2, ti_m3, ti_m4, ti_m5, ti_m6, ti_m7] at *); omega))

/-- C_isLimit -/
theorem c_87 {d : Nat} {x : Int32} {h : gi_H} {Q : gi_P} : gi_cx (d + 1) 87 [.inl x] h Q ↔ gi_B (-1 ≤ x.toInt ∧ x.toInt ≤ 1000) Q h := by
  refine cx_b ?_
  rw [gi_cx_run rfl]
  refine ⟨rfl, ?_⟩
  show gi_ex _ _ _ 0 [some (.inl x)] [] h
  simp only [x87_0, x87_1, x87_2, x87_5, x87_6, x87_9, x87_12, x87_13, x87_16, x87_17, ldI_0, I_pI, R_pI, c_pI, n_pI, u_pI, t_pI, l_pI, I_pR, R_pR, c_pR, n_pR, u_pR, t_pR, l_pR, get_s, Option.toList, List.nil_append, List.cons_append, List.length_nil, List.length_cons, gi_B]
  repeat' (first | apply And.intro | intro _)
  all_goals (first | rfl | trivial | exact Or.inl rfl | exact Or.inr rfl | omega | (exfalso; contradiction) | (exfalso; (try simp only [vp_in_iff, i32_lt, i32_le, i32_eq, ti_0, ti_1, ti_2, ti_3, ti_4, ti_5, ti_7, ti_8, ti_12, ti_15, ti_16, ti_31, ti_32, ti_40, ti_60, ti_63, ti_64, ti_255, ti_256, ti_511, ti_768, ti_1000, ti_1023, ti_2047, ti_10000, ti_100000, ti_1000000, ti_m1, ti_m2, ti_m3, ti_m4, ti_m5, ti_m6, ti_m7] at *); omega))

/-- M_isIn -/
theorem c_98 {d : Nat} {x y z : Int32} {h : gi_H} {Q : gi_P} : gi_cx (d + 1) 98 [.inl x, .inl y, .inl z] h Q ↔ gi_B (y ≤ x ∧ x ≤ z) Q h := by
  refine cx_b ?_
  rw [gi_cx_run rfl]
  refine ⟨rfl, ?_⟩
  show gi_ex _ _ _ 0 [some (.inl x), some (.inl y), some (.inl z)] [] h
  simp only [x98_0, x98_1, x98_2, x98_5, x98_6, x98_7, x98_10, x98_11, x98_14, x98_15, ldI_0, ldI_1, ldI_2, I_pI, R_pI, c_pI, n_pI, u_pI, t_pI, l_pI, I_pR, R_pR, c_pR, n_pR, u_pR, t_pR, l_pR, get_s, Option.toList, List.nil_append, List.cons_append, List.length_nil, List.length_cons, gi_B]
  repeat' (first | apply And.intro | intro _)
  all_goals (first | rfl | trivial | exact Or.inl rfl | exact Or.inr rfl | omega | (exfalso; contradiction) | (exfalso; (try simp only [vp_in_iff, i32_lt, i32_le, i32_eq, ti_0, ti_1, ti_2, ti_3, ti_4, ti_5, ti_7, ti_8, ti_12, ti_15, ti_16, ti_31, ti_32, ti_40, ti_60, ti_63, ti_64, ti_255, ti_256, ti_511, ti_768, ti_1000, ti_1023, ti_2047, ti_10000, ti_100000, ti_1000000, ti_m1, ti_m2, ti_m3, ti_m4, ti_m5, ti_m6, ti_m7] at *); omega))

/-- C_isModeOf -/
theorem c_15 {d : Nat} {x y z : Int32} {h : gi_H} {Q : gi_P} : gi_cx (d + 1) 15 [.inl x, .inl y, .inl z] h Q ↔ gi_B (0 ≤ y ∧ (x = 2 → y ≤ z) ∧ (¬ x = 2 → y ≤ 511)) Q h := by
  refine cx_b ?_
  rw [gi_cx_run rfl]
  refine ⟨rfl, ?_⟩
  show gi_ex _ _ _ 0 [some (.inl x), some (.inl y), some (.inl z)] [] h
  simp only [x15_0, x15_1, x15_4, x15_5, x15_6, x15_7, x15_10, x15_11, x15_14, x15_17, x15_20, x15_21, x15_24, x15_25, ldI_0, ldI_1, ldI_2, I_pI, R_pI, c_pI, n_pI, u_pI, t_pI, l_pI, I_pR, R_pR, c_pR, n_pR, u_pR, t_pR, l_pR, get_s, Option.toList, List.nil_append, List.cons_append, List.length_nil, List.length_cons, gi_B]
  repeat' (first | apply And.intro | intro _)
  all_goals (first | rfl | trivial | exact Or.inl rfl | exact Or.inr rfl | omega | (exfalso; contradiction) | (exfalso; (try simp only [vp_in_iff, i32_lt, i32_le, i32_eq, ti_0, ti_1, ti_2, ti_3, ti_4, ti_5, ti_7, ti_8, ti_12, ti_15, ti_16, ti_31, ti_32, ti_40, ti_60, ti_63, ti_64, ti_255, ti_256, ti_511, ti_768, ti_1000, ti_1023, ti_2047, ti_10000, ti_100000, ti_1000000, ti_m1, ti_m2, ti_m3, ti_m4, ti_m5, ti_m6, ti_m7] at *); omega))

/-- C_hasAll -/
theorem c_20 {d : Nat} {x y : Int32} {h : gi_H} {Q : gi_P} : gi_cx (d + 1) 20 [.inl x, .inl y] h Q ↔ gi_B (x &&& y = y) Q h := by
  refine cx_b ?_
  rw [gi_cx_run rfl]
  refine ⟨rfl, ?_⟩
  show gi_ex _ _ _ 0 [some (.inl x), some (.inl y)] [] h
  simp only [x20_0, x20_1, x20_2, x20_3, x20_4, x20_7, x20_8, x20_11, x20_12, ldI_0, ldI_1, I_pI, R_pI, c_pI, n_pI, u_pI, t_pI, l_pI, I_pR, R_pR, c_pR, n_pR, u_pR, t_pR, l_pR, get_s, Option.toList, List.nil_append, List.cons_append, List.length_nil, List.length_cons, gi_B]
  repeat' (first | apply And.intro | intro _)
  all_goals (first | rfl | trivial | exact Or.inl rfl | exact Or.inr rfl | omega | (exfalso; contradiction) | (exfalso; (try simp only [vp_in_iff, i32_lt, i32_le, i32_eq, ti_0, ti_1, ti_2, ti_3, ti_4, ti_5, ti_7, ti_8, ti_12, ti_15, ti_16, ti_31, ti_32, ti_40, ti_60, ti_63, ti_64, ti_255, ti_256, ti_511, ti_768, ti_1000, ti_1023, ti_2047, ti_10000, ti_100000, ti_1000000, ti_m1, ti_m2, ti_m3, ti_m4, ti_m5, ti_m6, ti_m7] at *); omega))

/-- C_bitsOfOwner -/
theorem c_19 {d : Nat} {x : Int32} {h : gi_H} {Q : gi_P} : gi_cx (d + 1) 19 [.inl x] h Q ↔ Q (some (.inl ((x >>> (6 &&& 31)) &&& 7))) h := by
  refine gi_cx_iff ?_ Q
  rw [gi_cx_run rfl]
  refine ⟨rfl, ?_⟩
  show gi_ex _ _ _ 0 [some (.inl x)] [] h
  simp only [x19_0, x19_1, x19_3, x19_4, x19_6, x19_7, ldI_0, I_pI, R_pI, c_pI, n_pI, u_pI, t_pI, l_pI, I_pR, R_pR, c_pR, n_pR, u_pR, t_pR, l_pR, get_s, Option.toList, List.nil_append, List.cons_append, List.length_nil, List.length_cons, gi_B]
  repeat' (first | apply And.intro | intro _)
  all_goals (first | rfl | trivial | exact Or.inl rfl | exact Or.inr rfl | omega | (exfalso; contradiction) | (exfalso; (try simp only [vp_in_iff, i32_lt, i32_le, i32_eq, ti_0, ti_1, ti_2, ti_3, ti_4, ti_5, ti_7, ti_8, ti_12, ti_15, ti_16, ti_31, ti_32, ti_40, ti_60, ti_63, ti_64, ti_255, ti_256, ti_511, ti_768, ti_1000, ti_1023, ti_2047, ti_10000, ti_100000, ti_1000000, ti_m1, ti_m2, ti_m3, ti_m4, ti_m5, ti_m6, ti_m7] at *); omega))

/-- C_bitsOfGroup -/
theorem c_22 {d : Nat} {x : Int32} {h : gi_H} {Q : gi_P} : gi_cx (d + 1) 22 [.inl x] h Q ↔ Q (some (.inl ((x >>> (3 &&& 31)) &&& 7))) h := by
  refine gi_cx_iff ?_ Q
  rw [gi_cx_run rfl]
  refine ⟨rfl, ?_⟩
  show gi_ex _ _ _ 0 [some (.inl x)] [] h
  simp only [x22_0, x22_1, x22_2, x22_3, x22_5, x22_6, ldI_0, I_pI, R_pI, c_pI, n_pI, u_pI, t_pI, l_pI, I_pR, R_pR, c_pR, n_pR, u_pR, t_pR, l_pR, get_s, Option.toList, List.nil_append, List.cons_append, List.length_nil, List.length_cons, gi_B]
  repeat' (first | apply And.intro | intro _)
  all_goals (first | rfl | trivial | exact Or.inl rfl | exact Or.inr rfl | omega | (exfalso; contradiction) | (exfalso; (try simp only [vp_in_iff, i32_lt, i32_le, i32_eq, ti_0, ti_1, ti_2, ti_3, ti_4, ti_5, ti_7, ti_8, ti_12, ti_15, ti_16, ti_31, ti_32, ti_40, ti_60, ti_63, ti_64, ti_255, ti_256, ti_511, ti_768, ti_1000, ti_1023, ti_2047, ti_10000, ti_100000, ti_1000000, ti_m1, ti_m2, ti_m3, ti_m4, ti_m5, ti_m6, ti_m7] at *); omega))

/-- C_bitsOfOthers -/
theorem c_23 {d : Nat} {x : Int32} {h : gi_H} {Q : gi_P} : gi_cx (d + 1) 23 [.inl x] h Q ↔ Q (some (.inl (x &&& 7))) h := by
  refine gi_cx_iff ?_ Q
  rw [gi_cx_run rfl]
  refine ⟨rfl, ?_⟩
  show gi_ex _ _ _ 0 [some (.inl x)] [] h
  simp only [x23_0, x23_1, x23_3, x23_4, ldI_0, I_pI, R_pI, c_pI, n_pI, u_pI, t_pI, l_pI, I_pR, R_pR, c_pR, n_pR, u_pR, t_pR, l_pR, get_s, Option.toList, List.nil_append, List.cons_append, List.length_nil, List.length_cons, gi_B]
  repeat' (first | apply And.intro | intro _)
  all_goals (first | rfl | trivial | exact Or.inl rfl | exact Or.inr rfl | omega | (exfalso; contradiction) | (exfalso; (try simp only [vp_in_iff, i32_lt, i32_le, i32_eq, ti_0, ti_1, ti_2, ti_3, ti_4, ti_5, ti_7, ti_8, ti_12, ti_15, ti_16, ti_31, ti_32, ti_40, ti_60, ti_63, ti_64, ti_255, ti_256, ti_511, ti_768, ti_1000, ti_1023, ti_2047, ti_10000, ti_100000, ti_1000000, ti_m1, ti_m2, ti_m3, ti_m4, ti_m5, ti_m6, ti_m7] at *); omega))

/-- M_place -/
theorem c_110 {d : Nat} {x y z : Int32} {h : gi_H} {Q : gi_P} : gi_cx (d + 1) 110 [.inl x, .inl y, .inl z] h Q ↔ Q (some (.inl (2 * (16 * x + y) + z))) h := by
  refine gi_cx_iff ?_ Q
  rw [gi_cx_run rfl]
  refine ⟨rfl, ?_⟩
  show gi_ex _ _ _ 0 [some (.inl x), some (.inl y), some (.inl z)] [] h
  simp only [x110_0, x110_1, x110_3, x110_4, x110_5, x110_6, x110_7, x110_8, x110_9, x110_10, ldI_0, ldI_1, ldI_2, I_pI, R_pI, c_pI, n_pI, u_pI, t_pI, l_pI, I_pR, R_pR, c_pR, n_pR, u_pR, t_pR, l_pR, get_s, Option.toList, List.nil_append, List.cons_append, List.length_nil, List.length_cons, gi_B]
  repeat' (first | apply And.intro | intro _)
  all_goals (first | rfl | trivial | exact Or.inl rfl | exact Or.inr rfl | omega | (exfalso; contradiction) | (exfalso; (try simp only [vp_in_iff, i32_lt, i32_le, i32_eq, ti_0, ti_1, ti_2, ti_3, ti_4, ti_5, ti_7, ti_8, ti_12, ti_15, ti_16, ti_31, ti_32, ti_40, ti_60, ti_63, ti_64, ti_255, ti_256, ti_511, ti_768, ti_1000, ti_1023, ti_2047, ti_10000, ti_100000, ti_1000000, ti_m1, ti_m2, ti_m3, ti_m4, ti_m5, ti_m6, ti_m7] at *); omega))

/-- M_isWho -/
theorem c_100 {d : Nat} {x : Int32} {h : gi_H} {Q : gi_P} : gi_cx (d + 2) 100 [.inl x] h Q ↔ gi_B (vp_in x 16) Q h := by
  refine cx_b ?_
  rw [gi_cx_run rfl]
  refine ⟨rfl, ?_⟩
  show gi_ex _ _ _ 0 [some (.inl x)] [] h
  simp only [x100_0, x100_1, x100_2, x100_4, x100_7, ldI_0, I_pI, R_pI, c_pI, n_pI, u_pI, t_pI, l_pI, I_pR, R_pR, c_pR, n_pR, u_pR, t_pR, l_pR, get_s, Option.toList, List.nil_append, List.cons_append, List.length_nil, List.length_cons, gi_B, c_98]
  repeat' (first | apply And.intro | intro _)
  all_goals (first | rfl | trivial | exact Or.inl rfl | exact Or.inr rfl | omega | (exfalso; contradiction) | (exfalso; (try simp only [vp_in_iff, i32_lt, i32_le, i32_eq, ti_0, ti_1, ti_2, ti_3, ti_4, ti_5, ti_7, ti_8, ti_12, ti_15, ti_16, ti_31, ti_32, ti_40, ti_60, ti_63, ti_64, ti_255, ti_256, ti_511, ti_768, ti_1000, ti_1023, ti_2047, ti_10000, ti_100000, ti_1000000, ti_m1, ti_m2, ti_m3, ti_m4, ti_m5, ti_m6, ti_m7] at *); omega))

/-- J_max -/
theorem c_56 {d : Nat} {x y : Int32} {h : gi_H} {Q : gi_P} : gi_cx (d + 1) 56 [.inl x, .inl y] h Q ↔ Q (some (.inl (if x < y then y else x))) h := by
  refine gi_cx_iff ?_ Q
  rw [gi_cx_run rfl]
  refine ⟨rfl, ?_⟩
  show gi_ex _ _ _ 0 [some (.inl x), some (.inl y)] [] h
  simp only [x56_0, x56_1, x56_2, x56_5, x56_6, x56_9, x56_10, ldI_0, ldI_1, I_pI, R_pI, c_pI, n_pI, u_pI, t_pI, l_pI, I_pR, R_pR, c_pR, n_pR, u_pR, t_pR, l_pR, get_s, Option.toList, List.nil_append, List.cons_append, List.length_nil, List.length_cons, gi_B]
  exact ⟨fun q => ⟨by rw [if_pos q], trivial⟩, fun q => ⟨by rw [if_neg q], trivial⟩⟩


/-! lists: uniting, telling -/
set_option maxRecDepth 100000

theorem ct_up {f g : Nat → Bool} {q : Nat} : ∀ m j, j ≤ q → q < j + m → (∀ k, j ≤ k → k < j + m → k ≠ q → g k = f k) → gi_ct g j m + (bif f q then 1 else 0) = gi_ct f j m + (bif g q then 1 else 0)
  | 0, j, h1, h2, _ => by omega
  | m + 1, j, h1, h2, h3 => by
    by_cases e : j = q
    · subst e
      have : gi_ct g (j + 1) m = gi_ct f (j + 1) m := gi_ct_c m (j + 1) (fun k w1 w2 => h3 k (by omega) (by omega) (by omega))
      simp only [gi_ct, this]
      omega
    · have ih := ct_up m (j + 1) (by omega) (by omega) (fun k w1 w2 w3 => h3 k (by omega) (by omega) w3)
      simp only [gi_ct, h3 j (by omega) (by omega) e]
      omega
theorem or8d : ∀ i, i < 8 → ∀ j, j < 8 → vp_in (nI i ||| nI j) 8 := by
  have : ∀ i, i < 8 → ∀ j, j < 8 → (0 ≤ (nI i ||| nI j).toInt ∧ (nI i ||| nI j).toInt < 8) := by decide +kernel
  intro i hi j hj
  rw [vp_in_iff]
  have := this i hi j hj
  exact ⟨by omega, by omega⟩
theorem or8 {x y : Int32} (hx : vp_in x 8) (hy : vp_in y 8) : vp_in (x ||| y) 8 := by
  obtain ⟨i, hi, rfl⟩ := vp_in_of hx (by omega)
  obtain ⟨j, hj, rfl⟩ := vp_in_of hy (by omega)
  exact or8d i hi j hj
theorem e8v {x : Int32} (h : -1 ≤ x.toInt ∧ x.toInt ≤ 7) (w : ¬ x = -1) : vp_in x 8 := by
  rw [i32_eq, ti_m1] at w
  rw [vp_in_iff]
  omega
theorem al_r {S : gi_Z} {l : Nat} (h1 : vp_in (S 95 l) 8) (h2 : ∀ k, k < 32 → -1 ≤ (S 98 (32 * l + k)).toInt ∧ (S 98 (32 * l + k)).toInt ≤ 7) : vp_in (al_ S l) 8 := by
  unfold al_
  refine gi_fd_q (σ := Int32) (τ := Unit) (f := fun k (a : Int32) => if S 98 (32 * l + k) = -1 then a else a ||| S 98 (32 * l + k)) (g := fun _ u => u) (R := fun (s : Int32) (_ : Unit) => vp_in s 8) 32 0 (S 95 l) () (fun k _ hk s t hs => ?_) h1
  show vp_in (if S 98 (32 * l + k) = -1 then s else s ||| S 98 (32 * l + k)) 8
  by_cases w : S 98 (32 * l + k) = -1
  · rw [if_pos w]; exact hs
  · rw [if_neg w]; exact or8 hs (e8v (h2 k (by omega)) w)
theorem al_0 {S : gi_Z} {l : Nat} (h2 : ∀ k, k < 32 → S 98 (32 * l + k) = -1) : al_ S l = S 95 l := by
  unfold al_
  have : ∀ m j (s : Int32), j + m ≤ 32 → gi_fd (fun k (a : Int32) => if S 98 (32 * l + k) = -1 then a else a ||| S 98 (32 * l + k)) j m s = s := by
    intro m
    induction m with
    | zero => intro j s _; rfl
    | succ m ih =>
      intro j s e
      show gi_fd _ (j + 1) m (if S 98 (32 * l + j) = -1 then s else s ||| S 98 (32 * l + j)) = s
      rw [if_pos (h2 j (by omega)), ih (j + 1) s (by omega)]
  exact this 32 0 _ (by omega)
theorem lt_m1 {x : Int32} (h : -1 ≤ x.toInt) : (x < 0) = (x = -1) := propext (by rw [i32_lt, i32_eq, ti_0, ti_m1]; omega)
theorem md_ : ∀ m, m < 2048 → ∀ a, a < 8 → ((nI m &&& (-57 : Int32)) ||| (nI a <<< ((3 : Int32) &&& 31))).toInt ≤ 2047 ∧ 0 ≤ ((nI m &&& (-57 : Int32)) ||| (nI a <<< ((3 : Int32) &&& 31))).toInt ∧ (((nI m &&& (-57 : Int32)) ||| (nI a <<< ((3 : Int32) &&& 31))) >>> 3) &&& 7 = nI a := by decide +kernel
theorem md {m a : Int32} (hm : 0 ≤ m.toInt ∧ m.toInt ≤ 2047) (ha : vp_in a 8) : (0 ≤ ((m &&& (-57 : Int32)) ||| (a <<< ((3 : Int32) &&& 31))).toInt ∧ ((m &&& (-57 : Int32)) ||| (a <<< ((3 : Int32) &&& 31))).toInt ≤ 2047) ∧ (((m &&& (-57 : Int32)) ||| (a <<< ((3 : Int32) &&& 31))) >>> 3) &&& 7 = a := by
  obtain ⟨j, hj, rfl⟩ := vp_in_of ha (by omega)
  obtain ⟨i, hi, rfl⟩ := nI_of (x := m) (by rw [i32_lt, ti_0]; omega)
  rw [nI_toInt hi] at hm
  have := md_ i (by omega) j hj
  exact ⟨⟨this.2.1, this.1⟩, this.2.2⟩
/-- the limit of a list, anew -/
theorem lp_128 {d n l : Nat} {k : gi_H} {Q : gi_P} (hS : gi_S k) (hl : l < 128) (hr : ∀ j, j < 32 → -1 ≤ (gi_I k 98 (32 * l + j)).toInt) (nx : ∀ x, gi_ex (gi_cx d) 128 Q 51 [some (.inr (.inr (some 79))), some (.inl (nI n)), some (.inl (nI l)), some (.inl (al_ (gi_I k) l)), some (.inl (nI 32)), some (.inl x)] [] k) : gi_ex (gi_cx d) 128 Q 10 [some (.inr (.inr (some 79))), some (.inl (nI n)), some (.inl (nI l)), some (.inl (gi_I k 95 l)), some (.inl (nI 0)), none] [] k := by
  have key := loop_st (σ := Int32) (E := fun aq iq => ∀ l5, (l5 = none ∨ ∃ x, l5 = some (.inl x)) → (iq = nI 32 → ∃ x, l5 = some (.inl x)) → gi_ex (gi_cx d) 128 Q 10 [some (.inr (.inr (some 79))), some (.inl (nI n)), some (.inl (nI l)), some (.inl aq), some (.inl iq), l5] [] k) (N := 32) (f := fun j (a : Int32) => if gi_I k 98 (32 * l + j) = -1 then a else a ||| gi_I k 98 (32 * l + j)) (fun j hj s hx => ?_) 32 0 (gi_I k 95 l) rfl ?_
  · exact key none (Or.inl rfl) (fun e => absurd e (by decide))
  · intro l5 h5 h6
    have z1 : vp_in (nI (32 * l + j)) 4096 := vp_in_nI (by omega) (by omega)
    have z2 : (nI (32 * l + j)).toNatClampNeg = 32 * l + j := nI_clamp (by omega)
    have z3 : ((32 : Int32) ≤ nI j) = False := lit_le (N := 32) (by omega) (by omega)
    have nx := hx (some (.inl (gi_I k 98 (32 * l + j)))) (Or.inr ⟨_, rfl⟩) (fun _ => ⟨_, rfl⟩)
    rw [x128_10]
    rcases em_ (gi_I k 98 (32 * l + j) = -1) with w | w
    · rcases h5 with rfl | ⟨x, rfl⟩ <;> simp only [x128_12, x128_14, x128_17, x128_18, x128_21, x128_23, x128_24, x128_25, x128_27, x128_28, x128_29, x128_31, x128_33, x128_36, x128_37, x128_39, x128_40, x128_43, x128_44, x128_45, x128_48, inc_4i, inc_4n, inc_4r, ldI_2, ldI_3, ldI_4, ldI_5, ldR_0, stI_3i, stI_3n, stI_3r, stI_5i, stI_5n, stI_5r, ldI_4, I_pI, R_pI, c_pI, n_pI, u_pI, t_pI, l_pI, I_pR, R_pR, c_pR, n_pR, u_pR, t_pR, l_pR, get_s, Option.toList, List.nil_append, List.cons_append, List.length_nil, List.length_cons, gi_B, tg_1 hS, tg_2 hS, tg_3 hS, tg_4 hS, tg_5 hS, tg_6 hS, tg_7 hS, tg_8 hS, tg_9 hS, tg_10 hS, tg_75 hS, tg_79 hS, tg_80 hS, tg_81 hS, tg_82 hS, tg_83 hS, tg_84 hS, tg_85 hS, tg_86 hS, tg_87 hS, tg_88 hS, tg_89 hS, tg_90 hS, tg_91 hS, tg_92 hS, tg_93 hS, tg_94 hS, tg_95 hS, tg_96 hS, tg_97 hS, tg_98 hS, tg_99 hS, tg_100 hS, tg_101 hS, tg_102 hS, tg_103 hS, tg_104 hS, tg_105 hS, tg_106 hS, tg_107 hS, tg_108 hS, ln_2 hS, ln_3 hS, ln_4 hS, ln_5 hS, ln_7 hS, ln_9 hS, ln_10 hS, ln_75 hS, ln_80 hS, ln_81 hS, ln_82 hS, ln_83 hS, ln_84 hS, ln_85 hS, ln_86 hS, ln_87 hS, ln_88 hS, ln_89 hS, ln_90 hS, ln_91 hS, ln_92 hS, ln_93 hS, ln_94 hS, ln_95 hS, ln_96 hS, ln_97 hS, ln_98 hS, ln_99 hS, ln_100 hS, ln_101 hS, ln_102 hS, ln_103 hS, ln_104 hS, ln_105 hS, ln_106 hS, ln_107 hS, ln_108 hS, rf_1_0 hS, rf_1_1 hS, rf_1_2 hS, rf_1_3 hS, rf_1_4 hS, rf_1_5 hS, rf_1_6 hS, rf_6_0 hS, rf_8_1 hS, rf_8_2 hS, rf_79_1 hS, rf_79_2 hS, rf_79_3 hS, rf_79_4 hS, rf_79_5 hS, rf_79_6 hS, rf_79_7 hS, rf_79_8 hS, rf_79_9 hS, rf_79_10 hS, rf_79_11 hS, rf_79_12 hS, rf_79_13 hS, rf_79_14 hS, rf_79_15 hS, rf_79_16 hS, rf_79_17 hS, rf_79_18 hS, rf_79_19 hS, rf_79_20 hS, rf_79_21 hS, rf_79_22 hS, rf_79_24 hS, rf_79_25 hS, rf_79_26 hS, rf_79_27 hS, rf_79_28 hS, rf_79_29 hS, rf_79_30 hS, true_and, and_true, false_and, and_false, not_true_eq_false, not_false_eq_true, true_implies, false_implies, implies_true, Classical.not_not, ite_true, ite_false, Option.some.injEq, Sum.inl.injEq, exists_eq', eq_self, true_or, or_true, false_or, or_false, Nat.reduceEqDiff, Nat.reduceLeDiff, Nat.reduceAdd, Nat.zero_le, one_ne0, if_neg one_ne0', lt_102_103, lt_102_104, lt_102_105, lt_102_106, lt_99_107, lt_100_107, lt_101_107, lt_103_107, lt_104_107, lt_105_107, lt_106_107, lt_98_99, lt_98_100, lt_98_101, lt_98_106, z3, ixT, z1, z2, lt_m1 (hr j hj), w, nI_i1] <;> simp only [w, ite_true] at nx <;> exact nx
    · rcases h5 with rfl | ⟨x, rfl⟩ <;> simp only [x128_12, x128_14, x128_17, x128_18, x128_21, x128_23, x128_24, x128_25, x128_27, x128_28, x128_29, x128_31, x128_33, x128_36, x128_37, x128_39, x128_40, x128_43, x128_44, x128_45, x128_48, inc_4i, inc_4n, inc_4r, ldI_2, ldI_3, ldI_4, ldI_5, ldR_0, stI_3i, stI_3n, stI_3r, stI_5i, stI_5n, stI_5r, ldI_4, I_pI, R_pI, c_pI, n_pI, u_pI, t_pI, l_pI, I_pR, R_pR, c_pR, n_pR, u_pR, t_pR, l_pR, get_s, Option.toList, List.nil_append, List.cons_append, List.length_nil, List.length_cons, gi_B, tg_1 hS, tg_2 hS, tg_3 hS, tg_4 hS, tg_5 hS, tg_6 hS, tg_7 hS, tg_8 hS, tg_9 hS, tg_10 hS, tg_75 hS, tg_79 hS, tg_80 hS, tg_81 hS, tg_82 hS, tg_83 hS, tg_84 hS, tg_85 hS, tg_86 hS, tg_87 hS, tg_88 hS, tg_89 hS, tg_90 hS, tg_91 hS, tg_92 hS, tg_93 hS, tg_94 hS, tg_95 hS, tg_96 hS, tg_97 hS, tg_98 hS, tg_99 hS, tg_100 hS, tg_101 hS, tg_102 hS, tg_103 hS, tg_104 hS, tg_105 hS, tg_106 hS, tg_107 hS, tg_108 hS, ln_2 hS, ln_3 hS, ln_4 hS, ln_5 hS, ln_7 hS, ln_9 hS, ln_10 hS, ln_75 hS, ln_80 hS, ln_81 hS, ln_82 hS, ln_83 hS, ln_84 hS, ln_85 hS, ln_86 hS, ln_87 hS, ln_88 hS, ln_89 hS, ln_90 hS, ln_91 hS, ln_92 hS, ln_93 hS, ln_94 hS, ln_95 hS, ln_96 hS, ln_97 hS, ln_98 hS, ln_99 hS, ln_100 hS, ln_101 hS, ln_102 hS, ln_103 hS, ln_104 hS, ln_105 hS, ln_106 hS, ln_107 hS, ln_108 hS, rf_1_0 hS, rf_1_1 hS, rf_1_2 hS, rf_1_3 hS, rf_1_4 hS, rf_1_5 hS, rf_1_6 hS, rf_6_0 hS, rf_8_1 hS, rf_8_2 hS, rf_79_1 hS, rf_79_2 hS, rf_79_3 hS, rf_79_4 hS, rf_79_5 hS, rf_79_6 hS, rf_79_7 hS, rf_79_8 hS, rf_79_9 hS, rf_79_10 hS, rf_79_11 hS, rf_79_12 hS, rf_79_13 hS, rf_79_14 hS, rf_79_15 hS, rf_79_16 hS, rf_79_17 hS, rf_79_18 hS, rf_79_19 hS, rf_79_20 hS, rf_79_21 hS, rf_79_22 hS, rf_79_24 hS, rf_79_25 hS, rf_79_26 hS, rf_79_27 hS, rf_79_28 hS, rf_79_29 hS, rf_79_30 hS, true_and, and_true, false_and, and_false, not_true_eq_false, not_false_eq_true, true_implies, false_implies, implies_true, Classical.not_not, ite_true, ite_false, Option.some.injEq, Sum.inl.injEq, exists_eq', eq_self, true_or, or_true, false_or, or_false, Nat.reduceEqDiff, Nat.reduceLeDiff, Nat.reduceAdd, Nat.zero_le, one_ne0, if_neg one_ne0', lt_102_103, lt_102_104, lt_102_105, lt_102_106, lt_99_107, lt_100_107, lt_101_107, lt_103_107, lt_104_107, lt_105_107, lt_106_107, lt_98_99, lt_98_100, lt_98_101, lt_98_106, z3, ixT, z1, z2, lt_m1 (hr j hj), w, nI_i1] <;> simp only [w, ite_false] at nx <;> exact nx
  · intro l5 h5 h6
    obtain ⟨x, rfl⟩ := h6 rfl
    rw [x128_10]
    simp only [x128_12, x128_14, ldI_4, I_pI, R_pI, c_pI, n_pI, u_pI, t_pI, l_pI, I_pR, R_pR, c_pR, n_pR, u_pR, t_pR, l_pR, get_s, Option.toList, List.nil_append, List.cons_append, List.length_nil, List.length_cons, gi_B, true_and, and_true, false_and, and_false, not_true_eq_false, not_false_eq_true, true_implies, false_implies, implies_true, Classical.not_not, ite_true, ite_false, Option.some.injEq, Sum.inl.injEq, exists_eq', eq_self, true_or, or_true, false_or, or_false, Nat.reduceEqDiff, Nat.reduceLeDiff, Nat.reduceAdd, Nat.zero_le, one_ne0, if_neg one_ne0', lt_102_103, lt_102_104, lt_102_105, lt_102_106, lt_99_107, lt_100_107, lt_101_107, lt_103_107, lt_104_107, lt_105_107, lt_106_107, lt_98_99, lt_98_100, lt_98_101, lt_98_106, n32, lit_ge]
    exact nx x
theorem c_128_0 {d n : Nat} {k : gi_H} {Q : gi_P} (hS : gi_S k) (hn : n < 64) (hr : ∀ j, j < 32 → -1 ≤ (gi_I k 98 (32 * (2 * n) + j)).toInt) : gi_cx (d + 1) 128 [.inr (.inr (some 79)), .inl (nI n), .inl (nI (2 * n))] k Q ↔ Q none (gi_pI (gi_pI k 94 (2 * n) (al_ (gi_I k) (2 * n))) 87 n ((gi_I k 87 n &&& (-57 : Int32)) ||| (al_ (gi_I k) (2 * n) <<< ((3 : Int32) &&& 31)))) := by
  refine gi_cx_iff ?_ Q
  have ev : vp_in (nI n) 64 := vp_in_nI hn (by omega)
  have ec : (nI n).toNatClampNeg = n := nI_clamp (by omega)
  have a1 : vp_in (nI (2 * n)) 128 := vp_in_nI (by omega) (by omega)
  have a2 : (nI (2 * n)).toNatClampNeg = 2 * n := nI_clamp (by omega)
  have q : (nI (2 * n) = nI (2 * n)) = True := eq_true rfl
  rw [e128]
  generalize hq : (fun (r1 : Option gi_V) (h1 : gi_H) => r1 = none ∧ h1 = gi_pI (gi_pI k 94 (2 * n) (al_ (gi_I k) (2 * n))) 87 n ((gi_I k 87 n &&& (-57 : Int32)) ||| (al_ (gi_I k) (2 * n) <<< ((3 : Int32) &&& 31)))) = Q1
  have hQ : Q1 none (gi_pI (gi_pI k 94 (2 * n) (al_ (gi_I k) (2 * n))) 87 n ((gi_I k 87 n &&& (-57 : Int32)) ||| (al_ (gi_I k) (2 * n) <<< ((3 : Int32) &&& 31)))) := by rw [← hq]; exact ⟨rfl, rfl⟩
  clear hq
  have lp := lp_128 (d := d) (n := n) (l := 2 * n) (k := k) (Q := Q1) hS (by omega) hr (fun x => by
    simp only [x128_51, x128_52, x128_55, x128_56, x128_57, x128_58, x128_59, x128_60, x128_61, x128_62, x128_65, x128_66, x128_69, x128_70, x128_71, x128_74, x128_75, x128_76, x128_78, x128_79, x128_80, x128_81, x128_82, x128_83, x128_84, ldI_1, ldI_2, ldI_3, ldR_0, I_pI, R_pI, c_pI, n_pI, u_pI, t_pI, l_pI, I_pR, R_pR, c_pR, n_pR, u_pR, t_pR, l_pR, get_s, Option.toList, List.nil_append, List.cons_append, List.length_nil, List.length_cons, gi_B, tg_1 hS, tg_2 hS, tg_3 hS, tg_4 hS, tg_5 hS, tg_6 hS, tg_7 hS, tg_8 hS, tg_9 hS, tg_10 hS, tg_75 hS, tg_79 hS, tg_80 hS, tg_81 hS, tg_82 hS, tg_83 hS, tg_84 hS, tg_85 hS, tg_86 hS, tg_87 hS, tg_88 hS, tg_89 hS, tg_90 hS, tg_91 hS, tg_92 hS, tg_93 hS, tg_94 hS, tg_95 hS, tg_96 hS, tg_97 hS, tg_98 hS, tg_99 hS, tg_100 hS, tg_101 hS, tg_102 hS, tg_103 hS, tg_104 hS, tg_105 hS, tg_106 hS, tg_107 hS, tg_108 hS, ln_2 hS, ln_3 hS, ln_4 hS, ln_5 hS, ln_7 hS, ln_9 hS, ln_10 hS, ln_75 hS, ln_80 hS, ln_81 hS, ln_82 hS, ln_83 hS, ln_84 hS, ln_85 hS, ln_86 hS, ln_87 hS, ln_88 hS, ln_89 hS, ln_90 hS, ln_91 hS, ln_92 hS, ln_93 hS, ln_94 hS, ln_95 hS, ln_96 hS, ln_97 hS, ln_98 hS, ln_99 hS, ln_100 hS, ln_101 hS, ln_102 hS, ln_103 hS, ln_104 hS, ln_105 hS, ln_106 hS, ln_107 hS, ln_108 hS, rf_1_0 hS, rf_1_1 hS, rf_1_2 hS, rf_1_3 hS, rf_1_4 hS, rf_1_5 hS, rf_1_6 hS, rf_6_0 hS, rf_8_1 hS, rf_8_2 hS, rf_79_1 hS, rf_79_2 hS, rf_79_3 hS, rf_79_4 hS, rf_79_5 hS, rf_79_6 hS, rf_79_7 hS, rf_79_8 hS, rf_79_9 hS, rf_79_10 hS, rf_79_11 hS, rf_79_12 hS, rf_79_13 hS, rf_79_14 hS, rf_79_15 hS, rf_79_16 hS, rf_79_17 hS, rf_79_18 hS, rf_79_19 hS, rf_79_20 hS, rf_79_21 hS, rf_79_22 hS, rf_79_24 hS, rf_79_25 hS, rf_79_26 hS, rf_79_27 hS, rf_79_28 hS, rf_79_29 hS, rf_79_30 hS, true_and, and_true, false_and, and_false, not_true_eq_false, not_false_eq_true, true_implies, false_implies, implies_true, Classical.not_not, ite_true, ite_false, Option.some.injEq, Sum.inl.injEq, exists_eq', eq_self, true_or, or_true, false_or, or_false, Nat.reduceEqDiff, Nat.reduceLeDiff, Nat.reduceAdd, Nat.zero_le, one_ne0, if_neg one_ne0', lt_102_103, lt_102_104, lt_102_105, lt_102_106, lt_99_107, lt_100_107, lt_101_107, lt_103_107, lt_104_107, lt_105_107, lt_106_107, lt_98_99, lt_98_100, lt_98_101, lt_98_106, a1, a2, ev, ec, ix2, q]
    exact hQ)
  rw [show nI 0 = (0 : Int32) from rfl] at lp
  simp only [x128_0, x128_1, x128_4, x128_5, x128_6, x128_7, x128_8, ldI_2, ldR_0, stI_3i, stI_3n, stI_3r, stI_4i, stI_4n, stI_4r, I_pI, R_pI, c_pI, n_pI, u_pI, t_pI, l_pI, I_pR, R_pR, c_pR, n_pR, u_pR, t_pR, l_pR, get_s, Option.toList, List.nil_append, List.cons_append, List.length_nil, List.length_cons, gi_B, tg_1 hS, tg_2 hS, tg_3 hS, tg_4 hS, tg_5 hS, tg_6 hS, tg_7 hS, tg_8 hS, tg_9 hS, tg_10 hS, tg_75 hS, tg_79 hS, tg_80 hS, tg_81 hS, tg_82 hS, tg_83 hS, tg_84 hS, tg_85 hS, tg_86 hS, tg_87 hS, tg_88 hS, tg_89 hS, tg_90 hS, tg_91 hS, tg_92 hS, tg_93 hS, tg_94 hS, tg_95 hS, tg_96 hS, tg_97 hS, tg_98 hS, tg_99 hS, tg_100 hS, tg_101 hS, tg_102 hS, tg_103 hS, tg_104 hS, tg_105 hS, tg_106 hS, tg_107 hS, tg_108 hS, ln_2 hS, ln_3 hS, ln_4 hS, ln_5 hS, ln_7 hS, ln_9 hS, ln_10 hS, ln_75 hS, ln_80 hS, ln_81 hS, ln_82 hS, ln_83 hS, ln_84 hS, ln_85 hS, ln_86 hS, ln_87 hS, ln_88 hS, ln_89 hS, ln_90 hS, ln_91 hS, ln_92 hS, ln_93 hS, ln_94 hS, ln_95 hS, ln_96 hS, ln_97 hS, ln_98 hS, ln_99 hS, ln_100 hS, ln_101 hS, ln_102 hS, ln_103 hS, ln_104 hS, ln_105 hS, ln_106 hS, ln_107 hS, ln_108 hS, rf_1_0 hS, rf_1_1 hS, rf_1_2 hS, rf_1_3 hS, rf_1_4 hS, rf_1_5 hS, rf_1_6 hS, rf_6_0 hS, rf_8_1 hS, rf_8_2 hS, rf_79_1 hS, rf_79_2 hS, rf_79_3 hS, rf_79_4 hS, rf_79_5 hS, rf_79_6 hS, rf_79_7 hS, rf_79_8 hS, rf_79_9 hS, rf_79_10 hS, rf_79_11 hS, rf_79_12 hS, rf_79_13 hS, rf_79_14 hS, rf_79_15 hS, rf_79_16 hS, rf_79_17 hS, rf_79_18 hS, rf_79_19 hS, rf_79_20 hS, rf_79_21 hS, rf_79_22 hS, rf_79_24 hS, rf_79_25 hS, rf_79_26 hS, rf_79_27 hS, rf_79_28 hS, rf_79_29 hS, rf_79_30 hS, true_and, and_true, false_and, and_false, not_true_eq_false, not_false_eq_true, true_implies, false_implies, implies_true, Classical.not_not, ite_true, ite_false, Option.some.injEq, Sum.inl.injEq, exists_eq', eq_self, true_or, or_true, false_or, or_false, Nat.reduceEqDiff, Nat.reduceLeDiff, Nat.reduceAdd, Nat.zero_le, one_ne0, if_neg one_ne0', lt_102_103, lt_102_104, lt_102_105, lt_102_106, lt_99_107, lt_100_107, lt_101_107, lt_103_107, lt_104_107, lt_105_107, lt_106_107, lt_98_99, lt_98_100, lt_98_101, lt_98_106, a1, a2]
  exact lp
theorem c_128_1 {d n : Nat} {k : gi_H} {Q : gi_P} (hS : gi_S k) (hn : n < 64) (hr : ∀ j, j < 32 → -1 ≤ (gi_I k 98 (32 * (2 * n + 1) + j)).toInt) : gi_cx (d + 1) 128 [.inr (.inr (some 79)), .inl (nI n), .inl (nI (2 * n + 1))] k Q ↔ Q none (gi_pI k 94 (2 * n + 1) (al_ (gi_I k) (2 * n + 1))) := by
  refine gi_cx_iff ?_ Q
  have ev : vp_in (nI n) 64 := vp_in_nI hn (by omega)
  have ec : (nI n).toNatClampNeg = n := nI_clamp (by omega)
  have a1 : vp_in (nI (2 * n + 1)) 128 := vp_in_nI (by omega) (by omega)
  have a2 : (nI (2 * n + 1)).toNatClampNeg = 2 * n + 1 := nI_clamp (by omega)
  have q : (nI (2 * n + 1) = nI (2 * n)) = False := eq_false (fun w => by have := (nI_eq (a := 2 * n + 1) (b := 2 * n) (by omega) (by omega)).mp w; omega)
  rw [e128]
  generalize hq : (fun (r1 : Option gi_V) (h1 : gi_H) => r1 = none ∧ h1 = gi_pI k 94 (2 * n + 1) (al_ (gi_I k) (2 * n + 1))) = Q1
  have hQ : Q1 none (gi_pI k 94 (2 * n + 1) (al_ (gi_I k) (2 * n + 1))) := by rw [← hq]; exact ⟨rfl, rfl⟩
  clear hq
  have lp := lp_128 (d := d) (n := n) (l := 2 * n + 1) (k := k) (Q := Q1) hS (by omega) hr (fun x => by
    simp only [x128_51, x128_52, x128_55, x128_56, x128_57, x128_58, x128_59, x128_60, x128_61, x128_62, x128_65, x128_66, x128_69, x128_70, x128_71, x128_74, x128_75, x128_76, x128_78, x128_79, x128_80, x128_81, x128_82, x128_83, x128_84, ldI_1, ldI_2, ldI_3, ldR_0, I_pI, R_pI, c_pI, n_pI, u_pI, t_pI, l_pI, I_pR, R_pR, c_pR, n_pR, u_pR, t_pR, l_pR, get_s, Option.toList, List.nil_append, List.cons_append, List.length_nil, List.length_cons, gi_B, tg_1 hS, tg_2 hS, tg_3 hS, tg_4 hS, tg_5 hS, tg_6 hS, tg_7 hS, tg_8 hS, tg_9 hS, tg_10 hS, tg_75 hS, tg_79 hS, tg_80 hS, tg_81 hS, tg_82 hS, tg_83 hS, tg_84 hS, tg_85 hS, tg_86 hS, tg_87 hS, tg_88 hS, tg_89 hS, tg_90 hS, tg_91 hS, tg_92 hS, tg_93 hS, tg_94 hS, tg_95 hS, tg_96 hS, tg_97 hS, tg_98 hS, tg_99 hS, tg_100 hS, tg_101 hS, tg_102 hS, tg_103 hS, tg_104 hS, tg_105 hS, tg_106 hS, tg_107 hS, tg_108 hS, ln_2 hS, ln_3 hS, ln_4 hS, ln_5 hS, ln_7 hS, ln_9 hS, ln_10 hS, ln_75 hS, ln_80 hS, ln_81 hS, ln_82 hS, ln_83 hS, ln_84 hS, ln_85 hS, ln_86 hS, ln_87 hS, ln_88 hS, ln_89 hS, ln_90 hS, ln_91 hS, ln_92 hS, ln_93 hS, ln_94 hS, ln_95 hS, ln_96 hS, ln_97 hS, ln_98 hS, ln_99 hS, ln_100 hS, ln_101 hS, ln_102 hS, ln_103 hS, ln_104 hS, ln_105 hS, ln_106 hS, ln_107 hS, ln_108 hS, rf_1_0 hS, rf_1_1 hS, rf_1_2 hS, rf_1_3 hS, rf_1_4 hS, rf_1_5 hS, rf_1_6 hS, rf_6_0 hS, rf_8_1 hS, rf_8_2 hS, rf_79_1 hS, rf_79_2 hS, rf_79_3 hS, rf_79_4 hS, rf_79_5 hS, rf_79_6 hS, rf_79_7 hS, rf_79_8 hS, rf_79_9 hS, rf_79_10 hS, rf_79_11 hS, rf_79_12 hS, rf_79_13 hS, rf_79_14 hS, rf_79_15 hS, rf_79_16 hS, rf_79_17 hS, rf_79_18 hS, rf_79_19 hS, rf_79_20 hS, rf_79_21 hS, rf_79_22 hS, rf_79_24 hS, rf_79_25 hS, rf_79_26 hS, rf_79_27 hS, rf_79_28 hS, rf_79_29 hS, rf_79_30 hS, true_and, and_true, false_and, and_false, not_true_eq_false, not_false_eq_true, true_implies, false_implies, implies_true, Classical.not_not, ite_true, ite_false, Option.some.injEq, Sum.inl.injEq, exists_eq', eq_self, true_or, or_true, false_or, or_false, Nat.reduceEqDiff, Nat.reduceLeDiff, Nat.reduceAdd, Nat.zero_le, one_ne0, if_neg one_ne0', lt_102_103, lt_102_104, lt_102_105, lt_102_106, lt_99_107, lt_100_107, lt_101_107, lt_103_107, lt_104_107, lt_105_107, lt_106_107, lt_98_99, lt_98_100, lt_98_101, lt_98_106, a1, a2, ev, ec, ix2, q]
    exact hQ)
  rw [show nI 0 = (0 : Int32) from rfl] at lp
  simp only [x128_0, x128_1, x128_4, x128_5, x128_6, x128_7, x128_8, ldI_2, ldR_0, stI_3i, stI_3n, stI_3r, stI_4i, stI_4n, stI_4r, I_pI, R_pI, c_pI, n_pI, u_pI, t_pI, l_pI, I_pR, R_pR, c_pR, n_pR, u_pR, t_pR, l_pR, get_s, Option.toList, List.nil_append, List.cons_append, List.length_nil, List.length_cons, gi_B, tg_1 hS, tg_2 hS, tg_3 hS, tg_4 hS, tg_5 hS, tg_6 hS, tg_7 hS, tg_8 hS, tg_9 hS, tg_10 hS, tg_75 hS, tg_79 hS, tg_80 hS, tg_81 hS, tg_82 hS, tg_83 hS, tg_84 hS, tg_85 hS, tg_86 hS, tg_87 hS, tg_88 hS, tg_89 hS, tg_90 hS, tg_91 hS, tg_92 hS, tg_93 hS, tg_94 hS, tg_95 hS, tg_96 hS, tg_97 hS, tg_98 hS, tg_99 hS, tg_100 hS, tg_101 hS, tg_102 hS, tg_103 hS, tg_104 hS, tg_105 hS, tg_106 hS, tg_107 hS, tg_108 hS, ln_2 hS, ln_3 hS, ln_4 hS, ln_5 hS, ln_7 hS, ln_9 hS, ln_10 hS, ln_75 hS, ln_80 hS, ln_81 hS, ln_82 hS, ln_83 hS, ln_84 hS, ln_85 hS, ln_86 hS, ln_87 hS, ln_88 hS, ln_89 hS, ln_90 hS, ln_91 hS, ln_92 hS, ln_93 hS, ln_94 hS, ln_95 hS, ln_96 hS, ln_97 hS, ln_98 hS, ln_99 hS, ln_100 hS, ln_101 hS, ln_102 hS, ln_103 hS, ln_104 hS, ln_105 hS, ln_106 hS, ln_107 hS, ln_108 hS, rf_1_0 hS, rf_1_1 hS, rf_1_2 hS, rf_1_3 hS, rf_1_4 hS, rf_1_5 hS, rf_1_6 hS, rf_6_0 hS, rf_8_1 hS, rf_8_2 hS, rf_79_1 hS, rf_79_2 hS, rf_79_3 hS, rf_79_4 hS, rf_79_5 hS, rf_79_6 hS, rf_79_7 hS, rf_79_8 hS, rf_79_9 hS, rf_79_10 hS, rf_79_11 hS, rf_79_12 hS, rf_79_13 hS, rf_79_14 hS, rf_79_15 hS, rf_79_16 hS, rf_79_17 hS, rf_79_18 hS, rf_79_19 hS, rf_79_20 hS, rf_79_21 hS, rf_79_22 hS, rf_79_24 hS, rf_79_25 hS, rf_79_26 hS, rf_79_27 hS, rf_79_28 hS, rf_79_29 hS, rf_79_30 hS, true_and, and_true, false_and, and_false, not_true_eq_false, not_false_eq_true, true_implies, false_implies, implies_true, Classical.not_not, ite_true, ite_false, Option.some.injEq, Sum.inl.injEq, exists_eq', eq_self, true_or, or_true, false_or, or_false, Nat.reduceEqDiff, Nat.reduceLeDiff, Nat.reduceAdd, Nat.zero_le, one_ne0, if_neg one_ne0', lt_102_103, lt_102_104, lt_102_105, lt_102_106, lt_99_107, lt_100_107, lt_101_107, lt_103_107, lt_104_107, lt_105_107, lt_106_107, lt_98_99, lt_98_100, lt_98_101, lt_98_106, a1, a2]
  exact lp
theorem t68_0 {d a b k i l : Nat} {w v m : Int32} {h : gi_H} {Q : gi_P} {S : gi_Z} (hw : (w = 0) = True) (t0 : gi_tag h (some a) = 5) (t1 : gi_tag h (some b) = 6) (t2 : gi_tag h (some (b + 1)) = 100) (t3 : gi_len h (some (b + 1)) = 32) (t4 : gi_R h b 4 = some (b + 1)) (hk : 16 * k + i < 32) (ab : a ≠ b) (ab1 : a ≠ b + 1) (hm : gi_I h b 3 + ((if v = -1 then 0 else 1) - (if gi_I h (b + 1) (16 * k + i) = -1 then 0 else 1)) = m) (a5 : gi_I h b 1 = S 95 l) (a6 : ∀ k', k' < 32 → (if k' = 16 * k + i then v else gi_I h (b + 1) k') = S 98 (32 * l + k')) (good : Q (some (.inl m)) (gi_pI (gi_pR (gi_pI (gi_pI h b 3 m) (b + 1) (16 * k + i) v) a 9 (if m ≤ 0 then none else some b)) a 4 ((gi_I h a 4 &&& (-57 : Int32)) ||| (al_ S l <<< ((3 : Int32) &&& 31))))) : gi_ex (gi_cx (d + 1)) 68 Q 42 [some (.inr (.inr (some a))), some (.inl w), some (.inl (nI k)), some (.inl (nI i)), some (.inl v), some (.inr (.inr (some b))), none] [] h := by
  have n1 : (a = b) = False := eq_false ab
  have n2 : (a = b + 1) = False := eq_false ab1
  have n3 : (b = a) = False := eq_false (fun e => ab e.symm)
  have n4 : (b + 1 = a) = False := eq_false (fun e => ab1 e.symm)
  have c18 : ∀ (o : Option Nat) {d : Nat} {Q : gi_P}, gi_cx (d + 1) 18 [.inr (.inr (some b))] (gi_pR (gi_pI (gi_pI h b 3 m) (b + 1) (16 * k + i) v) a 9 o) Q ↔ Q (some (.inl (al_ S l))) (gi_pR (gi_pI (gi_pI h b 3 m) (b + 1) (16 * k + i) v) a 9 o) := fun o {d} {Q} => c_18w (d := d) (Q := Q) (S := S) (l := l) t1 t2 t3 (by rw [R_pR, if_neg (by omega)]; exact t4) (by rw [I_pR, I_pI, if_neg (by omega), I_pI, if_neg (by omega)]; exact a5) (fun k' hk' => by
    rw [I_pR, I_pI, ← a6 k' hk']
    by_cases e : k' = 16 * k + i
    · rw [if_pos ⟨rfl, e⟩, if_pos e]
    · rw [if_neg (fun z => e z.2), if_neg e, I_pI, if_neg (by omega)])
  rcases em_ (m ≤ 0) with q | q <;> simp only [q, ite_true, ite_false] at good <;> simp only [x68_42, x68_44, x68_45, x68_46, x68_48, x68_51, x68_53, x68_56, x68_59, x68_61, x68_64, x68_65, x68_67, x68_68, x68_71, x68_72, x68_74, x68_77, x68_80, x68_81, x68_83, x68_86, x68_87, x68_88, x68_91, x68_93, x68_94, x68_96, x68_99, x68_100, x68_101, x68_102, x68_105, x68_107, x68_110, ldI_1, ldI_2, ldI_3, ldI_4, ldR_0, ldR_5, ldR_6, stR_6i, stR_6n, stR_6r, stR_6n, stR_6r, I_pI, R_pI, c_pI, n_pI, u_pI, t_pI, l_pI, I_pR, R_pR, c_pR, n_pR, u_pR, t_pR, l_pR, get_s, Option.toList, List.nil_append, List.cons_append, List.length_nil, List.length_cons, gi_B, true_and, and_true, false_and, and_false, not_true_eq_false, not_false_eq_true, true_implies, false_implies, implies_true, Classical.not_not, ite_true, ite_false, Option.some.injEq, Sum.inl.injEq, exists_eq', eq_self, true_or, or_true, false_or, or_false, Nat.reduceEqDiff, Nat.reduceLeDiff, Nat.reduceAdd, Nat.zero_le, one_ne0, if_neg one_ne0', lt_102_103, lt_102_104, lt_102_105, lt_102_106, lt_99_107, lt_100_107, lt_101_107, lt_103_107, lt_104_107, lt_105_107, lt_106_107, lt_98_99, lt_98_100, lt_98_101, lt_98_106, c_69 t1 t2 t3 t4 hk, hm, t0, t1, hw, q, n1, n2, n3, n4, s_n1, s_n2, c18] <;> exact good
theorem t68_1 {d a b k i l : Nat} {w v m : Int32} {h : gi_H} {Q : gi_P} {S : gi_Z} (hw : (w = 0) = False) (t0 : gi_tag h (some a) = 5) (t1 : gi_tag h (some b) = 6) (t2 : gi_tag h (some (b + 1)) = 100) (t3 : gi_len h (some (b + 1)) = 32) (t4 : gi_R h b 4 = some (b + 1)) (hk : 16 * k + i < 32) (ab : a ≠ b) (ab1 : a ≠ b + 1) (hm : gi_I h b 3 + ((if v = -1 then 0 else 1) - (if gi_I h (b + 1) (16 * k + i) = -1 then 0 else 1)) = m) (a5 : gi_I h b 1 = S 95 l) (a6 : ∀ k', k' < 32 → (if k' = 16 * k + i then v else gi_I h (b + 1) k') = S 98 (32 * l + k')) (good : Q (some (.inl m)) (gi_pR (gi_pI (gi_pI h b 3 m) (b + 1) (16 * k + i) v) a 10 (if m ≤ 0 then none else some b))) : gi_ex (gi_cx (d + 1)) 68 Q 42 [some (.inr (.inr (some a))), some (.inl w), some (.inl (nI k)), some (.inl (nI i)), some (.inl v), some (.inr (.inr (some b))), none] [] h := by
  have n1 : (a = b) = False := eq_false ab
  have n2 : (a = b + 1) = False := eq_false ab1
  have n3 : (b = a) = False := eq_false (fun e => ab e.symm)
  have n4 : (b + 1 = a) = False := eq_false (fun e => ab1 e.symm)
  rcases em_ (m ≤ 0) with q | q <;> simp only [q, ite_true, ite_false] at good <;> simp only [x68_42, x68_44, x68_45, x68_46, x68_48, x68_51, x68_53, x68_56, x68_59, x68_61, x68_64, x68_65, x68_67, x68_68, x68_71, x68_72, x68_74, x68_77, x68_80, x68_81, x68_83, x68_86, x68_87, x68_88, x68_91, x68_93, x68_94, x68_96, x68_99, x68_100, x68_101, x68_102, x68_105, x68_107, x68_110, ldI_1, ldI_2, ldI_3, ldI_4, ldR_0, ldR_5, ldR_6, stR_6i, stR_6n, stR_6r, stR_6n, stR_6r, I_pI, R_pI, c_pI, n_pI, u_pI, t_pI, l_pI, I_pR, R_pR, c_pR, n_pR, u_pR, t_pR, l_pR, get_s, Option.toList, List.nil_append, List.cons_append, List.length_nil, List.length_cons, gi_B, true_and, and_true, false_and, and_false, not_true_eq_false, not_false_eq_true, true_implies, false_implies, implies_true, Classical.not_not, ite_true, ite_false, Option.some.injEq, Sum.inl.injEq, exists_eq', eq_self, true_or, or_true, false_or, or_false, Nat.reduceEqDiff, Nat.reduceLeDiff, Nat.reduceAdd, Nat.zero_le, one_ne0, if_neg one_ne0', lt_102_103, lt_102_104, lt_102_105, lt_102_106, lt_99_107, lt_100_107, lt_101_107, lt_103_107, lt_104_107, lt_105_107, lt_106_107, lt_98_99, lt_98_100, lt_98_101, lt_98_106, c_69 t1 t2 t3 t4 hk, hm, t0, t1, hw, q, n1, n2, n3, n4, s_n1, s_n2] <;> exact good
theorem sL1_up {S S' : gi_Z} {l q : Nat} {v : Int32} (H : sL1 S l) (hq : q < 32) (hz : 0 < (S 83 (l / 2)).toInt) (h83 : S' 83 (l / 2) = S 83 (l / 2)) (hv : -1 ≤ v.toInt ∧ v.toInt ≤ 7) (eq : S' 98 (32 * l + q) = v) (en : ∀ k, k < 32 → k ≠ q → S' 98 (32 * l + k) = S 98 (32 * l + k)) (r95 : vp_in (S' 95 l) 8) (r96 : vp_in (S' 96 l) 8) (r97 : vp_in (S' 97 l) 8) (hm : (S' 93 l).toInt + (if 0 ≤ S 98 (32 * l + q) then 1 else 0) = (S 93 l).toInt + (if 0 ≤ v then 1 else 0)) (h8 : (S' 93 l).toInt ≤ 8) (lim : ¬ S' 93 l = 0 → S' 94 l = if l % 2 = 0 then (S' 87 (l / 2) >>> 3) &&& 7 else al_ S' l) : sL1 S' l := by
  obtain ⟨q1, q2, q3, q4⟩ := H
  have ct := ct_up (f := fun k => decide (0 ≤ S 98 (32 * l + k))) (g := fun k => decide (0 ≤ S' 98 (32 * l + k))) (q := q) 32 0 (by omega) (by omega) (fun k _ w2 w3 => by rw [en k (by omega) w3])
  simp only [eq] at ct
  have c0 := (q4 hz).1
  have b1 : (bif decide (0 ≤ S 98 (32 * l + q)) then 1 else 0 : Nat) = if 0 ≤ S 98 (32 * l + q) then 1 else 0 := by by_cases w : 0 ≤ S 98 (32 * l + q) <;> simp [w]
  have b2 : (bif decide (0 ≤ v) then 1 else 0 : Nat) = if 0 ≤ v then 1 else 0 := by by_cases w : 0 ≤ v <;> simp [w]
  rw [b1, b2, ← c0] at ct
  have cl : ((S 93 l).toNatClampNeg : Int) = (S 93 l).toInt := by
    obtain ⟨m, hm', em⟩ := nI_of (x := S 93 l) (by rw [i32_lt, ti_0]; omega)
    rw [em, nI_clamp hm', nI_toInt hm']
  have ge : 0 ≤ (S' 93 l).toInt ∧ ((gi_ct (fun k => decide (0 ≤ S' 98 (32 * l + k))) 0 32 : Nat) : Int) = (S' 93 l).toInt := by
    split at hm <;> split at hm <;> simp_all <;> omega
  refine ⟨⟨ge.1, h8⟩, ⟨r95, r96, r97⟩, fun k hk => ?_, fun _ => ⟨?_, lim⟩⟩
  · by_cases e : k = q
    · rw [e, eq]; exact hv
    · rw [en k hk e]; exact q3 k hk
  · have := ge.2
    obtain ⟨m, hm', em⟩ := nI_of (x := S' 93 l) (by rw [i32_lt, ti_0]; omega)
    rw [em, nI_toInt hm'] at this
    rw [em, nI_clamp hm']
    omega

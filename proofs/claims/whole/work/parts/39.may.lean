/-! who may do what: loops, groups, lists -/
theorem loop_st {σ : Type} {E : σ → Int32 → Prop} {N : Nat} {f : Nat → σ → σ} (hs : ∀ j, j < N → ∀ s, E (f j s) (nI (j + 1)) → E s (nI j)) : ∀ m j s, j + m = N → E (gi_fd f j m s) (nI N) → E s (nI j)
  | 0, j, s, e, h => by
    obtain rfl : j = N := by omega
    exact h
  | m + 1, j, s, e, h => hs j (by omega) s (loop_st hs m (j + 1) _ (by omega) h)
theorem gi_fd_r {σ τ : Type} {f : Nat → σ → σ} {g : Nat → τ → τ} {R : σ → τ → Prop} (hs : ∀ j s t, R s t → R (f j s) (g j t)) : ∀ m j s t, R s t → R (gi_fd f j m s) (gi_fd g j m t)
  | 0, _, _, _, h => h
  | m + 1, j, s, t, h => gi_fd_r hs m (j + 1) _ _ (hs j s t h)
theorem gi_fd_q {σ τ : Type} {f : Nat → σ → σ} {g : Nat → τ → τ} {R : σ → τ → Prop} : ∀ m j s t, (∀ k, j ≤ k → k < j + m → ∀ s t, R s t → R (f k s) (g k t)) → R s t → R (gi_fd f j m s) (gi_fd g j m t)
  | 0, _, _, _, _, h => h
  | m + 1, j, s, t, hs, h => gi_fd_q m (j + 1) _ _ (fun k h1 h2 => hs k (by omega) (by omega)) (hs j (Nat.le_refl _) (by omega) s t h)
theorem and1 (y : Int32) : y &&& 1 = 0 ∨ y &&& 1 = 1 := by
  obtain ⟨j, hj, e⟩ := pk_andE y (m := 1) 1 (by decide)
  rw [e]
  have : j = 0 ∨ j = 1 := by omega
  rcases this with rfl | rfl
  · exact Or.inl rfl
  · exact Or.inr rfl
theorem and1n {y : Int32} : (y &&& 1 = 0) = ¬ (y &&& 1 = 1) := by
  rcases and1 y with e | e <;> rw [e] <;> decide
theorem and3 {a b x : Int32} : (a &&& b &&& x = x) ↔ (a &&& x = x ∧ b &&& x = x) := by
  constructor
  · intro h
    refine ⟨?_, ?_⟩
    · calc a &&& x = a &&& (a &&& b &&& x) := by rw [h]
        _ = a &&& b &&& x := by rw [← Int32.and_assoc, ← Int32.and_assoc, Int32.and_self]
        _ = x := h
    · calc b &&& x = b &&& (a &&& b &&& x) := by rw [h]
        _ = a &&& b &&& x := by rw [Int32.and_comm a b, ← Int32.and_assoc, ← Int32.and_assoc, Int32.and_self]
        _ = x := h
  · rintro ⟨h1, h2⟩
    rw [Int32.and_assoc, h2, h1]
theorem x7 {x : Int32} (hx : vp_in x 8) : 7 &&& x = x := by
  obtain ⟨j, hj, rfl⟩ := vp_in_of hx (by omega)
  have key : ∀ j, j < 8 → 7 &&& nI j = nI j := by decide
  exact key j hj
theorem and7 {a x : Int32} (hx : vp_in x 8) : ((a &&& 7) &&& x = x) = (a &&& x = x) := by rw [Int32.and_assoc, x7 hx]
/-- a user is in a group -/
def inG (S : gi_Z) (u : Nat) (g : Int32) : Bool := decide (S 80 u = g) || decide ((S 81 u >>> (g &&& 31)) &&& 1 = 1)
theorem c_106 {d u : Nat} {g : Int32} {h : gi_H} {Q : gi_P} (hS : gi_S h) (hu : u < 16) : gi_cx (d + 1) 106 [.inr (.inr (some 79)), .inl (nI u), .inl g] h Q ↔ gi_B (inG (gi_I h) u g = true) Q h := by
  refine cx_b ?_
  simp only [e106, x106_0, x106_1, x106_4, x106_5, x106_6, x106_7, x106_10, x106_11, x106_14, x106_15, x106_16, x106_17, x106_18, x106_19, x106_20, x106_21, x106_24, x106_25, x106_28, x106_29, ldI_1, ldI_2, ldR_0, I_pI, R_pI, c_pI, n_pI, u_pI, t_pI, l_pI, I_pR, R_pR, c_pR, n_pR, u_pR, t_pR, l_pR, get_s, Option.toList, List.nil_append, List.cons_append, List.length_nil, List.length_cons, gi_B, tg_1 hS, tg_2 hS, tg_3 hS, tg_4 hS, tg_5 hS, tg_6 hS, tg_7 hS, tg_8 hS, tg_9 hS, tg_10 hS, tg_75 hS, tg_79 hS, tg_80 hS, tg_81 hS, tg_82 hS, tg_83 hS, tg_84 hS, tg_85 hS, tg_86 hS, tg_87 hS, tg_88 hS, tg_89 hS, tg_90 hS, tg_91 hS, tg_92 hS, tg_93 hS, tg_94 hS, tg_95 hS, tg_96 hS, tg_97 hS, tg_98 hS, tg_99 hS, tg_100 hS, tg_101 hS, tg_102 hS, tg_103 hS, tg_104 hS, tg_105 hS, tg_106 hS, tg_107 hS, tg_108 hS, ln_2 hS, ln_3 hS, ln_4 hS, ln_5 hS, ln_7 hS, ln_9 hS, ln_10 hS, ln_75 hS, ln_80 hS, ln_81 hS, ln_82 hS, ln_83 hS, ln_84 hS, ln_85 hS, ln_86 hS, ln_87 hS, ln_88 hS, ln_89 hS, ln_90 hS, ln_91 hS, ln_92 hS, ln_93 hS, ln_94 hS, ln_95 hS, ln_96 hS, ln_97 hS, ln_98 hS, ln_99 hS, ln_100 hS, ln_101 hS, ln_102 hS, ln_103 hS, ln_104 hS, ln_105 hS, ln_106 hS, ln_107 hS, ln_108 hS, rf_1_0 hS, rf_1_1 hS, rf_1_2 hS, rf_1_3 hS, rf_1_4 hS, rf_1_5 hS, rf_1_6 hS, rf_6_0 hS, rf_8_1 hS, rf_8_2 hS, rf_79_1 hS, rf_79_2 hS, rf_79_3 hS, rf_79_4 hS, rf_79_5 hS, rf_79_6 hS, rf_79_7 hS, rf_79_8 hS, rf_79_9 hS, rf_79_10 hS, rf_79_11 hS, rf_79_12 hS, rf_79_13 hS, rf_79_14 hS, rf_79_15 hS, rf_79_16 hS, rf_79_17 hS, rf_79_18 hS, rf_79_19 hS, rf_79_20 hS, rf_79_21 hS, rf_79_22 hS, rf_79_24 hS, rf_79_25 hS, rf_79_26 hS, rf_79_27 hS, rf_79_28 hS, rf_79_29 hS, rf_79_30 hS, true_and, and_true, false_and, and_false, not_true_eq_false, not_false_eq_true, true_implies, false_implies, implies_true, Classical.not_not, ite_true, ite_false, Option.some.injEq, Sum.inl.injEq, exists_eq', eq_self, true_or, or_true, false_or, or_false, Nat.reduceEqDiff, Nat.reduceLeDiff, Nat.reduceAdd, Nat.zero_le, one_ne0, if_neg one_ne0', lt_102_103, lt_102_104, lt_102_105, lt_102_106, lt_99_107, lt_100_107, lt_101_107, lt_103_107, lt_104_107, lt_105_107, lt_106_107, lt_98_99, lt_98_100, lt_98_101, lt_98_106, vp_in_nI hu (show 16 < 2 ^ 31 by omega), nI_clamp (show u < 2 ^ 31 by omega)]
  by_cases w1 : gi_I h 80 u = g
  · simp [w1, inG]
  · by_cases w2 : (gi_I h 81 u >>> (g &&& 31)) &&& 1 = 1
    · simp [w1, w2, inG]
    · simp [w1, w2, inG]
theorem c_21 {d u : Nat} {g : Int32} {h : gi_H} {Q : gi_P} (hS : gi_S h) (hA : rA h (gi_I h)) (hu : u < 16) : gi_cx (d + 1) 21 [.inr (.inr (some 1)), .inl (nI u), .inl g] h Q ↔ gi_B (inG (gi_I h) u g = true) Q h := by
  refine cx_b ?_
  simp only [e21, x21_0, x21_1, x21_4, x21_5, x21_6, x21_7, x21_10, x21_11, x21_14, x21_15, x21_16, x21_17, x21_18, x21_19, x21_20, x21_23, x21_24, x21_27, x21_28, ldI_1, ldI_2, ldR_0, I_pI, R_pI, c_pI, n_pI, u_pI, t_pI, l_pI, I_pR, R_pR, c_pR, n_pR, u_pR, t_pR, l_pR, get_s, Option.toList, List.nil_append, List.cons_append, List.length_nil, List.length_cons, gi_B, tg_1 hS, tg_2 hS, tg_3 hS, tg_4 hS, tg_5 hS, tg_6 hS, tg_7 hS, tg_8 hS, tg_9 hS, tg_10 hS, tg_75 hS, tg_79 hS, tg_80 hS, tg_81 hS, tg_82 hS, tg_83 hS, tg_84 hS, tg_85 hS, tg_86 hS, tg_87 hS, tg_88 hS, tg_89 hS, tg_90 hS, tg_91 hS, tg_92 hS, tg_93 hS, tg_94 hS, tg_95 hS, tg_96 hS, tg_97 hS, tg_98 hS, tg_99 hS, tg_100 hS, tg_101 hS, tg_102 hS, tg_103 hS, tg_104 hS, tg_105 hS, tg_106 hS, tg_107 hS, tg_108 hS, ln_2 hS, ln_3 hS, ln_4 hS, ln_5 hS, ln_7 hS, ln_9 hS, ln_10 hS, ln_75 hS, ln_80 hS, ln_81 hS, ln_82 hS, ln_83 hS, ln_84 hS, ln_85 hS, ln_86 hS, ln_87 hS, ln_88 hS, ln_89 hS, ln_90 hS, ln_91 hS, ln_92 hS, ln_93 hS, ln_94 hS, ln_95 hS, ln_96 hS, ln_97 hS, ln_98 hS, ln_99 hS, ln_100 hS, ln_101 hS, ln_102 hS, ln_103 hS, ln_104 hS, ln_105 hS, ln_106 hS, ln_107 hS, ln_108 hS, rf_1_0 hS, rf_1_1 hS, rf_1_2 hS, rf_1_3 hS, rf_1_4 hS, rf_1_5 hS, rf_1_6 hS, rf_6_0 hS, rf_8_1 hS, rf_8_2 hS, rf_79_1 hS, rf_79_2 hS, rf_79_3 hS, rf_79_4 hS, rf_79_5 hS, rf_79_6 hS, rf_79_7 hS, rf_79_8 hS, rf_79_9 hS, rf_79_10 hS, rf_79_11 hS, rf_79_12 hS, rf_79_13 hS, rf_79_14 hS, rf_79_15 hS, rf_79_16 hS, rf_79_17 hS, rf_79_18 hS, rf_79_19 hS, rf_79_20 hS, rf_79_21 hS, rf_79_22 hS, rf_79_24 hS, rf_79_25 hS, rf_79_26 hS, rf_79_27 hS, rf_79_28 hS, rf_79_29 hS, rf_79_30 hS, true_and, and_true, false_and, and_false, not_true_eq_false, not_false_eq_true, true_implies, false_implies, implies_true, Classical.not_not, ite_true, ite_false, Option.some.injEq, Sum.inl.injEq, exists_eq', eq_self, true_or, or_true, false_or, or_false, Nat.reduceEqDiff, Nat.reduceLeDiff, Nat.reduceAdd, Nat.zero_le, one_ne0, if_neg one_ne0', lt_102_103, lt_102_104, lt_102_105, lt_102_106, lt_99_107, lt_100_107, lt_101_107, lt_103_107, lt_104_107, lt_105_107, lt_106_107, lt_98_99, lt_98_100, lt_98_101, lt_98_106, vp_in_nI hu (show 16 < 2 ^ 31 by omega), nI_clamp (show u < 2 ^ 31 by omega), hA.2.1 u hu, hA.2.2.1 u hu, and1n]
  by_cases w1 : gi_I h 80 u = g
  · simp [w1, inG]
  · by_cases w2 : (gi_I h 81 u >>> (g &&& 31)) &&& 1 = 1
    · simp [w1, w2, inG]
    · simp [w1, w2, inG]
/-- a list's cells -/
theorem rL_t {h : gi_H} {S : gi_Z} {l r : Nat} (H : rL h S l (some r)) : gi_tag h (some r) = 6 ∧ gi_tag h (some (r + 1)) = 100 ∧ gi_len h (some (r + 1)) = 32 ∧ gi_R h r 4 = some (r + 1) ∧ gi_I h r 1 = S 95 l ∧ (∀ k, k < 32 → gi_I h (r + 1) k = S 98 (32 * l + k)) := by
  obtain ⟨d1, d2, h1, h2, h3, h4, h5, h6, h7, h8, h9⟩ := H.2 r rfl
  exact ⟨by rw [tag_s, h1], by rw [tag_s, h2], by rw [len_s, h2], h3, h5, h9⟩
theorem ixB {k i : Nat} : nI k * 16 + nI i = nI (16 * k + i) := by
  rw [show (16 : Int32) = nI 16 from rfl, pk_mul, nI_add]; congr 1; omega
theorem c_25 {d r k i : Nat} {h : gi_H} {Q : gi_P} (t1 : gi_tag h (some r) = 6) (t2 : gi_tag h (some (r + 1)) = 100) (t3 : gi_len h (some (r + 1)) = 32) (t4 : gi_R h r 4 = some (r + 1)) (hk : 16 * k + i < 32) : gi_cx (d + 1) 25 [.inr (.inr (some r)), .inl (nI k), .inl (nI i)] h Q ↔ Q (some (.inl (gi_I h (r + 1) (16 * k + i)))) h := by
  refine gi_cx_iff ?_ Q
  simp only [e25, x25_0, x25_1, x25_4, x25_5, x25_7, x25_8, x25_9, x25_10, x25_11, ldI_1, ldI_2, ldR_0, I_pI, R_pI, c_pI, n_pI, u_pI, t_pI, l_pI, I_pR, R_pR, c_pR, n_pR, u_pR, t_pR, l_pR, get_s, Option.toList, List.nil_append, List.cons_append, List.length_nil, List.length_cons, gi_B, true_and, and_true, false_and, and_false, not_true_eq_false, not_false_eq_true, true_implies, false_implies, implies_true, Classical.not_not, ite_true, ite_false, Option.some.injEq, Sum.inl.injEq, exists_eq', eq_self, true_or, or_true, false_or, or_false, Nat.reduceEqDiff, Nat.reduceLeDiff, Nat.reduceAdd, Nat.zero_le, one_ne0, if_neg one_ne0', lt_102_103, lt_102_104, lt_102_105, lt_102_106, lt_99_107, lt_100_107, lt_101_107, lt_103_107, lt_104_107, lt_105_107, lt_106_107, lt_98_99, lt_98_100, lt_98_101, lt_98_106, ixB, t1, t2, t3, t4, vp_in_nI hk (show 32 < 2 ^ 31 by omega), nI_clamp (show 16 * k + i < 2 ^ 31 by omega)]
theorem c_18 {d r l : Nat} {h : gi_H} {Q : gi_P} {S : gi_Z} (H : rL h S l (some r)) : gi_cx (d + 1) 18 [.inr (.inr (some r))] h Q ↔ Q (some (.inl (al_ S l))) h := by
  obtain ⟨t1, t2, t3, t4, t5, t6⟩ := rL_t H
  refine gi_cx_iff ?_ Q
  rw [e18]
  generalize hq : (fun (r1 : Option gi_V) (h1 : gi_H) => r1 = some (.inl (al_ S l)) ∧ h1 = h) = Q1
  have hQ : Q1 (some (.inl (al_ S l))) h := by rw [← hq]; exact ⟨rfl, rfl⟩
  clear hq
  have key := loop_st (σ := Int32) (E := fun aq iq => gi_ex (gi_cx d) 18 Q1 7 [some (.inr (.inr (some r))), some (.inl aq), some (.inl iq)] [] h) (N := 32) (f := fun k (a : Int32) => if S 98 (32 * l + k) = -1 then a else a ||| S 98 (32 * l + k)) (fun j hj c hx => ?_) 32 0 (S 95 l) rfl ?_
  · simp only [x18_0, x18_1, x18_4, x18_5, x18_6, x18_8, x18_9, x18_12, x18_13, x18_16, x18_17, x18_20, x18_21, x18_22, x18_23, x18_26, x18_27, x18_28, x18_31, x18_32, x18_33, x18_34, x18_35, x18_38, x18_41, x18_42, inc_2i, inc_2n, inc_2r, ldI_1, ldI_2, ldR_0, stI_1i, stI_1n, stI_1r, stI_2i, stI_2n, stI_2r, I_pI, R_pI, c_pI, n_pI, u_pI, t_pI, l_pI, I_pR, R_pR, c_pR, n_pR, u_pR, t_pR, l_pR, get_s, Option.toList, List.nil_append, List.cons_append, List.length_nil, List.length_cons, gi_B, true_and, and_true, false_and, and_false, not_true_eq_false, not_false_eq_true, true_implies, false_implies, implies_true, Classical.not_not, ite_true, ite_false, Option.some.injEq, Sum.inl.injEq, exists_eq', eq_self, true_or, or_true, false_or, or_false, Nat.reduceEqDiff, Nat.reduceLeDiff, Nat.reduceAdd, Nat.zero_le, one_ne0, if_neg one_ne0', lt_102_103, lt_102_104, lt_102_105, lt_102_106, lt_99_107, lt_100_107, lt_101_107, lt_103_107, lt_104_107, lt_105_107, lt_106_107, lt_98_99, lt_98_100, lt_98_101, lt_98_106, t1, t5]
    exact key
  · rw [x18_7]
    simp only [x18_0, x18_1, x18_4, x18_5, x18_6, x18_8, x18_9, x18_12, x18_13, x18_16, x18_17, x18_20, x18_21, x18_22, x18_23, x18_26, x18_27, x18_28, x18_31, x18_32, x18_33, x18_34, x18_35, x18_38, x18_41, x18_42, inc_2i, inc_2n, inc_2r, ldI_1, ldI_2, ldR_0, stI_1i, stI_1n, stI_1r, stI_2i, stI_2n, stI_2r, I_pI, R_pI, c_pI, n_pI, u_pI, t_pI, l_pI, I_pR, R_pR, c_pR, n_pR, u_pR, t_pR, l_pR, get_s, Option.toList, List.nil_append, List.cons_append, List.length_nil, List.length_cons, gi_B, true_and, and_true, false_and, and_false, not_true_eq_false, not_false_eq_true, true_implies, false_implies, implies_true, Classical.not_not, ite_true, ite_false, Option.some.injEq, Sum.inl.injEq, exists_eq', eq_self, true_or, or_true, false_or, or_false, Nat.reduceEqDiff, Nat.reduceLeDiff, Nat.reduceAdd, Nat.zero_le, one_ne0, if_neg one_ne0', lt_102_103, lt_102_104, lt_102_105, lt_102_106, lt_99_107, lt_100_107, lt_101_107, lt_103_107, lt_104_107, lt_105_107, lt_106_107, lt_98_99, lt_98_100, lt_98_101, lt_98_106, t1, t2, t3, t4, show Int32.ofNat 32 = nI 32 from rfl, lit_le (show 32 < 2147483648 by omega) hj, vp_in_nI hj (show 32 < 2 ^ 31 by omega), nI_clamp (show j < 2 ^ 31 by omega), nI_i1, t6 j hj]
    by_cases w : S 98 (32 * l + j) = -1
    · rw [if_pos w] at hx
      exact ⟨fun _ => hx, fun q => absurd w q⟩
    · rw [if_neg w] at hx
      exact ⟨fun q => absurd q w, fun _ => hx⟩
  · rw [x18_7]
    simp only [x18_0, x18_1, x18_4, x18_5, x18_6, x18_8, x18_9, x18_12, x18_13, x18_16, x18_17, x18_20, x18_21, x18_22, x18_23, x18_26, x18_27, x18_28, x18_31, x18_32, x18_33, x18_34, x18_35, x18_38, x18_41, x18_42, inc_2i, inc_2n, inc_2r, ldI_1, ldI_2, ldR_0, stI_1i, stI_1n, stI_1r, stI_2i, stI_2n, stI_2r, I_pI, R_pI, c_pI, n_pI, u_pI, t_pI, l_pI, I_pR, R_pR, c_pR, n_pR, u_pR, t_pR, l_pR, get_s, Option.toList, List.nil_append, List.cons_append, List.length_nil, List.length_cons, gi_B, true_and, and_true, false_and, and_false, not_true_eq_false, not_false_eq_true, true_implies, false_implies, implies_true, Classical.not_not, ite_true, ite_false, Option.some.injEq, Sum.inl.injEq, exists_eq', eq_self, true_or, or_true, false_or, or_false, Nat.reduceEqDiff, Nat.reduceLeDiff, Nat.reduceAdd, Nat.zero_le, one_ne0, if_neg one_ne0', lt_102_103, lt_102_104, lt_102_105, lt_102_106, lt_99_107, lt_100_107, lt_101_107, lt_103_107, lt_104_107, lt_105_107, lt_106_107, lt_98_99, lt_98_100, lt_98_101, lt_98_106, t1, t2, t3, t4, show Int32.ofNat 32 = nI 32 from rfl, lit_ge]
    exact hQ

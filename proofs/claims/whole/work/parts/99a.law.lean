/-! the law: one call -/
set_option maxRecDepth 100000

theorem cmp_self {x : Int64} : lg_cmp x x = 0 := by simp [lg_cmp]
theorem lw_144 {L : Nat} {xs : Nat → Int32} {c d i : Nat} {h : gi_H} {Q : gi_P} (J : jH L xs c h) (hc : c ≤ 7142) (hi : i + 7 ≤ L) (hL : L ≤ 50000) (nx : ∀ h2, jH L xs (c + 1) h2 → gi_ex (gi_cx (d + 8)) 0 Q 1259 [some (.inr (.inr (some 0))), some (.inr (.inr (some 1))), some (.inr (.inr (some 79))), some (.inl (nI i))] [] h2) : gi_ex (gi_cx (d + 8)) 0 Q 144 [some (.inr (.inr (some 0))), some (.inr (.inr (some 1))), some (.inr (.inr (some 79))), some (.inl (nI i))] [] h := by
  have hS := J.1
  have h109 := hS.1
  have t0 : gi_tag h (some 0) = 99 := by rw [tag_s, J.2.2.1]
  have l0 : gi_len h (some 0) = L := by rw [len_s, J.2.2.1]
  have I0 : ∀ j, gi_I h 0 j = xs j := J.2.2.2.1
  have nn0 : ((99 : Nat) = 100) = False := by decide
  have nn1 : ((99 : Nat) = 99) = True := by decide
  have e1 : nI i + 1 = nI (i + 1) := nI_add _ _
  have f1 : vp_in (nI (i + 1)) L = True := eq_true (vp_in_nI (by omega) (by omega))
  have g1 : (nI (i + 1)).toNatClampNeg = i + 1 := nI_clamp (by omega)
  obtain ⟨v, h1, h2, A, B, J2⟩ := gi_Pr_get (show gi_Pr L xs (d + 8) 7 97 [.inl (xs (i + 1))] c h from pr_tick (d := d + 5) J (xs (i + 1)))
  obtain ⟨x, rfl⟩ : ∃ x, v = .inl x := by
    obtain ⟨x, hx⟩ := (A _).mp (ty_I (by decide) (by decide) ((A (fun _ _ => True)).mpr trivial))
    exact ⟨x, by injection hx⟩
  have F : fr h h1 := by
    obtain ⟨r, k, e, f⟩ := gi_frm _ _ _ _ _ ((A (fun _ k => k = h1)).mpr rfl)
    rw [← e]; exact f
  obtain ⟨F1, F2, F3⟩ := F (by omega)
  have u0 : gi_tag h1 (some 0) = 99 := by rw [tag_s, F2 0 (by omega), J.2.2.1]
  have m0 : gi_len h1 (some 0) = L := by rw [len_s, F2 0 (by omega), J.2.2.1]
  have u79 : gi_tag h1 (some 79) = 9 := by rw [tag_s, F2 79 (by omega)]; exact tg_79 hS
  have I1 : ∀ j, gi_I h1 0 j = xs j := fun j => by rw [F3 (by rw [J.2.2.1]) j]; exact J.2.2.2.1 j
  simp only [x0_144, x0_145, x0_146, x0_147, x0_148, x0_149, x0_150, x0_153, x0_154, x0_155, x0_156, x0_157, x0_158, x0_159, x0_162, x0_165, x0_166, ldI_3, ldR_0, ldR_1, ldR_2, I_pI, R_pI, c_pI, n_pI, u_pI, t_pI, l_pI, I_pR, R_pR, c_pR, n_pR, u_pR, t_pR, l_pR, get_s, Option.toList, List.nil_append, List.cons_append, List.length_nil, List.length_cons, gi_B, true_and, and_true, false_and, and_false, not_true_eq_false, not_false_eq_true, true_implies, false_implies, implies_true, Classical.not_not, ite_true, ite_false, Option.some.injEq, Sum.inl.injEq, exists_eq', eq_self, true_or, or_true, false_or, or_false, Nat.reduceEqDiff, Nat.reduceLeDiff, Nat.reduceAdd, Nat.zero_le, one_ne0, if_neg one_ne0', lt_102_103, lt_102_104, lt_102_105, lt_102_106, lt_99_107, lt_100_107, lt_101_107, lt_103_107, lt_104_107, lt_105_107, lt_106_107, lt_98_99, lt_98_100, lt_98_101, lt_98_106, e1, f1, g1, t0, l0, u0, m0, u79, tg_1 hS, I0, I1, A, B, nn0, nn1, cmp_self]
  exact nx h2 J2
theorem lw_167 {L : Nat} {xs : Nat → Int32} {c d i : Nat} {h : gi_H} {Q : gi_P} (J : jH L xs c h) (hc : c ≤ 7142) (hi : i + 7 ≤ L) (hL : L ≤ 50000) (nx : ∀ h2, jH L xs (c + 1) h2 → gi_ex (gi_cx (d + 8)) 0 Q 1259 [some (.inr (.inr (some 0))), some (.inr (.inr (some 1))), some (.inr (.inr (some 79))), some (.inl (nI i))] [] h2) : gi_ex (gi_cx (d + 8)) 0 Q 167 [some (.inr (.inr (some 0))), some (.inr (.inr (some 1))), some (.inr (.inr (some 79))), some (.inl (nI i))] [] h := by
  have hS := J.1
  have h109 := hS.1
  have t0 : gi_tag h (some 0) = 99 := by rw [tag_s, J.2.2.1]
  have l0 : gi_len h (some 0) = L := by rw [len_s, J.2.2.1]
  have I0 : ∀ j, gi_I h 0 j = xs j := J.2.2.2.1
  have nn0 : ((99 : Nat) = 100) = False := by decide
  have nn1 : ((99 : Nat) = 99) = True := by decide
  have e1 : nI i + 1 = nI (i + 1) := nI_add _ _
  have f1 : vp_in (nI (i + 1)) L = True := eq_true (vp_in_nI (by omega) (by omega))
  have g1 : (nI (i + 1)).toNatClampNeg = i + 1 := nI_clamp (by omega)
  have e2 : nI i + 2 = nI (i + 2) := nI_add _ _
  have f2 : vp_in (nI (i + 2)) L = True := eq_true (vp_in_nI (by omega) (by omega))
  have g2 : (nI (i + 2)).toNatClampNeg = i + 2 := nI_clamp (by omega)
  obtain ⟨v, h1, h2, A, B, J2⟩ := gi_Pr_get (show gi_Pr L xs (d + 8) 9 99 [.inl (xs (i + 1)), .inl (xs (i + 2))] c h from pr_first (d := d + 5) J (xs (i + 1)) (xs (i + 2)))
  obtain ⟨x, rfl⟩ : ∃ x, v = .inl x := by
    obtain ⟨x, hx⟩ := (A _).mp (ty_I (by decide) (by decide) ((A (fun _ _ => True)).mpr trivial))
    exact ⟨x, by injection hx⟩
  have F : fr h h1 := by
    obtain ⟨r, k, e, f⟩ := gi_frm _ _ _ _ _ ((A (fun _ k => k = h1)).mpr rfl)
    rw [← e]; exact f
  obtain ⟨F1, F2, F3⟩ := F (by omega)
  have u0 : gi_tag h1 (some 0) = 99 := by rw [tag_s, F2 0 (by omega), J.2.2.1]
  have m0 : gi_len h1 (some 0) = L := by rw [len_s, F2 0 (by omega), J.2.2.1]
  have u79 : gi_tag h1 (some 79) = 9 := by rw [tag_s, F2 79 (by omega)]; exact tg_79 hS
  have I1 : ∀ j, gi_I h1 0 j = xs j := fun j => by rw [F3 (by rw [J.2.2.1]) j]; exact J.2.2.2.1 j
  simp only [x0_167, x0_168, x0_169, x0_170, x0_171, x0_172, x0_173, x0_174, x0_175, x0_176, x0_177, x0_178, x0_181, x0_182, x0_183, x0_184, x0_185, x0_186, x0_187, x0_188, x0_189, x0_190, x0_191, x0_192, x0_195, x0_198, x0_199, ldI_3, ldR_0, ldR_1, ldR_2, I_pI, R_pI, c_pI, n_pI, u_pI, t_pI, l_pI, I_pR, R_pR, c_pR, n_pR, u_pR, t_pR, l_pR, get_s, Option.toList, List.nil_append, List.cons_append, List.length_nil, List.length_cons, gi_B, true_and, and_true, false_and, and_false, not_true_eq_false, not_false_eq_true, true_implies, false_implies, implies_true, Classical.not_not, ite_true, ite_false, Option.some.injEq, Sum.inl.injEq, exists_eq', eq_self, true_or, or_true, false_or, or_false, Nat.reduceEqDiff, Nat.reduceLeDiff, Nat.reduceAdd, Nat.zero_le, one_ne0, if_neg one_ne0', lt_102_103, lt_102_104, lt_102_105, lt_102_106, lt_99_107, lt_100_107, lt_101_107, lt_103_107, lt_104_107, lt_105_107, lt_106_107, lt_98_99, lt_98_100, lt_98_101, lt_98_106, e1, f1, g1, e2, f2, g2, t0, l0, u0, m0, u79, tg_1 hS, I0, I1, A, B, nn0, nn1, cmp_self]
  exact nx h2 J2
theorem lw_200 {L : Nat} {xs : Nat → Int32} {c d i : Nat} {h : gi_H} {Q : gi_P} (J : jH L xs c h) (hc : c ≤ 7142) (hi : i + 7 ≤ L) (hL : L ≤ 50000) (nx : ∀ h2, jH L xs (c + 1) h2 → gi_ex (gi_cx (d + 8)) 0 Q 1259 [some (.inr (.inr (some 0))), some (.inr (.inr (some 1))), some (.inr (.inr (some 79))), some (.inl (nI i))] [] h2) : gi_ex (gi_cx (d + 8)) 0 Q 200 [some (.inr (.inr (some 0))), some (.inr (.inr (some 1))), some (.inr (.inr (some 79))), some (.inl (nI i))] [] h := by
  have hS := J.1
  have h109 := hS.1
  have t0 : gi_tag h (some 0) = 99 := by rw [tag_s, J.2.2.1]
  have l0 : gi_len h (some 0) = L := by rw [len_s, J.2.2.1]
  have I0 : ∀ j, gi_I h 0 j = xs j := J.2.2.2.1
  have nn0 : ((99 : Nat) = 100) = False := by decide
  have nn1 : ((99 : Nat) = 99) = True := by decide
  have e1 : nI i + 1 = nI (i + 1) := nI_add _ _
  have f1 : vp_in (nI (i + 1)) L = True := eq_true (vp_in_nI (by omega) (by omega))
  have g1 : (nI (i + 1)).toNatClampNeg = i + 1 := nI_clamp (by omega)
  have e2 : nI i + 2 = nI (i + 2) := nI_add _ _
  have f2 : vp_in (nI (i + 2)) L = True := eq_true (vp_in_nI (by omega) (by omega))
  have g2 : (nI (i + 2)).toNatClampNeg = i + 2 := nI_clamp (by omega)
  have e3 : nI i + 3 = nI (i + 3) := nI_add _ _
  have f3 : vp_in (nI (i + 3)) L = True := eq_true (vp_in_nI (by omega) (by omega))
  have g3 : (nI (i + 3)).toNatClampNeg = i + 3 := nI_clamp (by omega)
  rcases em_ (xs (i + 3) = 0) with b0 | b0
  · obtain ⟨v, h1, h2, A, B, J2⟩ := gi_Pr_get (show gi_Pr L xs (d + 8) 11 101 [.inl (xs (i + 1)), .inl (xs (i + 2)), .inl ((0 : Int32))] c h from pr_member (d := d + 5) J (xs (i + 1)) (xs (i + 2)) ((0 : Int32)))
    obtain ⟨x, rfl⟩ : ∃ x, v = .inl x := by
      obtain ⟨x, hx⟩ := (A _).mp (ty_I (by decide) (by decide) ((A (fun _ _ => True)).mpr trivial))
      exact ⟨x, by injection hx⟩
    have F : fr h h1 := by
      obtain ⟨r, k, e, f⟩ := gi_frm _ _ _ _ _ ((A (fun _ k => k = h1)).mpr rfl)
      rw [← e]; exact f
    obtain ⟨F1, F2, F3⟩ := F (by omega)
    have u0 : gi_tag h1 (some 0) = 99 := by rw [tag_s, F2 0 (by omega), J.2.2.1]
    have m0 : gi_len h1 (some 0) = L := by rw [len_s, F2 0 (by omega), J.2.2.1]
    have u79 : gi_tag h1 (some 79) = 9 := by rw [tag_s, F2 79 (by omega)]; exact tg_79 hS
    have I1 : ∀ j, gi_I h1 0 j = xs j := fun j => by rw [F3 (by rw [J.2.2.1]) j]; exact J.2.2.2.1 j
    simp only [x0_200, x0_201, x0_202, x0_203, x0_204, x0_205, x0_206, x0_207, x0_208, x0_209, x0_210, x0_211, x0_212, x0_213, x0_214, x0_215, x0_216, x0_219, x0_220, x0_223, x0_224, x0_227, x0_228, x0_229, x0_230, x0_231, x0_232, x0_233, x0_234, x0_235, x0_236, x0_237, x0_238, x0_239, x0_240, x0_241, x0_242, x0_243, x0_246, x0_247, x0_250, x0_251, x0_254, x0_257, x0_258, ldI_3, ldR_0, ldR_1, ldR_2, I_pI, R_pI, c_pI, n_pI, u_pI, t_pI, l_pI, I_pR, R_pR, c_pR, n_pR, u_pR, t_pR, l_pR, get_s, Option.toList, List.nil_append, List.cons_append, List.length_nil, List.length_cons, gi_B, true_and, and_true, false_and, and_false, not_true_eq_false, not_false_eq_true, true_implies, false_implies, implies_true, Classical.not_not, ite_true, ite_false, Option.some.injEq, Sum.inl.injEq, exists_eq', eq_self, true_or, or_true, false_or, or_false, Nat.reduceEqDiff, Nat.reduceLeDiff, Nat.reduceAdd, Nat.zero_le, one_ne0, if_neg one_ne0', lt_102_103, lt_102_104, lt_102_105, lt_102_106, lt_99_107, lt_100_107, lt_101_107, lt_103_107, lt_104_107, lt_105_107, lt_106_107, lt_98_99, lt_98_100, lt_98_101, lt_98_106, e1, f1, g1, e2, f2, g2, e3, f3, g3, t0, l0, u0, m0, u79, tg_1 hS, I0, I1, A, B, nn0, nn1, cmp_self, b0]
    exact nx h2 J2
  · obtain ⟨v, h1, h2, A, B, J2⟩ := gi_Pr_get (show gi_Pr L xs (d + 8) 11 101 [.inl (xs (i + 1)), .inl (xs (i + 2)), .inl ((1 : Int32))] c h from pr_member (d := d + 5) J (xs (i + 1)) (xs (i + 2)) ((1 : Int32)))
    obtain ⟨x, rfl⟩ : ∃ x, v = .inl x := by
      obtain ⟨x, hx⟩ := (A _).mp (ty_I (by decide) (by decide) ((A (fun _ _ => True)).mpr trivial))
      exact ⟨x, by injection hx⟩
    have F : fr h h1 := by
      obtain ⟨r, k, e, f⟩ := gi_frm _ _ _ _ _ ((A (fun _ k => k = h1)).mpr rfl)
      rw [← e]; exact f
    obtain ⟨F1, F2, F3⟩ := F (by omega)
    have u0 : gi_tag h1 (some 0) = 99 := by rw [tag_s, F2 0 (by omega), J.2.2.1]
    have m0 : gi_len h1 (some 0) = L := by rw [len_s, F2 0 (by omega), J.2.2.1]
    have u79 : gi_tag h1 (some 79) = 9 := by rw [tag_s, F2 79 (by omega)]; exact tg_79 hS
    have I1 : ∀ j, gi_I h1 0 j = xs j := fun j => by rw [F3 (by rw [J.2.2.1]) j]; exact J.2.2.2.1 j
    simp only [x0_200, x0_201, x0_202, x0_203, x0_204, x0_205, x0_206, x0_207, x0_208, x0_209, x0_210, x0_211, x0_212, x0_213, x0_214, x0_215, x0_216, x0_219, x0_220, x0_223, x0_224, x0_227, x0_228, x0_229, x0_230, x0_231, x0_232, x0_233, x0_234, x0_235, x0_236, x0_237, x0_238, x0_239, x0_240, x0_241, x0_242, x0_243, x0_246, x0_247, x0_250, x0_251, x0_254, x0_257, x0_258, ldI_3, ldR_0, ldR_1, ldR_2, I_pI, R_pI, c_pI, n_pI, u_pI, t_pI, l_pI, I_pR, R_pR, c_pR, n_pR, u_pR, t_pR, l_pR, get_s, Option.toList, List.nil_append, List.cons_append, List.length_nil, List.length_cons, gi_B, true_and, and_true, false_and, and_false, not_true_eq_false, not_false_eq_true, true_implies, false_implies, implies_true, Classical.not_not, ite_true, ite_false, Option.some.injEq, Sum.inl.injEq, exists_eq', eq_self, true_or, or_true, false_or, or_false, Nat.reduceEqDiff, Nat.reduceLeDiff, Nat.reduceAdd, Nat.zero_le, one_ne0, if_neg one_ne0', lt_102_103, lt_102_104, lt_102_105, lt_102_106, lt_99_107, lt_100_107, lt_101_107, lt_103_107, lt_104_107, lt_105_107, lt_106_107, lt_98_99, lt_98_100, lt_98_101, lt_98_106, e1, f1, g1, e2, f2, g2, e3, f3, g3, t0, l0, u0, m0, u79, tg_1 hS, I0, I1, A, B, nn0, nn1, cmp_self, b0]
    exact nx h2 J2
theorem lw_259 {L : Nat} {xs : Nat → Int32} {c d i : Nat} {h : gi_H} {Q : gi_P} (J : jH L xs c h) (hc : c ≤ 7142) (hi : i + 7 ≤ L) (hL : L ≤ 50000) (nx : ∀ h2, jH L xs (c + 1) h2 → gi_ex (gi_cx (d + 8)) 0 Q 1259 [some (.inr (.inr (some 0))), some (.inr (.inr (some 1))), some (.inr (.inr (some 79))), some (.inl (nI i))] [] h2) : gi_ex (gi_cx (d + 8)) 0 Q 259 [some (.inr (.inr (some 0))), some (.inr (.inr (some 1))), some (.inr (.inr (some 79))), some (.inl (nI i))] [] h := by
  have hS := J.1
  have h109 := hS.1
  have t0 : gi_tag h (some 0) = 99 := by rw [tag_s, J.2.2.1]
  have l0 : gi_len h (some 0) = L := by rw [len_s, J.2.2.1]
  have I0 : ∀ j, gi_I h 0 j = xs j := J.2.2.2.1
  have nn0 : ((99 : Nat) = 100) = False := by decide
  have nn1 : ((99 : Nat) = 99) = True := by decide
  have e1 : nI i + 1 = nI (i + 1) := nI_add _ _
  have f1 : vp_in (nI (i + 1)) L = True := eq_true (vp_in_nI (by omega) (by omega))
  have g1 : (nI (i + 1)).toNatClampNeg = i + 1 := nI_clamp (by omega)
  have e2 : nI i + 2 = nI (i + 2) := nI_add _ _
  have f2 : vp_in (nI (i + 2)) L = True := eq_true (vp_in_nI (by omega) (by omega))
  have g2 : (nI (i + 2)).toNatClampNeg = i + 2 := nI_clamp (by omega)
  obtain ⟨v, h1, h2, A, B, J2⟩ := gi_Pr_get (show gi_Pr L xs (d + 8) 12 102 [.inl (xs (i + 1)), .inl (xs (i + 2))] c h from pr_mask (d := d + 5) J (xs (i + 1)) (xs (i + 2)))
  obtain ⟨x, rfl⟩ : ∃ x, v = .inl x := by
    obtain ⟨x, hx⟩ := (A _).mp (ty_I (by decide) (by decide) ((A (fun _ _ => True)).mpr trivial))
    exact ⟨x, by injection hx⟩
  have F : fr h h1 := by
    obtain ⟨r, k, e, f⟩ := gi_frm _ _ _ _ _ ((A (fun _ k => k = h1)).mpr rfl)
    rw [← e]; exact f
  obtain ⟨F1, F2, F3⟩ := F (by omega)
  have u0 : gi_tag h1 (some 0) = 99 := by rw [tag_s, F2 0 (by omega), J.2.2.1]
  have m0 : gi_len h1 (some 0) = L := by rw [len_s, F2 0 (by omega), J.2.2.1]
  have u79 : gi_tag h1 (some 79) = 9 := by rw [tag_s, F2 79 (by omega)]; exact tg_79 hS
  have I1 : ∀ j, gi_I h1 0 j = xs j := fun j => by rw [F3 (by rw [J.2.2.1]) j]; exact J.2.2.2.1 j
  simp only [x0_259, x0_260, x0_261, x0_262, x0_263, x0_264, x0_265, x0_266, x0_267, x0_268, x0_269, x0_270, x0_273, x0_274, x0_275, x0_276, x0_277, x0_278, x0_279, x0_280, x0_281, x0_282, x0_283, x0_284, x0_287, x0_290, x0_291, ldI_3, ldR_0, ldR_1, ldR_2, I_pI, R_pI, c_pI, n_pI, u_pI, t_pI, l_pI, I_pR, R_pR, c_pR, n_pR, u_pR, t_pR, l_pR, get_s, Option.toList, List.nil_append, List.cons_append, List.length_nil, List.length_cons, gi_B, true_and, and_true, false_and, and_false, not_true_eq_false, not_false_eq_true, true_implies, false_implies, implies_true, Classical.not_not, ite_true, ite_false, Option.some.injEq, Sum.inl.injEq, exists_eq', eq_self, true_or, or_true, false_or, or_false, Nat.reduceEqDiff, Nat.reduceLeDiff, Nat.reduceAdd, Nat.zero_le, one_ne0, if_neg one_ne0', lt_102_103, lt_102_104, lt_102_105, lt_102_106, lt_99_107, lt_100_107, lt_101_107, lt_103_107, lt_104_107, lt_105_107, lt_106_107, lt_98_99, lt_98_100, lt_98_101, lt_98_106, e1, f1, g1, e2, f2, g2, t0, l0, u0, m0, u79, tg_1 hS, I0, I1, A, B, nn0, nn1, cmp_self]
  exact nx h2 J2
theorem lw_292 {L : Nat} {xs : Nat → Int32} {c d i : Nat} {h : gi_H} {Q : gi_P} (J : jH L xs c h) (hc : c ≤ 7142) (hi : i + 7 ≤ L) (hL : L ≤ 50000) (nx : ∀ h2, jH L xs (c + 1) h2 → gi_ex (gi_cx (d + 8)) 0 Q 1259 [some (.inr (.inr (some 0))), some (.inr (.inr (some 1))), some (.inr (.inr (some 79))), some (.inl (nI i))] [] h2) : gi_ex (gi_cx (d + 8)) 0 Q 292 [some (.inr (.inr (some 0))), some (.inr (.inr (some 1))), some (.inr (.inr (some 79))), some (.inl (nI i))] [] h := by
  have hS := J.1
  have h109 := hS.1
  have t0 : gi_tag h (some 0) = 99 := by rw [tag_s, J.2.2.1]
  have l0 : gi_len h (some 0) = L := by rw [len_s, J.2.2.1]
  have I0 : ∀ j, gi_I h 0 j = xs j := J.2.2.2.1
  have nn0 : ((99 : Nat) = 100) = False := by decide
  have nn1 : ((99 : Nat) = 99) = True := by decide
  have e1 : nI i + 1 = nI (i + 1) := nI_add _ _
  have f1 : vp_in (nI (i + 1)) L = True := eq_true (vp_in_nI (by omega) (by omega))
  have g1 : (nI (i + 1)).toNatClampNeg = i + 1 := nI_clamp (by omega)
  have e2 : nI i + 2 = nI (i + 2) := nI_add _ _
  have f2 : vp_in (nI (i + 2)) L = True := eq_true (vp_in_nI (by omega) (by omega))
  have g2 : (nI (i + 2)).toNatClampNeg = i + 2 := nI_clamp (by omega)
  have e3 : nI i + 3 = nI (i + 3) := nI_add _ _
  have f3 : vp_in (nI (i + 3)) L = True := eq_true (vp_in_nI (by omega) (by omega))
  have g3 : (nI (i + 3)).toNatClampNeg = i + 3 := nI_clamp (by omega)
  have e4 : nI i + 4 = nI (i + 4) := nI_add _ _
  have f4 : vp_in (nI (i + 4)) L = True := eq_true (vp_in_nI (by omega) (by omega))
  have g4 : (nI (i + 4)).toNatClampNeg = i + 4 := nI_clamp (by omega)
  obtain ⟨v, h1, h2, A, B, J2⟩ := gi_Pr_get (show gi_Pr L xs (d + 8) 13 103 [.inl (xs (i + 1)), .inl (xs (i + 2)), .inl (xs (i + 3)), .inl (xs (i + 4))] c h from pr_create (d := d + 1) J hc (xs (i + 1)) (xs (i + 2)) (xs (i + 3)) (xs (i + 4)))
  obtain ⟨x, rfl⟩ : ∃ x, v = .inl x := by
    obtain ⟨x, hx⟩ := (A _).mp (ty_I (by decide) (by decide) ((A (fun _ _ => True)).mpr trivial))
    exact ⟨x, by injection hx⟩
  have F : fr h h1 := by
    obtain ⟨r, k, e, f⟩ := gi_frm _ _ _ _ _ ((A (fun _ k => k = h1)).mpr rfl)
    rw [← e]; exact f
  obtain ⟨F1, F2, F3⟩ := F (by omega)
  have u0 : gi_tag h1 (some 0) = 99 := by rw [tag_s, F2 0 (by omega), J.2.2.1]
  have m0 : gi_len h1 (some 0) = L := by rw [len_s, F2 0 (by omega), J.2.2.1]
  have u79 : gi_tag h1 (some 79) = 9 := by rw [tag_s, F2 79 (by omega)]; exact tg_79 hS
  have I1 : ∀ j, gi_I h1 0 j = xs j := fun j => by rw [F3 (by rw [J.2.2.1]) j]; exact J.2.2.2.1 j
  simp only [x0_292, x0_293, x0_294, x0_295, x0_296, x0_297, x0_298, x0_299, x0_300, x0_301, x0_302, x0_303, x0_304, x0_305, x0_306, x0_307, x0_308, x0_309, x0_310, x0_311, x0_312, x0_313, x0_316, x0_317, x0_318, x0_319, x0_320, x0_321, x0_322, x0_323, x0_324, x0_325, x0_326, x0_327, x0_328, x0_329, x0_330, x0_331, x0_332, x0_333, x0_334, x0_335, x0_336, x0_337, x0_340, x0_343, x0_344, ldI_3, ldR_0, ldR_1, ldR_2, I_pI, R_pI, c_pI, n_pI, u_pI, t_pI, l_pI, I_pR, R_pR, c_pR, n_pR, u_pR, t_pR, l_pR, get_s, Option.toList, List.nil_append, List.cons_append, List.length_nil, List.length_cons, gi_B, true_and, and_true, false_and, and_false, not_true_eq_false, not_false_eq_true, true_implies, false_implies, implies_true, Classical.not_not, ite_true, ite_false, Option.some.injEq, Sum.inl.injEq, exists_eq', eq_self, true_or, or_true, false_or, or_false, Nat.reduceEqDiff, Nat.reduceLeDiff, Nat.reduceAdd, Nat.zero_le, one_ne0, if_neg one_ne0', lt_102_103, lt_102_104, lt_102_105, lt_102_106, lt_99_107, lt_100_107, lt_101_107, lt_103_107, lt_104_107, lt_105_107, lt_106_107, lt_98_99, lt_98_100, lt_98_101, lt_98_106, e1, f1, g1, e2, f2, g2, e3, f3, g3, e4, f4, g4, t0, l0, u0, m0, u79, tg_1 hS, I0, I1, A, B, nn0, nn1, cmp_self]
  exact nx h2 J2
theorem lw_345 {L : Nat} {xs : Nat → Int32} {c d i : Nat} {h : gi_H} {Q : gi_P} (J : jH L xs c h) (hc : c ≤ 7142) (hi : i + 7 ≤ L) (hL : L ≤ 50000) (nx : ∀ h2, jH L xs (c + 1) h2 → gi_ex (gi_cx (d + 8)) 0 Q 1259 [some (.inr (.inr (some 0))), some (.inr (.inr (some 1))), some (.inr (.inr (some 79))), some (.inl (nI i))] [] h2) : gi_ex (gi_cx (d + 8)) 0 Q 345 [some (.inr (.inr (some 0))), some (.inr (.inr (some 1))), some (.inr (.inr (some 79))), some (.inl (nI i))] [] h := by
  have hS := J.1
  have h109 := hS.1
  have t0 : gi_tag h (some 0) = 99 := by rw [tag_s, J.2.2.1]
  have l0 : gi_len h (some 0) = L := by rw [len_s, J.2.2.1]
  have I0 : ∀ j, gi_I h 0 j = xs j := J.2.2.2.1
  have nn0 : ((99 : Nat) = 100) = False := by decide
  have nn1 : ((99 : Nat) = 99) = True := by decide
  have e1 : nI i + 1 = nI (i + 1) := nI_add _ _
  have f1 : vp_in (nI (i + 1)) L = True := eq_true (vp_in_nI (by omega) (by omega))
  have g1 : (nI (i + 1)).toNatClampNeg = i + 1 := nI_clamp (by omega)
  have e2 : nI i + 2 = nI (i + 2) := nI_add _ _
  have f2 : vp_in (nI (i + 2)) L = True := eq_true (vp_in_nI (by omega) (by omega))
  have g2 : (nI (i + 2)).toNatClampNeg = i + 2 := nI_clamp (by omega)
  obtain ⟨v, h1, h2, A, B, J2⟩ := gi_Pr_get (show gi_Pr L xs (d + 8) 41 114 [.inl (xs (i + 1)), .inl (xs (i + 2))] c h from pr_remove (d := d + 1) J hc (xs (i + 1)) (xs (i + 2)))
  obtain ⟨x, rfl⟩ : ∃ x, v = .inl x := by
    obtain ⟨x, hx⟩ := (A _).mp (ty_I (by decide) (by decide) ((A (fun _ _ => True)).mpr trivial))
    exact ⟨x, by injection hx⟩
  have F : fr h h1 := by
    obtain ⟨r, k, e, f⟩ := gi_frm _ _ _ _ _ ((A (fun _ k => k = h1)).mpr rfl)
    rw [← e]; exact f
  obtain ⟨F1, F2, F3⟩ := F (by omega)
  have u0 : gi_tag h1 (some 0) = 99 := by rw [tag_s, F2 0 (by omega), J.2.2.1]
  have m0 : gi_len h1 (some 0) = L := by rw [len_s, F2 0 (by omega), J.2.2.1]
  have u79 : gi_tag h1 (some 79) = 9 := by rw [tag_s, F2 79 (by omega)]; exact tg_79 hS
  have I1 : ∀ j, gi_I h1 0 j = xs j := fun j => by rw [F3 (by rw [J.2.2.1]) j]; exact J.2.2.2.1 j
  simp only [x0_345, x0_346, x0_347, x0_348, x0_349, x0_350, x0_351, x0_352, x0_353, x0_354, x0_355, x0_356, x0_359, x0_360, x0_361, x0_362, x0_363, x0_364, x0_365, x0_366, x0_367, x0_368, x0_369, x0_370, x0_373, x0_376, x0_377, ldI_3, ldR_0, ldR_1, ldR_2, I_pI, R_pI, c_pI, n_pI, u_pI, t_pI, l_pI, I_pR, R_pR, c_pR, n_pR, u_pR, t_pR, l_pR, get_s, Option.toList, List.nil_append, List.cons_append, List.length_nil, List.length_cons, gi_B, true_and, and_true, false_and, and_false, not_true_eq_false, not_false_eq_true, true_implies, false_implies, implies_true, Classical.not_not, ite_true, ite_false, Option.some.injEq, Sum.inl.injEq, exists_eq', eq_self, true_or, or_true, false_or, or_false, Nat.reduceEqDiff, Nat.reduceLeDiff, Nat.reduceAdd, Nat.zero_le, one_ne0, if_neg one_ne0', lt_102_103, lt_102_104, lt_102_105, lt_102_106, lt_99_107, lt_100_107, lt_101_107, lt_103_107, lt_104_107, lt_105_107, lt_106_107, lt_98_99, lt_98_100, lt_98_101, lt_98_106, e1, f1, g1, e2, f2, g2, t0, l0, u0, m0, u79, tg_1 hS, I0, I1, A, B, nn0, nn1, cmp_self]
  exact nx h2 J2
theorem lw_378 {L : Nat} {xs : Nat → Int32} {c d i : Nat} {h : gi_H} {Q : gi_P} (J : jH L xs c h) (hc : c ≤ 7142) (hi : i + 7 ≤ L) (hL : L ≤ 50000) (nx : ∀ h2, jH L xs (c + 1) h2 → gi_ex (gi_cx (d + 8)) 0 Q 1259 [some (.inr (.inr (some 0))), some (.inr (.inr (some 1))), some (.inr (.inr (some 79))), some (.inl (nI i))] [] h2) : gi_ex (gi_cx (d + 8)) 0 Q 378 [some (.inr (.inr (some 0))), some (.inr (.inr (some 1))), some (.inr (.inr (some 79))), some (.inl (nI i))] [] h := by
  have hS := J.1
  have h109 := hS.1
  have t0 : gi_tag h (some 0) = 99 := by rw [tag_s, J.2.2.1]
  have l0 : gi_len h (some 0) = L := by rw [len_s, J.2.2.1]
  have I0 : ∀ j, gi_I h 0 j = xs j := J.2.2.2.1
  have nn0 : ((99 : Nat) = 100) = False := by decide
  have nn1 : ((99 : Nat) = 99) = True := by decide
  have e1 : nI i + 1 = nI (i + 1) := nI_add _ _
  have f1 : vp_in (nI (i + 1)) L = True := eq_true (vp_in_nI (by omega) (by omega))
  have g1 : (nI (i + 1)).toNatClampNeg = i + 1 := nI_clamp (by omega)
  have e2 : nI i + 2 = nI (i + 2) := nI_add _ _
  have f2 : vp_in (nI (i + 2)) L = True := eq_true (vp_in_nI (by omega) (by omega))
  have g2 : (nI (i + 2)).toNatClampNeg = i + 2 := nI_clamp (by omega)
  have e3 : nI i + 3 = nI (i + 3) := nI_add _ _
  have f3 : vp_in (nI (i + 3)) L = True := eq_true (vp_in_nI (by omega) (by omega))
  have g3 : (nI (i + 3)).toNatClampNeg = i + 3 := nI_clamp (by omega)
  have e4 : nI i + 4 = nI (i + 4) := nI_add _ _
  have f4 : vp_in (nI (i + 4)) L = True := eq_true (vp_in_nI (by omega) (by omega))
  have g4 : (nI (i + 4)).toNatClampNeg = i + 4 := nI_clamp (by omega)
  have e5 : nI i + 5 = nI (i + 5) := nI_add _ _
  have f5 : vp_in (nI (i + 5)) L = True := eq_true (vp_in_nI (by omega) (by omega))
  have g5 : (nI (i + 5)).toNatClampNeg = i + 5 := nI_clamp (by omega)
  have e6 : nI i + 6 = nI (i + 6) := nI_add _ _
  have f6 : vp_in (nI (i + 6)) L = True := eq_true (vp_in_nI (by omega) (by omega))
  have g6 : (nI (i + 6)).toNatClampNeg = i + 6 := nI_clamp (by omega)
  obtain ⟨v, h1, h2, A, B, J2⟩ := gi_Pr_get (show gi_Pr L xs (d + 8) 46 119 [.inl (xs (i + 1)), .inl (xs (i + 2)), .inl (xs (i + 3)), .inl (xs (i + 4)), .inr (.inl ((xs (i + 5)).toInt64 <<< ((32 : Int32).toInt64 &&& 63) ||| ((xs (i + 6)).toInt64 &&& 4294967295)))] c h from pr_write (d := d + 1) J hc (xs (i + 1)) (xs (i + 2)) (xs (i + 3)) (xs (i + 4)) (((xs (i + 5)).toInt64 <<< ((32 : Int32).toInt64 &&& 63) ||| ((xs (i + 6)).toInt64 &&& 4294967295))))
  obtain ⟨x, rfl⟩ : ∃ x, v = .inl x := by
    obtain ⟨x, hx⟩ := (A _).mp (ty_I (by decide) (by decide) ((A (fun _ _ => True)).mpr trivial))
    exact ⟨x, by injection hx⟩
  have F : fr h h1 := by
    obtain ⟨r, k, e, f⟩ := gi_frm _ _ _ _ _ ((A (fun _ k => k = h1)).mpr rfl)
    rw [← e]; exact f
  obtain ⟨F1, F2, F3⟩ := F (by omega)
  have u0 : gi_tag h1 (some 0) = 99 := by rw [tag_s, F2 0 (by omega), J.2.2.1]
  have m0 : gi_len h1 (some 0) = L := by rw [len_s, F2 0 (by omega), J.2.2.1]
  have u79 : gi_tag h1 (some 79) = 9 := by rw [tag_s, F2 79 (by omega)]; exact tg_79 hS
  have I1 : ∀ j, gi_I h1 0 j = xs j := fun j => by rw [F3 (by rw [J.2.2.1]) j]; exact J.2.2.2.1 j
  simp only [x0_378, x0_379, x0_380, x0_381, x0_382, x0_383, x0_384, x0_385, x0_386, x0_387, x0_388, x0_389, x0_390, x0_391, x0_392, x0_393, x0_394, x0_395, x0_396, x0_397, x0_398, x0_399, x0_400, x0_401, x0_402, x0_403, x0_404, x0_405, x0_407, x0_408, x0_409, x0_410, x0_412, x0_413, x0_414, x0_415, x0_418, x0_419, x0_420, x0_423, x0_424, x0_425, x0_426, x0_427, x0_428, x0_429, x0_430, x0_431, x0_432, x0_433, x0_434, x0_435, x0_436, x0_437, x0_438, x0_439, x0_440, x0_441, x0_442, x0_443, x0_444, x0_445, x0_446, x0_447, x0_448, x0_449, x0_450, x0_452, x0_453, x0_454, x0_455, x0_457, x0_458, x0_459, x0_460, x0_463, x0_464, x0_465, x0_468, x0_471, x0_472, ldI_3, ldR_0, ldR_1, ldR_2, I_pI, R_pI, c_pI, n_pI, u_pI, t_pI, l_pI, I_pR, R_pR, c_pR, n_pR, u_pR, t_pR, l_pR, get_s, Option.toList, List.nil_append, List.cons_append, List.length_nil, List.length_cons, gi_B, true_and, and_true, false_and, and_false, not_true_eq_false, not_false_eq_true, true_implies, false_implies, implies_true, Classical.not_not, ite_true, ite_false, Option.some.injEq, Sum.inl.injEq, exists_eq', eq_self, true_or, or_true, false_or, or_false, Nat.reduceEqDiff, Nat.reduceLeDiff, Nat.reduceAdd, Nat.zero_le, one_ne0, if_neg one_ne0', lt_102_103, lt_102_104, lt_102_105, lt_102_106, lt_99_107, lt_100_107, lt_101_107, lt_103_107, lt_104_107, lt_105_107, lt_106_107, lt_98_99, lt_98_100, lt_98_101, lt_98_106, e1, f1, g1, e2, f2, g2, e3, f3, g3, e4, f4, g4, e5, f5, g5, e6, f6, g6, t0, l0, u0, m0, u79, tg_1 hS, I0, I1, A, B, nn0, nn1, cmp_self]
  exact nx h2 J2
theorem lw_473 {L : Nat} {xs : Nat → Int32} {c d i : Nat} {h : gi_H} {Q : gi_P} (J : jH L xs c h) (hc : c ≤ 7142) (hi : i + 7 ≤ L) (hL : L ≤ 50000) (nx : ∀ h2, jH L xs (c + 1) h2 → gi_ex (gi_cx (d + 8)) 0 Q 1259 [some (.inr (.inr (some 0))), some (.inr (.inr (some 1))), some (.inr (.inr (some 79))), some (.inl (nI i))] [] h2) : gi_ex (gi_cx (d + 8)) 0 Q 473 [some (.inr (.inr (some 0))), some (.inr (.inr (some 1))), some (.inr (.inr (some 79))), some (.inl (nI i))] [] h := by
  have hS := J.1
  have h109 := hS.1
  have t0 : gi_tag h (some 0) = 99 := by rw [tag_s, J.2.2.1]
  have l0 : gi_len h (some 0) = L := by rw [len_s, J.2.2.1]
  have I0 : ∀ j, gi_I h 0 j = xs j := J.2.2.2.1
  have nn0 : ((99 : Nat) = 100) = False := by decide
  have nn1 : ((99 : Nat) = 99) = True := by decide
  have e1 : nI i + 1 = nI (i + 1) := nI_add _ _
  have f1 : vp_in (nI (i + 1)) L = True := eq_true (vp_in_nI (by omega) (by omega))
  have g1 : (nI (i + 1)).toNatClampNeg = i + 1 := nI_clamp (by omega)
  have e2 : nI i + 2 = nI (i + 2) := nI_add _ _
  have f2 : vp_in (nI (i + 2)) L = True := eq_true (vp_in_nI (by omega) (by omega))
  have g2 : (nI (i + 2)).toNatClampNeg = i + 2 := nI_clamp (by omega)
  have e3 : nI i + 3 = nI (i + 3) := nI_add _ _
  have f3 : vp_in (nI (i + 3)) L = True := eq_true (vp_in_nI (by omega) (by omega))
  have g3 : (nI (i + 3)).toNatClampNeg = i + 3 := nI_clamp (by omega)
  have e4 : nI i + 4 = nI (i + 4) := nI_add _ _
  have f4 : vp_in (nI (i + 4)) L = True := eq_true (vp_in_nI (by omega) (by omega))
  have g4 : (nI (i + 4)).toNatClampNeg = i + 4 := nI_clamp (by omega)
  obtain ⟨v, h1, h2, A, B, J2⟩ := gi_Pr_get (show gi_Pr L xs (d + 8) 57 122 [.inl (xs (i + 1)), .inl (xs (i + 2)), .inl (xs (i + 3)), .inl (xs (i + 4))] c h from pr_read (d := d + 2) J (xs (i + 1)) (xs (i + 2)) (xs (i + 3)) (xs (i + 4)))
  obtain ⟨x, rfl⟩ : ∃ x, v = .inr (.inl x) := by
    obtain ⟨x, hx⟩ := (A _).mp (ty_L (by decide) (by decide) ((A (fun _ _ => True)).mpr trivial))
    exact ⟨x, by injection hx⟩
  have F : fr h h1 := by
    obtain ⟨r, k, e, f⟩ := gi_frm _ _ _ _ _ ((A (fun _ k => k = h1)).mpr rfl)
    rw [← e]; exact f
  obtain ⟨F1, F2, F3⟩ := F (by omega)
  have u0 : gi_tag h1 (some 0) = 99 := by rw [tag_s, F2 0 (by omega), J.2.2.1]
  have m0 : gi_len h1 (some 0) = L := by rw [len_s, F2 0 (by omega), J.2.2.1]
  have u79 : gi_tag h1 (some 79) = 9 := by rw [tag_s, F2 79 (by omega)]; exact tg_79 hS
  have I1 : ∀ j, gi_I h1 0 j = xs j := fun j => by rw [F3 (by rw [J.2.2.1]) j]; exact J.2.2.2.1 j
  simp only [x0_473, x0_474, x0_475, x0_476, x0_477, x0_478, x0_479, x0_480, x0_481, x0_482, x0_483, x0_484, x0_485, x0_486, x0_487, x0_488, x0_489, x0_490, x0_491, x0_492, x0_493, x0_494, x0_497, x0_498, x0_499, x0_500, x0_501, x0_502, x0_503, x0_504, x0_505, x0_506, x0_507, x0_508, x0_509, x0_510, x0_511, x0_512, x0_513, x0_514, x0_515, x0_516, x0_517, x0_518, x0_521, x0_522, x0_525, x0_526, ldI_3, ldR_0, ldR_1, ldR_2, I_pI, R_pI, c_pI, n_pI, u_pI, t_pI, l_pI, I_pR, R_pR, c_pR, n_pR, u_pR, t_pR, l_pR, get_s, Option.toList, List.nil_append, List.cons_append, List.length_nil, List.length_cons, gi_B, true_and, and_true, false_and, and_false, not_true_eq_false, not_false_eq_true, true_implies, false_implies, implies_true, Classical.not_not, ite_true, ite_false, Option.some.injEq, Sum.inl.injEq, exists_eq', eq_self, true_or, or_true, false_or, or_false, Nat.reduceEqDiff, Nat.reduceLeDiff, Nat.reduceAdd, Nat.zero_le, one_ne0, if_neg one_ne0', lt_102_103, lt_102_104, lt_102_105, lt_102_106, lt_99_107, lt_100_107, lt_101_107, lt_103_107, lt_104_107, lt_105_107, lt_106_107, lt_98_99, lt_98_100, lt_98_101, lt_98_106, e1, f1, g1, e2, f2, g2, e3, f3, g3, e4, f4, g4, t0, l0, u0, m0, u79, tg_1 hS, I0, I1, A, B, nn0, nn1, cmp_self]
  exact nx h2 J2
theorem lw_527 {L : Nat} {xs : Nat → Int32} {c d i : Nat} {h : gi_H} {Q : gi_P} (J : jH L xs c h) (hc : c ≤ 7142) (hi : i + 7 ≤ L) (hL : L ≤ 50000) (nx : ∀ h2, jH L xs (c + 1) h2 → gi_ex (gi_cx (d + 8)) 0 Q 1259 [some (.inr (.inr (some 0))), some (.inr (.inr (some 1))), some (.inr (.inr (some 79))), some (.inl (nI i))] [] h2) : gi_ex (gi_cx (d + 8)) 0 Q 527 [some (.inr (.inr (some 0))), some (.inr (.inr (some 1))), some (.inr (.inr (some 79))), some (.inl (nI i))] [] h := by
  have hS := J.1
  have h109 := hS.1
  have t0 : gi_tag h (some 0) = 99 := by rw [tag_s, J.2.2.1]
  have l0 : gi_len h (some 0) = L := by rw [len_s, J.2.2.1]
  have I0 : ∀ j, gi_I h 0 j = xs j := J.2.2.2.1
  have nn0 : ((99 : Nat) = 100) = False := by decide
  have nn1 : ((99 : Nat) = 99) = True := by decide
  have e1 : nI i + 1 = nI (i + 1) := nI_add _ _
  have f1 : vp_in (nI (i + 1)) L = True := eq_true (vp_in_nI (by omega) (by omega))
  have g1 : (nI (i + 1)).toNatClampNeg = i + 1 := nI_clamp (by omega)
  have e2 : nI i + 2 = nI (i + 2) := nI_add _ _
  have f2 : vp_in (nI (i + 2)) L = True := eq_true (vp_in_nI (by omega) (by omega))
  have g2 : (nI (i + 2)).toNatClampNeg = i + 2 := nI_clamp (by omega)
  have e3 : nI i + 3 = nI (i + 3) := nI_add _ _
  have f3 : vp_in (nI (i + 3)) L = True := eq_true (vp_in_nI (by omega) (by omega))
  have g3 : (nI (i + 3)).toNatClampNeg = i + 3 := nI_clamp (by omega)
  obtain ⟨v, h1, h2, A, B, J2⟩ := gi_Pr_get (show gi_Pr L xs (d + 8) 59 123 [.inl (xs (i + 1)), .inl (xs (i + 2)), .inl (xs (i + 3))] c h from pr_resize (d := d + 1) J hc (xs (i + 1)) (xs (i + 2)) (xs (i + 3)))
  obtain ⟨x, rfl⟩ : ∃ x, v = .inl x := by
    obtain ⟨x, hx⟩ := (A _).mp (ty_I (by decide) (by decide) ((A (fun _ _ => True)).mpr trivial))
    exact ⟨x, by injection hx⟩
  have F : fr h h1 := by
    obtain ⟨r, k, e, f⟩ := gi_frm _ _ _ _ _ ((A (fun _ k => k = h1)).mpr rfl)
    rw [← e]; exact f
  obtain ⟨F1, F2, F3⟩ := F (by omega)
  have u0 : gi_tag h1 (some 0) = 99 := by rw [tag_s, F2 0 (by omega), J.2.2.1]
  have m0 : gi_len h1 (some 0) = L := by rw [len_s, F2 0 (by omega), J.2.2.1]
  have u79 : gi_tag h1 (some 79) = 9 := by rw [tag_s, F2 79 (by omega)]; exact tg_79 hS
  have I1 : ∀ j, gi_I h1 0 j = xs j := fun j => by rw [F3 (by rw [J.2.2.1]) j]; exact J.2.2.2.1 j
  simp only [x0_527, x0_528, x0_529, x0_530, x0_531, x0_532, x0_533, x0_534, x0_535, x0_536, x0_537, x0_538, x0_539, x0_540, x0_541, x0_542, x0_543, x0_546, x0_547, x0_548, x0_549, x0_550, x0_551, x0_552, x0_553, x0_554, x0_555, x0_556, x0_557, x0_558, x0_559, x0_560, x0_561, x0_562, x0_565, x0_568, x0_569, ldI_3, ldR_0, ldR_1, ldR_2, I_pI, R_pI, c_pI, n_pI, u_pI, t_pI, l_pI, I_pR, R_pR, c_pR, n_pR, u_pR, t_pR, l_pR, get_s, Option.toList, List.nil_append, List.cons_append, List.length_nil, List.length_cons, gi_B, true_and, and_true, false_and, and_false, not_true_eq_false, not_false_eq_true, true_implies, false_implies, implies_true, Classical.not_not, ite_true, ite_false, Option.some.injEq, Sum.inl.injEq, exists_eq', eq_self, true_or, or_true, false_or, or_false, Nat.reduceEqDiff, Nat.reduceLeDiff, Nat.reduceAdd, Nat.zero_le, one_ne0, if_neg one_ne0', lt_102_103, lt_102_104, lt_102_105, lt_102_106, lt_99_107, lt_100_107, lt_101_107, lt_103_107, lt_104_107, lt_105_107, lt_106_107, lt_98_99, lt_98_100, lt_98_101, lt_98_106, e1, f1, g1, e2, f2, g2, e3, f3, g3, t0, l0, u0, m0, u79, tg_1 hS, I0, I1, A, B, nn0, nn1, cmp_self]
  exact nx h2 J2
theorem lw_570 {L : Nat} {xs : Nat → Int32} {c d i : Nat} {h : gi_H} {Q : gi_P} (J : jH L xs c h) (hc : c ≤ 7142) (hi : i + 7 ≤ L) (hL : L ≤ 50000) (nx : ∀ h2, jH L xs (c + 1) h2 → gi_ex (gi_cx (d + 8)) 0 Q 1259 [some (.inr (.inr (some 0))), some (.inr (.inr (some 1))), some (.inr (.inr (some 79))), some (.inl (nI i))] [] h2) : gi_ex (gi_cx (d + 8)) 0 Q 570 [some (.inr (.inr (some 0))), some (.inr (.inr (some 1))), some (.inr (.inr (some 79))), some (.inl (nI i))] [] h := by
  have hS := J.1
  have h109 := hS.1
  have t0 : gi_tag h (some 0) = 99 := by rw [tag_s, J.2.2.1]
  have l0 : gi_len h (some 0) = L := by rw [len_s, J.2.2.1]
  have I0 : ∀ j, gi_I h 0 j = xs j := J.2.2.2.1
  have nn0 : ((99 : Nat) = 100) = False := by decide
  have nn1 : ((99 : Nat) = 99) = True := by decide
  have e1 : nI i + 1 = nI (i + 1) := nI_add _ _
  have f1 : vp_in (nI (i + 1)) L = True := eq_true (vp_in_nI (by omega) (by omega))
  have g1 : (nI (i + 1)).toNatClampNeg = i + 1 := nI_clamp (by omega)
  have e2 : nI i + 2 = nI (i + 2) := nI_add _ _
  have f2 : vp_in (nI (i + 2)) L = True := eq_true (vp_in_nI (by omega) (by omega))
  have g2 : (nI (i + 2)).toNatClampNeg = i + 2 := nI_clamp (by omega)
  have e3 : nI i + 3 = nI (i + 3) := nI_add _ _
  have f3 : vp_in (nI (i + 3)) L = True := eq_true (vp_in_nI (by omega) (by omega))
  have g3 : (nI (i + 3)).toNatClampNeg = i + 3 := nI_clamp (by omega)
  obtain ⟨v, h1, h2, A, B, J2⟩ := gi_Pr_get (show gi_Pr L xs (d + 8) 61 124 [.inl (xs (i + 1)), .inl (xs (i + 2)), .inl (xs (i + 3))] c h from pr_chmod (d := d + 4) J (xs (i + 1)) (xs (i + 2)) (xs (i + 3)))
  obtain ⟨x, rfl⟩ : ∃ x, v = .inl x := by
    obtain ⟨x, hx⟩ := (A _).mp (ty_I (by decide) (by decide) ((A (fun _ _ => True)).mpr trivial))
    exact ⟨x, by injection hx⟩
  have F : fr h h1 := by
    obtain ⟨r, k, e, f⟩ := gi_frm _ _ _ _ _ ((A (fun _ k => k = h1)).mpr rfl)
    rw [← e]; exact f
  obtain ⟨F1, F2, F3⟩ := F (by omega)
  have u0 : gi_tag h1 (some 0) = 99 := by rw [tag_s, F2 0 (by omega), J.2.2.1]
  have m0 : gi_len h1 (some 0) = L := by rw [len_s, F2 0 (by omega), J.2.2.1]
  have u79 : gi_tag h1 (some 79) = 9 := by rw [tag_s, F2 79 (by omega)]; exact tg_79 hS
  have I1 : ∀ j, gi_I h1 0 j = xs j := fun j => by rw [F3 (by rw [J.2.2.1]) j]; exact J.2.2.2.1 j
  simp only [x0_570, x0_571, x0_572, x0_573, x0_574, x0_575, x0_576, x0_577, x0_578, x0_579, x0_580, x0_581, x0_582, x0_583, x0_584, x0_585, x0_586, x0_589, x0_590, x0_591, x0_592, x0_593, x0_594, x0_595, x0_596, x0_597, x0_598, x0_599, x0_600, x0_601, x0_602, x0_603, x0_604, x0_605, x0_608, x0_611, x0_612, ldI_3, ldR_0, ldR_1, ldR_2, I_pI, R_pI, c_pI, n_pI, u_pI, t_pI, l_pI, I_pR, R_pR, c_pR, n_pR, u_pR, t_pR, l_pR, get_s, Option.toList, List.nil_append, List.cons_append, List.length_nil, List.length_cons, gi_B, true_and, and_true, false_and, and_false, not_true_eq_false, not_false_eq_true, true_implies, false_implies, implies_true, Classical.not_not, ite_true, ite_false, Option.some.injEq, Sum.inl.injEq, exists_eq', eq_self, true_or, or_true, false_or, or_false, Nat.reduceEqDiff, Nat.reduceLeDiff, Nat.reduceAdd, Nat.zero_le, one_ne0, if_neg one_ne0', lt_102_103, lt_102_104, lt_102_105, lt_102_106, lt_99_107, lt_100_107, lt_101_107, lt_103_107, lt_104_107, lt_105_107, lt_106_107, lt_98_99, lt_98_100, lt_98_101, lt_98_106, e1, f1, g1, e2, f2, g2, e3, f3, g3, t0, l0, u0, m0, u79, tg_1 hS, I0, I1, A, B, nn0, nn1, cmp_self]
  exact nx h2 J2
theorem lw_613 {L : Nat} {xs : Nat → Int32} {c d i : Nat} {h : gi_H} {Q : gi_P} (J : jH L xs c h) (hc : c ≤ 7142) (hi : i + 7 ≤ L) (hL : L ≤ 50000) (nx : ∀ h2, jH L xs (c + 1) h2 → gi_ex (gi_cx (d + 8)) 0 Q 1259 [some (.inr (.inr (some 0))), some (.inr (.inr (some 1))), some (.inr (.inr (some 79))), some (.inl (nI i))] [] h2) : gi_ex (gi_cx (d + 8)) 0 Q 613 [some (.inr (.inr (some 0))), some (.inr (.inr (some 1))), some (.inr (.inr (some 79))), some (.inl (nI i))] [] h := by
  have hS := J.1
  have h109 := hS.1
  have t0 : gi_tag h (some 0) = 99 := by rw [tag_s, J.2.2.1]
  have l0 : gi_len h (some 0) = L := by rw [len_s, J.2.2.1]
  have I0 : ∀ j, gi_I h 0 j = xs j := J.2.2.2.1
  have nn0 : ((99 : Nat) = 100) = False := by decide
  have nn1 : ((99 : Nat) = 99) = True := by decide
  have e1 : nI i + 1 = nI (i + 1) := nI_add _ _
  have f1 : vp_in (nI (i + 1)) L = True := eq_true (vp_in_nI (by omega) (by omega))
  have g1 : (nI (i + 1)).toNatClampNeg = i + 1 := nI_clamp (by omega)
  have e2 : nI i + 2 = nI (i + 2) := nI_add _ _
  have f2 : vp_in (nI (i + 2)) L = True := eq_true (vp_in_nI (by omega) (by omega))
  have g2 : (nI (i + 2)).toNatClampNeg = i + 2 := nI_clamp (by omega)
  have e3 : nI i + 3 = nI (i + 3) := nI_add _ _
  have f3 : vp_in (nI (i + 3)) L = True := eq_true (vp_in_nI (by omega) (by omega))
  have g3 : (nI (i + 3)).toNatClampNeg = i + 3 := nI_clamp (by omega)
  have e4 : nI i + 4 = nI (i + 4) := nI_add _ _
  have f4 : vp_in (nI (i + 4)) L = True := eq_true (vp_in_nI (by omega) (by omega))
  have g4 : (nI (i + 4)).toNatClampNeg = i + 4 := nI_clamp (by omega)
  obtain ⟨v, h1, h2, A, B, J2⟩ := gi_Pr_get (show gi_Pr L xs (d + 8) 62 125 [.inl (xs (i + 1)), .inl (xs (i + 2)), .inl (xs (i + 3)), .inl (xs (i + 4))] c h from pr_chown (d := d + 0) J hc (xs (i + 1)) (xs (i + 2)) (xs (i + 3)) (xs (i + 4)))
  obtain ⟨x, rfl⟩ : ∃ x, v = .inl x := by
    obtain ⟨x, hx⟩ := (A _).mp (ty_I (by decide) (by decide) ((A (fun _ _ => True)).mpr trivial))
    exact ⟨x, by injection hx⟩
  have F : fr h h1 := by
    obtain ⟨r, k, e, f⟩ := gi_frm _ _ _ _ _ ((A (fun _ k => k = h1)).mpr rfl)
    rw [← e]; exact f
  obtain ⟨F1, F2, F3⟩ := F (by omega)
  have u0 : gi_tag h1 (some 0) = 99 := by rw [tag_s, F2 0 (by omega), J.2.2.1]
  have m0 : gi_len h1 (some 0) = L := by rw [len_s, F2 0 (by omega), J.2.2.1]
  have u79 : gi_tag h1 (some 79) = 9 := by rw [tag_s, F2 79 (by omega)]; exact tg_79 hS
  have I1 : ∀ j, gi_I h1 0 j = xs j := fun j => by rw [F3 (by rw [J.2.2.1]) j]; exact J.2.2.2.1 j
  simp only [x0_613, x0_614, x0_615, x0_616, x0_617, x0_618, x0_619, x0_620, x0_621, x0_622, x0_623, x0_624, x0_625, x0_626, x0_627, x0_628, x0_629, x0_630, x0_631, x0_632, x0_633, x0_634, x0_637, x0_638, x0_639, x0_640, x0_641, x0_642, x0_643, x0_644, x0_645, x0_646, x0_647, x0_648, x0_649, x0_650, x0_651, x0_652, x0_653, x0_654, x0_655, x0_656, x0_657, x0_658, x0_661, x0_664, x0_665, ldI_3, ldR_0, ldR_1, ldR_2, I_pI, R_pI, c_pI, n_pI, u_pI, t_pI, l_pI, I_pR, R_pR, c_pR, n_pR, u_pR, t_pR, l_pR, get_s, Option.toList, List.nil_append, List.cons_append, List.length_nil, List.length_cons, gi_B, true_and, and_true, false_and, and_false, not_true_eq_false, not_false_eq_true, true_implies, false_implies, implies_true, Classical.not_not, ite_true, ite_false, Option.some.injEq, Sum.inl.injEq, exists_eq', eq_self, true_or, or_true, false_or, or_false, Nat.reduceEqDiff, Nat.reduceLeDiff, Nat.reduceAdd, Nat.zero_le, one_ne0, if_neg one_ne0', lt_102_103, lt_102_104, lt_102_105, lt_102_106, lt_99_107, lt_100_107, lt_101_107, lt_103_107, lt_104_107, lt_105_107, lt_106_107, lt_98_99, lt_98_100, lt_98_101, lt_98_106, e1, f1, g1, e2, f2, g2, e3, f3, g3, e4, f4, g4, t0, l0, u0, m0, u79, tg_1 hS, I0, I1, A, B, nn0, nn1, cmp_self]
  exact nx h2 J2
theorem lw_666 {L : Nat} {xs : Nat → Int32} {c d i : Nat} {h : gi_H} {Q : gi_P} (J : jH L xs c h) (hc : c ≤ 7142) (hi : i + 7 ≤ L) (hL : L ≤ 50000) (nx : ∀ h2, jH L xs (c + 1) h2 → gi_ex (gi_cx (d + 8)) 0 Q 1259 [some (.inr (.inr (some 0))), some (.inr (.inr (some 1))), some (.inr (.inr (some 79))), some (.inl (nI i))] [] h2) : gi_ex (gi_cx (d + 8)) 0 Q 666 [some (.inr (.inr (some 0))), some (.inr (.inr (some 1))), some (.inr (.inr (some 79))), some (.inl (nI i))] [] h := by
  have hS := J.1
  have h109 := hS.1
  have t0 : gi_tag h (some 0) = 99 := by rw [tag_s, J.2.2.1]
  have l0 : gi_len h (some 0) = L := by rw [len_s, J.2.2.1]
  have I0 : ∀ j, gi_I h 0 j = xs j := J.2.2.2.1
  have nn0 : ((99 : Nat) = 100) = False := by decide
  have nn1 : ((99 : Nat) = 99) = True := by decide
  have e1 : nI i + 1 = nI (i + 1) := nI_add _ _
  have f1 : vp_in (nI (i + 1)) L = True := eq_true (vp_in_nI (by omega) (by omega))
  have g1 : (nI (i + 1)).toNatClampNeg = i + 1 := nI_clamp (by omega)
  have e2 : nI i + 2 = nI (i + 2) := nI_add _ _
  have f2 : vp_in (nI (i + 2)) L = True := eq_true (vp_in_nI (by omega) (by omega))
  have g2 : (nI (i + 2)).toNatClampNeg = i + 2 := nI_clamp (by omega)
  have e3 : nI i + 3 = nI (i + 3) := nI_add _ _
  have f3 : vp_in (nI (i + 3)) L = True := eq_true (vp_in_nI (by omega) (by omega))
  have g3 : (nI (i + 3)).toNatClampNeg = i + 3 := nI_clamp (by omega)
  have e4 : nI i + 4 = nI (i + 4) := nI_add _ _
  have f4 : vp_in (nI (i + 4)) L = True := eq_true (vp_in_nI (by omega) (by omega))
  have g4 : (nI (i + 4)).toNatClampNeg = i + 4 := nI_clamp (by omega)
  have e5 : nI i + 5 = nI (i + 5) := nI_add _ _
  have f5 : vp_in (nI (i + 5)) L = True := eq_true (vp_in_nI (by omega) (by omega))
  have g5 : (nI (i + 5)).toNatClampNeg = i + 5 := nI_clamp (by omega)
  have e6 : nI i + 6 = nI (i + 6) := nI_add _ _
  have f6 : vp_in (nI (i + 6)) L = True := eq_true (vp_in_nI (by omega) (by omega))
  have g6 : (nI (i + 6)).toNatClampNeg = i + 6 := nI_clamp (by omega)
  rcases em_ (xs (i + 3) = 0) with b0 | b0
  · obtain ⟨v, h1, h2, A, B, J2⟩ := gi_Pr_get (show gi_Pr L xs (d + 8) 65 127 [.inl (xs (i + 1)), .inl (xs (i + 2)), .inl ((0 : Int32)), .inl (xs (i + 4)), .inl (xs (i + 5)), .inl (xs (i + 6))] c h from pr_acl (d := d + 2) J (xs (i + 1)) (xs (i + 2)) ((0 : Int32)) (xs (i + 4)) (xs (i + 5)) (xs (i + 6)))
    obtain ⟨x, rfl⟩ : ∃ x, v = .inl x := by
      obtain ⟨x, hx⟩ := (A _).mp (ty_I (by decide) (by decide) ((A (fun _ _ => True)).mpr trivial))
      exact ⟨x, by injection hx⟩
    have F : fr h h1 := by
      obtain ⟨r, k, e, f⟩ := gi_frm _ _ _ _ _ ((A (fun _ k => k = h1)).mpr rfl)
      rw [← e]; exact f
    obtain ⟨F1, F2, F3⟩ := F (by omega)
    have u0 : gi_tag h1 (some 0) = 99 := by rw [tag_s, F2 0 (by omega), J.2.2.1]
    have m0 : gi_len h1 (some 0) = L := by rw [len_s, F2 0 (by omega), J.2.2.1]
    have u79 : gi_tag h1 (some 79) = 9 := by rw [tag_s, F2 79 (by omega)]; exact tg_79 hS
    have I1 : ∀ j, gi_I h1 0 j = xs j := fun j => by rw [F3 (by rw [J.2.2.1]) j]; exact J.2.2.2.1 j
    simp only [x0_666, x0_667, x0_668, x0_669, x0_670, x0_671, x0_672, x0_673, x0_674, x0_675, x0_676, x0_677, x0_678, x0_679, x0_680, x0_681, x0_682, x0_685, x0_686, x0_689, x0_690, x0_691, x0_692, x0_693, x0_694, x0_695, x0_696, x0_697, x0_698, x0_699, x0_700, x0_701, x0_702, x0_704, x0_705, x0_706, x0_709, x0_710, x0_711, x0_712, x0_713, x0_714, x0_715, x0_716, x0_717, x0_718, x0_719, x0_720, x0_721, x0_722, x0_723, x0_724, x0_725, x0_728, x0_729, x0_732, x0_733, x0_734, x0_735, x0_736, x0_737, x0_738, x0_739, x0_740, x0_741, x0_742, x0_743, x0_744, x0_745, x0_747, x0_748, x0_749, x0_752, x0_755, x0_756, ldI_3, ldR_0, ldR_1, ldR_2, I_pI, R_pI, c_pI, n_pI, u_pI, t_pI, l_pI, I_pR, R_pR, c_pR, n_pR, u_pR, t_pR, l_pR, get_s, Option.toList, List.nil_append, List.cons_append, List.length_nil, List.length_cons, gi_B, true_and, and_true, false_and, and_false, not_true_eq_false, not_false_eq_true, true_implies, false_implies, implies_true, Classical.not_not, ite_true, ite_false, Option.some.injEq, Sum.inl.injEq, exists_eq', eq_self, true_or, or_true, false_or, or_false, Nat.reduceEqDiff, Nat.reduceLeDiff, Nat.reduceAdd, Nat.zero_le, one_ne0, if_neg one_ne0', lt_102_103, lt_102_104, lt_102_105, lt_102_106, lt_99_107, lt_100_107, lt_101_107, lt_103_107, lt_104_107, lt_105_107, lt_106_107, lt_98_99, lt_98_100, lt_98_101, lt_98_106, e1, f1, g1, e2, f2, g2, e3, f3, g3, e4, f4, g4, e5, f5, g5, e6, f6, g6, t0, l0, u0, m0, u79, tg_1 hS, I0, I1, A, B, nn0, nn1, cmp_self, b0]
    exact nx h2 J2
  · obtain ⟨v, h1, h2, A, B, J2⟩ := gi_Pr_get (show gi_Pr L xs (d + 8) 65 127 [.inl (xs (i + 1)), .inl (xs (i + 2)), .inl ((1 : Int32)), .inl (xs (i + 4)), .inl (xs (i + 5)), .inl (xs (i + 6))] c h from pr_acl (d := d + 2) J (xs (i + 1)) (xs (i + 2)) ((1 : Int32)) (xs (i + 4)) (xs (i + 5)) (xs (i + 6)))
    obtain ⟨x, rfl⟩ : ∃ x, v = .inl x := by
      obtain ⟨x, hx⟩ := (A _).mp (ty_I (by decide) (by decide) ((A (fun _ _ => True)).mpr trivial))
      exact ⟨x, by injection hx⟩
    have F : fr h h1 := by
      obtain ⟨r, k, e, f⟩ := gi_frm _ _ _ _ _ ((A (fun _ k => k = h1)).mpr rfl)
      rw [← e]; exact f
    obtain ⟨F1, F2, F3⟩ := F (by omega)
    have u0 : gi_tag h1 (some 0) = 99 := by rw [tag_s, F2 0 (by omega), J.2.2.1]
    have m0 : gi_len h1 (some 0) = L := by rw [len_s, F2 0 (by omega), J.2.2.1]
    have u79 : gi_tag h1 (some 79) = 9 := by rw [tag_s, F2 79 (by omega)]; exact tg_79 hS
    have I1 : ∀ j, gi_I h1 0 j = xs j := fun j => by rw [F3 (by rw [J.2.2.1]) j]; exact J.2.2.2.1 j
    simp only [x0_666, x0_667, x0_668, x0_669, x0_670, x0_671, x0_672, x0_673, x0_674, x0_675, x0_676, x0_677, x0_678, x0_679, x0_680, x0_681, x0_682, x0_685, x0_686, x0_689, x0_690, x0_691, x0_692, x0_693, x0_694, x0_695, x0_696, x0_697, x0_698, x0_699, x0_700, x0_701, x0_702, x0_704, x0_705, x0_706, x0_709, x0_710, x0_711, x0_712, x0_713, x0_714, x0_715, x0_716, x0_717, x0_718, x0_719, x0_720, x0_721, x0_722, x0_723, x0_724, x0_725, x0_728, x0_729, x0_732, x0_733, x0_734, x0_735, x0_736, x0_737, x0_738, x0_739, x0_740, x0_741, x0_742, x0_743, x0_744, x0_745, x0_747, x0_748, x0_749, x0_752, x0_755, x0_756, ldI_3, ldR_0, ldR_1, ldR_2, I_pI, R_pI, c_pI, n_pI, u_pI, t_pI, l_pI, I_pR, R_pR, c_pR, n_pR, u_pR, t_pR, l_pR, get_s, Option.toList, List.nil_append, List.cons_append, List.length_nil, List.length_cons, gi_B, true_and, and_true, false_and, and_false, not_true_eq_false, not_false_eq_true, true_implies, false_implies, implies_true, Classical.not_not, ite_true, ite_false, Option.some.injEq, Sum.inl.injEq, exists_eq', eq_self, true_or, or_true, false_or, or_false, Nat.reduceEqDiff, Nat.reduceLeDiff, Nat.reduceAdd, Nat.zero_le, one_ne0, if_neg one_ne0', lt_102_103, lt_102_104, lt_102_105, lt_102_106, lt_99_107, lt_100_107, lt_101_107, lt_103_107, lt_104_107, lt_105_107, lt_106_107, lt_98_99, lt_98_100, lt_98_101, lt_98_106, e1, f1, g1, e2, f2, g2, e3, f3, g3, e4, f4, g4, e5, f5, g5, e6, f6, g6, t0, l0, u0, m0, u79, tg_1 hS, I0, I1, A, B, nn0, nn1, cmp_self, b0]
    exact nx h2 J2
theorem lw_757 {L : Nat} {xs : Nat → Int32} {c d i : Nat} {h : gi_H} {Q : gi_P} (J : jH L xs c h) (hc : c ≤ 7142) (hi : i + 7 ≤ L) (hL : L ≤ 50000) (nx : ∀ h2, jH L xs (c + 1) h2 → gi_ex (gi_cx (d + 8)) 0 Q 1259 [some (.inr (.inr (some 0))), some (.inr (.inr (some 1))), some (.inr (.inr (some 79))), some (.inl (nI i))] [] h2) : gi_ex (gi_cx (d + 8)) 0 Q 757 [some (.inr (.inr (some 0))), some (.inr (.inr (some 1))), some (.inr (.inr (some 79))), some (.inl (nI i))] [] h := by
  have hS := J.1
  have h109 := hS.1
  have t0 : gi_tag h (some 0) = 99 := by rw [tag_s, J.2.2.1]
  have l0 : gi_len h (some 0) = L := by rw [len_s, J.2.2.1]
  have I0 : ∀ j, gi_I h 0 j = xs j := J.2.2.2.1
  have nn0 : ((99 : Nat) = 100) = False := by decide
  have nn1 : ((99 : Nat) = 99) = True := by decide
  have e1 : nI i + 1 = nI (i + 1) := nI_add _ _
  have f1 : vp_in (nI (i + 1)) L = True := eq_true (vp_in_nI (by omega) (by omega))
  have g1 : (nI (i + 1)).toNatClampNeg = i + 1 := nI_clamp (by omega)
  have e2 : nI i + 2 = nI (i + 2) := nI_add _ _
  have f2 : vp_in (nI (i + 2)) L = True := eq_true (vp_in_nI (by omega) (by omega))
  have g2 : (nI (i + 2)).toNatClampNeg = i + 2 := nI_clamp (by omega)
  have e3 : nI i + 3 = nI (i + 3) := nI_add _ _
  have f3 : vp_in (nI (i + 3)) L = True := eq_true (vp_in_nI (by omega) (by omega))
  have g3 : (nI (i + 3)).toNatClampNeg = i + 3 := nI_clamp (by omega)
  rcases em_ (xs (i + 2) = 0) with b0 | b0
  · obtain ⟨v, h1, h2, A, B, J2⟩ := gi_Pr_get (show gi_Pr L xs (d + 8) 70 129 [.inl (xs (i + 1)), .inl ((0 : Int32)), .inl (xs (i + 3))] c h from pr_list (d := d + 4) J (xs (i + 1)) ((0 : Int32)) (xs (i + 3)))
    obtain ⟨x, rfl⟩ : ∃ x, v = .inl x := by
      obtain ⟨x, hx⟩ := (A _).mp (ty_I (by decide) (by decide) ((A (fun _ _ => True)).mpr trivial))
      exact ⟨x, by injection hx⟩
    have F : fr h h1 := by
      obtain ⟨r, k, e, f⟩ := gi_frm _ _ _ _ _ ((A (fun _ k => k = h1)).mpr rfl)
      rw [← e]; exact f
    obtain ⟨F1, F2, F3⟩ := F (by omega)
    have u0 : gi_tag h1 (some 0) = 99 := by rw [tag_s, F2 0 (by omega), J.2.2.1]
    have m0 : gi_len h1 (some 0) = L := by rw [len_s, F2 0 (by omega), J.2.2.1]
    have u79 : gi_tag h1 (some 79) = 9 := by rw [tag_s, F2 79 (by omega)]; exact tg_79 hS
    have I1 : ∀ j, gi_I h1 0 j = xs j := fun j => by rw [F3 (by rw [J.2.2.1]) j]; exact J.2.2.2.1 j
    simp only [x0_757, x0_758, x0_759, x0_760, x0_761, x0_762, x0_763, x0_764, x0_765, x0_766, x0_767, x0_768, x0_771, x0_772, x0_775, x0_776, x0_777, x0_778, x0_779, x0_780, x0_781, x0_784, x0_785, x0_786, x0_787, x0_788, x0_789, x0_790, x0_791, x0_792, x0_793, x0_794, x0_795, x0_798, x0_799, x0_802, x0_803, x0_804, x0_805, x0_806, x0_807, x0_808, x0_811, x0_814, x0_815, ldI_3, ldR_0, ldR_1, ldR_2, I_pI, R_pI, c_pI, n_pI, u_pI, t_pI, l_pI, I_pR, R_pR, c_pR, n_pR, u_pR, t_pR, l_pR, get_s, Option.toList, List.nil_append, List.cons_append, List.length_nil, List.length_cons, gi_B, true_and, and_true, false_and, and_false, not_true_eq_false, not_false_eq_true, true_implies, false_implies, implies_true, Classical.not_not, ite_true, ite_false, Option.some.injEq, Sum.inl.injEq, exists_eq', eq_self, true_or, or_true, false_or, or_false, Nat.reduceEqDiff, Nat.reduceLeDiff, Nat.reduceAdd, Nat.zero_le, one_ne0, if_neg one_ne0', lt_102_103, lt_102_104, lt_102_105, lt_102_106, lt_99_107, lt_100_107, lt_101_107, lt_103_107, lt_104_107, lt_105_107, lt_106_107, lt_98_99, lt_98_100, lt_98_101, lt_98_106, e1, f1, g1, e2, f2, g2, e3, f3, g3, t0, l0, u0, m0, u79, tg_1 hS, I0, I1, A, B, nn0, nn1, cmp_self, b0]
    exact nx h2 J2
  · obtain ⟨v, h1, h2, A, B, J2⟩ := gi_Pr_get (show gi_Pr L xs (d + 8) 70 129 [.inl (xs (i + 1)), .inl ((1 : Int32)), .inl (xs (i + 3))] c h from pr_list (d := d + 4) J (xs (i + 1)) ((1 : Int32)) (xs (i + 3)))
    obtain ⟨x, rfl⟩ : ∃ x, v = .inl x := by
      obtain ⟨x, hx⟩ := (A _).mp (ty_I (by decide) (by decide) ((A (fun _ _ => True)).mpr trivial))
      exact ⟨x, by injection hx⟩
    have F : fr h h1 := by
      obtain ⟨r, k, e, f⟩ := gi_frm _ _ _ _ _ ((A (fun _ k => k = h1)).mpr rfl)
      rw [← e]; exact f
    obtain ⟨F1, F2, F3⟩ := F (by omega)
    have u0 : gi_tag h1 (some 0) = 99 := by rw [tag_s, F2 0 (by omega), J.2.2.1]
    have m0 : gi_len h1 (some 0) = L := by rw [len_s, F2 0 (by omega), J.2.2.1]
    have u79 : gi_tag h1 (some 79) = 9 := by rw [tag_s, F2 79 (by omega)]; exact tg_79 hS
    have I1 : ∀ j, gi_I h1 0 j = xs j := fun j => by rw [F3 (by rw [J.2.2.1]) j]; exact J.2.2.2.1 j
    simp only [x0_757, x0_758, x0_759, x0_760, x0_761, x0_762, x0_763, x0_764, x0_765, x0_766, x0_767, x0_768, x0_771, x0_772, x0_775, x0_776, x0_777, x0_778, x0_779, x0_780, x0_781, x0_784, x0_785, x0_786, x0_787, x0_788, x0_789, x0_790, x0_791, x0_792, x0_793, x0_794, x0_795, x0_798, x0_799, x0_802, x0_803, x0_804, x0_805, x0_806, x0_807, x0_808, x0_811, x0_814, x0_815, ldI_3, ldR_0, ldR_1, ldR_2, I_pI, R_pI, c_pI, n_pI, u_pI, t_pI, l_pI, I_pR, R_pR, c_pR, n_pR, u_pR, t_pR, l_pR, get_s, Option.toList, List.nil_append, List.cons_append, List.length_nil, List.length_cons, gi_B, true_and, and_true, false_and, and_false, not_true_eq_false, not_false_eq_true, true_implies, false_implies, implies_true, Classical.not_not, ite_true, ite_false, Option.some.injEq, Sum.inl.injEq, exists_eq', eq_self, true_or, or_true, false_or, or_false, Nat.reduceEqDiff, Nat.reduceLeDiff, Nat.reduceAdd, Nat.zero_le, one_ne0, if_neg one_ne0', lt_102_103, lt_102_104, lt_102_105, lt_102_106, lt_99_107, lt_100_107, lt_101_107, lt_103_107, lt_104_107, lt_105_107, lt_106_107, lt_98_99, lt_98_100, lt_98_101, lt_98_106, e1, f1, g1, e2, f2, g2, e3, f3, g3, t0, l0, u0, m0, u79, tg_1 hS, I0, I1, A, B, nn0, nn1, cmp_self, b0]
    exact nx h2 J2
theorem lw_816 {L : Nat} {xs : Nat → Int32} {c d i : Nat} {h : gi_H} {Q : gi_P} (J : jH L xs c h) (hc : c ≤ 7142) (hi : i + 7 ≤ L) (hL : L ≤ 50000) (nx : ∀ h2, jH L xs (c + 1) h2 → gi_ex (gi_cx (d + 8)) 0 Q 1259 [some (.inr (.inr (some 0))), some (.inr (.inr (some 1))), some (.inr (.inr (some 79))), some (.inl (nI i))] [] h2) : gi_ex (gi_cx (d + 8)) 0 Q 816 [some (.inr (.inr (some 0))), some (.inr (.inr (some 1))), some (.inr (.inr (some 79))), some (.inl (nI i))] [] h := by
  have hS := J.1
  have h109 := hS.1
  have t0 : gi_tag h (some 0) = 99 := by rw [tag_s, J.2.2.1]
  have l0 : gi_len h (some 0) = L := by rw [len_s, J.2.2.1]
  have I0 : ∀ j, gi_I h 0 j = xs j := J.2.2.2.1
  have nn0 : ((99 : Nat) = 100) = False := by decide
  have nn1 : ((99 : Nat) = 99) = True := by decide
  have e1 : nI i + 1 = nI (i + 1) := nI_add _ _
  have f1 : vp_in (nI (i + 1)) L = True := eq_true (vp_in_nI (by omega) (by omega))
  have g1 : (nI (i + 1)).toNatClampNeg = i + 1 := nI_clamp (by omega)
  have e2 : nI i + 2 = nI (i + 2) := nI_add _ _
  have f2 : vp_in (nI (i + 2)) L = True := eq_true (vp_in_nI (by omega) (by omega))
  have g2 : (nI (i + 2)).toNatClampNeg = i + 2 := nI_clamp (by omega)
  have e3 : nI i + 3 = nI (i + 3) := nI_add _ _
  have f3 : vp_in (nI (i + 3)) L = True := eq_true (vp_in_nI (by omega) (by omega))
  have g3 : (nI (i + 3)).toNatClampNeg = i + 3 := nI_clamp (by omega)
  obtain ⟨v, h1, h2, A, B, J2⟩ := gi_Pr_get (show gi_Pr L xs (d + 8) 72 131 [.inl (xs (i + 1)), .inl (xs (i + 2)), .inl (xs (i + 3))] c h from pr_may (d := d + 2) J (xs (i + 1)) (xs (i + 2)) (xs (i + 3)))
  obtain ⟨x, rfl⟩ : ∃ x, v = .inl x := by
    obtain ⟨x, hx⟩ := (A _).mp (ty_I (by decide) (by decide) ((A (fun _ _ => True)).mpr trivial))
    exact ⟨x, by injection hx⟩
  have F : fr h h1 := by
    obtain ⟨r, k, e, f⟩ := gi_frm _ _ _ _ _ ((A (fun _ k => k = h1)).mpr rfl)
    rw [← e]; exact f
  obtain ⟨F1, F2, F3⟩ := F (by omega)
  have u0 : gi_tag h1 (some 0) = 99 := by rw [tag_s, F2 0 (by omega), J.2.2.1]
  have m0 : gi_len h1 (some 0) = L := by rw [len_s, F2 0 (by omega), J.2.2.1]
  have u79 : gi_tag h1 (some 79) = 9 := by rw [tag_s, F2 79 (by omega)]; exact tg_79 hS
  have I1 : ∀ j, gi_I h1 0 j = xs j := fun j => by rw [F3 (by rw [J.2.2.1]) j]; exact J.2.2.2.1 j
  simp only [x0_816, x0_817, x0_818, x0_819, x0_820, x0_821, x0_822, x0_823, x0_824, x0_825, x0_826, x0_827, x0_828, x0_829, x0_830, x0_831, x0_832, x0_835, x0_836, x0_837, x0_838, x0_839, x0_840, x0_841, x0_842, x0_843, x0_844, x0_845, x0_846, x0_847, x0_848, x0_849, x0_850, x0_851, x0_854, x0_857, x0_858, ldI_3, ldR_0, ldR_1, ldR_2, I_pI, R_pI, c_pI, n_pI, u_pI, t_pI, l_pI, I_pR, R_pR, c_pR, n_pR, u_pR, t_pR, l_pR, get_s, Option.toList, List.nil_append, List.cons_append, List.length_nil, List.length_cons, gi_B, true_and, and_true, false_and, and_false, not_true_eq_false, not_false_eq_true, true_implies, false_implies, implies_true, Classical.not_not, ite_true, ite_false, Option.some.injEq, Sum.inl.injEq, exists_eq', eq_self, true_or, or_true, false_or, or_false, Nat.reduceEqDiff, Nat.reduceLeDiff, Nat.reduceAdd, Nat.zero_le, one_ne0, if_neg one_ne0', lt_102_103, lt_102_104, lt_102_105, lt_102_106, lt_99_107, lt_100_107, lt_101_107, lt_103_107, lt_104_107, lt_105_107, lt_106_107, lt_98_99, lt_98_100, lt_98_101, lt_98_106, e1, f1, g1, e2, f2, g2, e3, f3, g3, t0, l0, u0, m0, u79, tg_1 hS, I0, I1, A, B, nn0, nn1, cmp_self]
  exact nx h2 J2
theorem lw_859 {L : Nat} {xs : Nat → Int32} {c d i : Nat} {h : gi_H} {Q : gi_P} (J : jH L xs c h) (hc : c ≤ 7142) (hi : i + 7 ≤ L) (hL : L ≤ 50000) (nx : ∀ h2, jH L xs (c + 1) h2 → gi_ex (gi_cx (d + 8)) 0 Q 1259 [some (.inr (.inr (some 0))), some (.inr (.inr (some 1))), some (.inr (.inr (some 79))), some (.inl (nI i))] [] h2) : gi_ex (gi_cx (d + 8)) 0 Q 859 [some (.inr (.inr (some 0))), some (.inr (.inr (some 1))), some (.inr (.inr (some 79))), some (.inl (nI i))] [] h := by
  have hS := J.1
  have h109 := hS.1
  have t0 : gi_tag h (some 0) = 99 := by rw [tag_s, J.2.2.1]
  have l0 : gi_len h (some 0) = L := by rw [len_s, J.2.2.1]
  have I0 : ∀ j, gi_I h 0 j = xs j := J.2.2.2.1
  have nn0 : ((99 : Nat) = 100) = False := by decide
  have nn1 : ((99 : Nat) = 99) = True := by decide
  have e1 : nI i + 1 = nI (i + 1) := nI_add _ _
  have f1 : vp_in (nI (i + 1)) L = True := eq_true (vp_in_nI (by omega) (by omega))
  have g1 : (nI (i + 1)).toNatClampNeg = i + 1 := nI_clamp (by omega)
  obtain ⟨v, h1, h2, A, B, J2⟩ := gi_Pr_get (show gi_Pr L xs (d + 8) 73 132 [.inl (xs (i + 1))] c h from pr_feed (d := d + 5) J (xs (i + 1)))
  obtain ⟨x, rfl⟩ : ∃ x, v = .inl x := by
    obtain ⟨x, hx⟩ := (A _).mp (ty_I (by decide) (by decide) ((A (fun _ _ => True)).mpr trivial))
    exact ⟨x, by injection hx⟩
  have F : fr h h1 := by
    obtain ⟨r, k, e, f⟩ := gi_frm _ _ _ _ _ ((A (fun _ k => k = h1)).mpr rfl)
    rw [← e]; exact f
  obtain ⟨F1, F2, F3⟩ := F (by omega)
  have u0 : gi_tag h1 (some 0) = 99 := by rw [tag_s, F2 0 (by omega), J.2.2.1]
  have m0 : gi_len h1 (some 0) = L := by rw [len_s, F2 0 (by omega), J.2.2.1]
  have u79 : gi_tag h1 (some 79) = 9 := by rw [tag_s, F2 79 (by omega)]; exact tg_79 hS
  have I1 : ∀ j, gi_I h1 0 j = xs j := fun j => by rw [F3 (by rw [J.2.2.1]) j]; exact J.2.2.2.1 j
  simp only [x0_859, x0_860, x0_861, x0_862, x0_863, x0_864, x0_865, x0_868, x0_869, x0_870, x0_871, x0_872, x0_873, x0_874, x0_877, x0_880, x0_881, ldI_3, ldR_0, ldR_1, ldR_2, I_pI, R_pI, c_pI, n_pI, u_pI, t_pI, l_pI, I_pR, R_pR, c_pR, n_pR, u_pR, t_pR, l_pR, get_s, Option.toList, List.nil_append, List.cons_append, List.length_nil, List.length_cons, gi_B, true_and, and_true, false_and, and_false, not_true_eq_false, not_false_eq_true, true_implies, false_implies, implies_true, Classical.not_not, ite_true, ite_false, Option.some.injEq, Sum.inl.injEq, exists_eq', eq_self, true_or, or_true, false_or, or_false, Nat.reduceEqDiff, Nat.reduceLeDiff, Nat.reduceAdd, Nat.zero_le, one_ne0, if_neg one_ne0', lt_102_103, lt_102_104, lt_102_105, lt_102_106, lt_99_107, lt_100_107, lt_101_107, lt_103_107, lt_104_107, lt_105_107, lt_106_107, lt_98_99, lt_98_100, lt_98_101, lt_98_106, e1, f1, g1, t0, l0, u0, m0, u79, tg_1 hS, I0, I1, A, B, nn0, nn1, cmp_self]
  exact nx h2 J2
theorem lw_882 {L : Nat} {xs : Nat → Int32} {c d i : Nat} {h : gi_H} {Q : gi_P} (J : jH L xs c h) (hc : c ≤ 7142) (hi : i + 7 ≤ L) (hL : L ≤ 50000) (nx : ∀ h2, jH L xs (c + 1) h2 → gi_ex (gi_cx (d + 8)) 0 Q 1259 [some (.inr (.inr (some 0))), some (.inr (.inr (some 1))), some (.inr (.inr (some 79))), some (.inl (nI i))] [] h2) : gi_ex (gi_cx (d + 8)) 0 Q 882 [some (.inr (.inr (some 0))), some (.inr (.inr (some 1))), some (.inr (.inr (some 79))), some (.inl (nI i))] [] h := by
  have hS := J.1
  have h109 := hS.1
  have t0 : gi_tag h (some 0) = 99 := by rw [tag_s, J.2.2.1]
  have l0 : gi_len h (some 0) = L := by rw [len_s, J.2.2.1]
  have I0 : ∀ j, gi_I h 0 j = xs j := J.2.2.2.1
  have nn0 : ((99 : Nat) = 100) = False := by decide
  have nn1 : ((99 : Nat) = 99) = True := by decide
  have e1 : nI i + 1 = nI (i + 1) := nI_add _ _
  have f1 : vp_in (nI (i + 1)) L = True := eq_true (vp_in_nI (by omega) (by omega))
  have g1 : (nI (i + 1)).toNatClampNeg = i + 1 := nI_clamp (by omega)
  have e2 : nI i + 2 = nI (i + 2) := nI_add _ _
  have f2 : vp_in (nI (i + 2)) L = True := eq_true (vp_in_nI (by omega) (by omega))
  have g2 : (nI (i + 2)).toNatClampNeg = i + 2 := nI_clamp (by omega)
  have e3 : nI i + 3 = nI (i + 3) := nI_add _ _
  have f3 : vp_in (nI (i + 3)) L = True := eq_true (vp_in_nI (by omega) (by omega))
  have g3 : (nI (i + 3)).toNatClampNeg = i + 3 := nI_clamp (by omega)
  obtain ⟨v, h1, h2, A, B, J2⟩ := gi_Pr_get (show gi_Pr L xs (d + 8) 74 133 [.inl (xs (i + 1)), .inl (xs (i + 2)), .inl (xs (i + 3))] c h from pr_put (d := d + 1) J hc (xs (i + 1)) (xs (i + 2)) (xs (i + 3)))
  obtain ⟨x, rfl⟩ : ∃ x, v = .inl x := by
    obtain ⟨x, hx⟩ := (A _).mp (ty_I (by decide) (by decide) ((A (fun _ _ => True)).mpr trivial))
    exact ⟨x, by injection hx⟩
  have F : fr h h1 := by
    obtain ⟨r, k, e, f⟩ := gi_frm _ _ _ _ _ ((A (fun _ k => k = h1)).mpr rfl)
    rw [← e]; exact f
  obtain ⟨F1, F2, F3⟩ := F (by omega)
  have u0 : gi_tag h1 (some 0) = 99 := by rw [tag_s, F2 0 (by omega), J.2.2.1]
  have m0 : gi_len h1 (some 0) = L := by rw [len_s, F2 0 (by omega), J.2.2.1]
  have u79 : gi_tag h1 (some 79) = 9 := by rw [tag_s, F2 79 (by omega)]; exact tg_79 hS
  have I1 : ∀ j, gi_I h1 0 j = xs j := fun j => by rw [F3 (by rw [J.2.2.1]) j]; exact J.2.2.2.1 j
  simp only [x0_882, x0_883, x0_884, x0_885, x0_886, x0_887, x0_888, x0_889, x0_890, x0_891, x0_892, x0_893, x0_894, x0_895, x0_896, x0_897, x0_898, x0_901, x0_902, x0_903, x0_904, x0_905, x0_906, x0_907, x0_908, x0_909, x0_910, x0_911, x0_912, x0_913, x0_914, x0_915, x0_916, x0_917, x0_920, x0_923, x0_924, ldI_3, ldR_0, ldR_1, ldR_2, I_pI, R_pI, c_pI, n_pI, u_pI, t_pI, l_pI, I_pR, R_pR, c_pR, n_pR, u_pR, t_pR, l_pR, get_s, Option.toList, List.nil_append, List.cons_append, List.length_nil, List.length_cons, gi_B, true_and, and_true, false_and, and_false, not_true_eq_false, not_false_eq_true, true_implies, false_implies, implies_true, Classical.not_not, ite_true, ite_false, Option.some.injEq, Sum.inl.injEq, exists_eq', eq_self, true_or, or_true, false_or, or_false, Nat.reduceEqDiff, Nat.reduceLeDiff, Nat.reduceAdd, Nat.zero_le, one_ne0, if_neg one_ne0', lt_102_103, lt_102_104, lt_102_105, lt_102_106, lt_99_107, lt_100_107, lt_101_107, lt_103_107, lt_104_107, lt_105_107, lt_106_107, lt_98_99, lt_98_100, lt_98_101, lt_98_106, e1, f1, g1, e2, f2, g2, e3, f3, g3, t0, l0, u0, m0, u79, tg_1 hS, I0, I1, A, B, nn0, nn1, cmp_self]
  exact nx h2 J2
theorem lw_925 {L : Nat} {xs : Nat → Int32} {c d i : Nat} {h : gi_H} {Q : gi_P} (J : jH L xs c h) (hc : c ≤ 7142) (hi : i + 7 ≤ L) (hL : L ≤ 50000) (nx : ∀ h2, jH L xs (c + 1) h2 → gi_ex (gi_cx (d + 8)) 0 Q 1259 [some (.inr (.inr (some 0))), some (.inr (.inr (some 1))), some (.inr (.inr (some 79))), some (.inl (nI i))] [] h2) : gi_ex (gi_cx (d + 8)) 0 Q 925 [some (.inr (.inr (some 0))), some (.inr (.inr (some 1))), some (.inr (.inr (some 79))), some (.inl (nI i))] [] h := by
  have hS := J.1
  have h109 := hS.1
  have t0 : gi_tag h (some 0) = 99 := by rw [tag_s, J.2.2.1]
  have l0 : gi_len h (some 0) = L := by rw [len_s, J.2.2.1]
  have I0 : ∀ j, gi_I h 0 j = xs j := J.2.2.2.1
  have nn0 : ((99 : Nat) = 100) = False := by decide
  have nn1 : ((99 : Nat) = 99) = True := by decide
  have e1 : nI i + 1 = nI (i + 1) := nI_add _ _
  have f1 : vp_in (nI (i + 1)) L = True := eq_true (vp_in_nI (by omega) (by omega))
  have g1 : (nI (i + 1)).toNatClampNeg = i + 1 := nI_clamp (by omega)
  have e2 : nI i + 2 = nI (i + 2) := nI_add _ _
  have f2 : vp_in (nI (i + 2)) L = True := eq_true (vp_in_nI (by omega) (by omega))
  have g2 : (nI (i + 2)).toNatClampNeg = i + 2 := nI_clamp (by omega)
  have e3 : nI i + 3 = nI (i + 3) := nI_add _ _
  have f3 : vp_in (nI (i + 3)) L = True := eq_true (vp_in_nI (by omega) (by omega))
  have g3 : (nI (i + 3)).toNatClampNeg = i + 3 := nI_clamp (by omega)
  obtain ⟨v, h1, h2, A, B, J2⟩ := gi_Pr_get (show gi_Pr L xs (d + 8) 82 137 [.inl (xs (i + 1)), .inl (xs (i + 2)), .inl (xs (i + 3))] c h from pr_take (d := d + 1) J hc (xs (i + 1)) (xs (i + 2)) (xs (i + 3)))
  obtain ⟨x, rfl⟩ : ∃ x, v = .inl x := by
    obtain ⟨x, hx⟩ := (A _).mp (ty_I (by decide) (by decide) ((A (fun _ _ => True)).mpr trivial))
    exact ⟨x, by injection hx⟩
  have F : fr h h1 := by
    obtain ⟨r, k, e, f⟩ := gi_frm _ _ _ _ _ ((A (fun _ k => k = h1)).mpr rfl)
    rw [← e]; exact f
  obtain ⟨F1, F2, F3⟩ := F (by omega)
  have u0 : gi_tag h1 (some 0) = 99 := by rw [tag_s, F2 0 (by omega), J.2.2.1]
  have m0 : gi_len h1 (some 0) = L := by rw [len_s, F2 0 (by omega), J.2.2.1]
  have u79 : gi_tag h1 (some 79) = 9 := by rw [tag_s, F2 79 (by omega)]; exact tg_79 hS
  have I1 : ∀ j, gi_I h1 0 j = xs j := fun j => by rw [F3 (by rw [J.2.2.1]) j]; exact J.2.2.2.1 j
  simp only [x0_925, x0_926, x0_927, x0_928, x0_929, x0_930, x0_931, x0_932, x0_933, x0_934, x0_935, x0_936, x0_937, x0_938, x0_939, x0_940, x0_941, x0_944, x0_945, x0_946, x0_947, x0_948, x0_949, x0_950, x0_951, x0_952, x0_953, x0_954, x0_955, x0_956, x0_957, x0_958, x0_959, x0_960, x0_963, x0_966, x0_967, ldI_3, ldR_0, ldR_1, ldR_2, I_pI, R_pI, c_pI, n_pI, u_pI, t_pI, l_pI, I_pR, R_pR, c_pR, n_pR, u_pR, t_pR, l_pR, get_s, Option.toList, List.nil_append, List.cons_append, List.length_nil, List.length_cons, gi_B, true_and, and_true, false_and, and_false, not_true_eq_false, not_false_eq_true, true_implies, false_implies, implies_true, Classical.not_not, ite_true, ite_false, Option.some.injEq, Sum.inl.injEq, exists_eq', eq_self, true_or, or_true, false_or, or_false, Nat.reduceEqDiff, Nat.reduceLeDiff, Nat.reduceAdd, Nat.zero_le, one_ne0, if_neg one_ne0', lt_102_103, lt_102_104, lt_102_105, lt_102_106, lt_99_107, lt_100_107, lt_101_107, lt_103_107, lt_104_107, lt_105_107, lt_106_107, lt_98_99, lt_98_100, lt_98_101, lt_98_106, e1, f1, g1, e2, f2, g2, e3, f3, g3, t0, l0, u0, m0, u79, tg_1 hS, I0, I1, A, B, nn0, nn1, cmp_self]
  exact nx h2 J2
theorem lw_968 {L : Nat} {xs : Nat → Int32} {c d i : Nat} {h : gi_H} {Q : gi_P} (J : jH L xs c h) (hc : c ≤ 7142) (hi : i + 7 ≤ L) (hL : L ≤ 50000) (nx : ∀ h2, jH L xs (c + 1) h2 → gi_ex (gi_cx (d + 8)) 0 Q 1259 [some (.inr (.inr (some 0))), some (.inr (.inr (some 1))), some (.inr (.inr (some 79))), some (.inl (nI i))] [] h2) : gi_ex (gi_cx (d + 8)) 0 Q 968 [some (.inr (.inr (some 0))), some (.inr (.inr (some 1))), some (.inr (.inr (some 79))), some (.inl (nI i))] [] h := by
  have hS := J.1
  have h109 := hS.1
  have t0 : gi_tag h (some 0) = 99 := by rw [tag_s, J.2.2.1]
  have l0 : gi_len h (some 0) = L := by rw [len_s, J.2.2.1]
  have I0 : ∀ j, gi_I h 0 j = xs j := J.2.2.2.1
  have nn0 : ((99 : Nat) = 100) = False := by decide
  have nn1 : ((99 : Nat) = 99) = True := by decide
  have e1 : nI i + 1 = nI (i + 1) := nI_add _ _
  have f1 : vp_in (nI (i + 1)) L = True := eq_true (vp_in_nI (by omega) (by omega))
  have g1 : (nI (i + 1)).toNatClampNeg = i + 1 := nI_clamp (by omega)
  have e2 : nI i + 2 = nI (i + 2) := nI_add _ _
  have f2 : vp_in (nI (i + 2)) L = True := eq_true (vp_in_nI (by omega) (by omega))
  have g2 : (nI (i + 2)).toNatClampNeg = i + 2 := nI_clamp (by omega)
  have e3 : nI i + 3 = nI (i + 3) := nI_add _ _
  have f3 : vp_in (nI (i + 3)) L = True := eq_true (vp_in_nI (by omega) (by omega))
  have g3 : (nI (i + 3)).toNatClampNeg = i + 3 := nI_clamp (by omega)
  have e4 : nI i + 4 = nI (i + 4) := nI_add _ _
  have f4 : vp_in (nI (i + 4)) L = True := eq_true (vp_in_nI (by omega) (by omega))
  have g4 : (nI (i + 4)).toNatClampNeg = i + 4 := nI_clamp (by omega)
  obtain ⟨v, h1, h2, A, B, J2⟩ := gi_Pr_get (show gi_Pr L xs (d + 8) 83 138 [.inl (xs (i + 1)), .inl (xs (i + 2)), .inl (xs (i + 3)), .inl (xs (i + 4))] c h from pr_attribute (d := d + 1) J (xs (i + 1)) (xs (i + 2)) (xs (i + 3)) (xs (i + 4)))
  obtain ⟨x, rfl⟩ : ∃ x, v = .inl x := by
    obtain ⟨x, hx⟩ := (A _).mp (ty_I (by decide) (by decide) ((A (fun _ _ => True)).mpr trivial))
    exact ⟨x, by injection hx⟩
  have F : fr h h1 := by
    obtain ⟨r, k, e, f⟩ := gi_frm _ _ _ _ _ ((A (fun _ k => k = h1)).mpr rfl)
    rw [← e]; exact f
  obtain ⟨F1, F2, F3⟩ := F (by omega)
  have u0 : gi_tag h1 (some 0) = 99 := by rw [tag_s, F2 0 (by omega), J.2.2.1]
  have m0 : gi_len h1 (some 0) = L := by rw [len_s, F2 0 (by omega), J.2.2.1]
  have u79 : gi_tag h1 (some 79) = 9 := by rw [tag_s, F2 79 (by omega)]; exact tg_79 hS
  have I1 : ∀ j, gi_I h1 0 j = xs j := fun j => by rw [F3 (by rw [J.2.2.1]) j]; exact J.2.2.2.1 j
  simp only [x0_968, x0_969, x0_970, x0_971, x0_972, x0_973, x0_974, x0_975, x0_976, x0_977, x0_978, x0_979, x0_980, x0_981, x0_982, x0_983, x0_984, x0_985, x0_986, x0_987, x0_988, x0_989, x0_992, x0_993, x0_994, x0_995, x0_996, x0_997, x0_998, x0_999, x0_1000, x0_1001, x0_1002, x0_1003, x0_1004, x0_1005, x0_1006, x0_1007, x0_1008, x0_1009, x0_1010, x0_1011, x0_1012, x0_1013, x0_1016, x0_1019, x0_1020, ldI_3, ldR_0, ldR_1, ldR_2, I_pI, R_pI, c_pI, n_pI, u_pI, t_pI, l_pI, I_pR, R_pR, c_pR, n_pR, u_pR, t_pR, l_pR, get_s, Option.toList, List.nil_append, List.cons_append, List.length_nil, List.length_cons, gi_B, true_and, and_true, false_and, and_false, not_true_eq_false, not_false_eq_true, true_implies, false_implies, implies_true, Classical.not_not, ite_true, ite_false, Option.some.injEq, Sum.inl.injEq, exists_eq', eq_self, true_or, or_true, false_or, or_false, Nat.reduceEqDiff, Nat.reduceLeDiff, Nat.reduceAdd, Nat.zero_le, one_ne0, if_neg one_ne0', lt_102_103, lt_102_104, lt_102_105, lt_102_106, lt_99_107, lt_100_107, lt_101_107, lt_103_107, lt_104_107, lt_105_107, lt_106_107, lt_98_99, lt_98_100, lt_98_101, lt_98_106, e1, f1, g1, e2, f2, g2, e3, f3, g3, e4, f4, g4, t0, l0, u0, m0, u79, tg_1 hS, I0, I1, A, B, nn0, nn1, cmp_self]
  exact nx h2 J2
theorem lw_1021 {L : Nat} {xs : Nat → Int32} {c d i : Nat} {h : gi_H} {Q : gi_P} (J : jH L xs c h) (hc : c ≤ 7142) (hi : i + 7 ≤ L) (hL : L ≤ 50000) (nx : ∀ h2, jH L xs (c + 1) h2 → gi_ex (gi_cx (d + 8)) 0 Q 1259 [some (.inr (.inr (some 0))), some (.inr (.inr (some 1))), some (.inr (.inr (some 79))), some (.inl (nI i))] [] h2) : gi_ex (gi_cx (d + 8)) 0 Q 1021 [some (.inr (.inr (some 0))), some (.inr (.inr (some 1))), some (.inr (.inr (some 79))), some (.inl (nI i))] [] h := by
  have hS := J.1
  have h109 := hS.1
  have t0 : gi_tag h (some 0) = 99 := by rw [tag_s, J.2.2.1]
  have l0 : gi_len h (some 0) = L := by rw [len_s, J.2.2.1]
  have I0 : ∀ j, gi_I h 0 j = xs j := J.2.2.2.1
  have nn0 : ((99 : Nat) = 100) = False := by decide
  have nn1 : ((99 : Nat) = 99) = True := by decide
  have e1 : nI i + 1 = nI (i + 1) := nI_add _ _
  have f1 : vp_in (nI (i + 1)) L = True := eq_true (vp_in_nI (by omega) (by omega))
  have g1 : (nI (i + 1)).toNatClampNeg = i + 1 := nI_clamp (by omega)
  have e2 : nI i + 2 = nI (i + 2) := nI_add _ _
  have f2 : vp_in (nI (i + 2)) L = True := eq_true (vp_in_nI (by omega) (by omega))
  have g2 : (nI (i + 2)).toNatClampNeg = i + 2 := nI_clamp (by omega)
  obtain ⟨v, h1, h2, A, B, J2⟩ := gi_Pr_get (show gi_Pr L xs (d + 8) 85 139 [.inl (xs (i + 1)), .inl (xs (i + 2))] c h from pr_side (d := d + 3) J (xs (i + 1)) (xs (i + 2)))
  obtain ⟨x, rfl⟩ : ∃ x, v = .inl x := by
    obtain ⟨x, hx⟩ := (A _).mp (ty_I (by decide) (by decide) ((A (fun _ _ => True)).mpr trivial))
    exact ⟨x, by injection hx⟩
  have F : fr h h1 := by
    obtain ⟨r, k, e, f⟩ := gi_frm _ _ _ _ _ ((A (fun _ k => k = h1)).mpr rfl)
    rw [← e]; exact f
  obtain ⟨F1, F2, F3⟩ := F (by omega)
  have u0 : gi_tag h1 (some 0) = 99 := by rw [tag_s, F2 0 (by omega), J.2.2.1]
  have m0 : gi_len h1 (some 0) = L := by rw [len_s, F2 0 (by omega), J.2.2.1]
  have u79 : gi_tag h1 (some 79) = 9 := by rw [tag_s, F2 79 (by omega)]; exact tg_79 hS
  have I1 : ∀ j, gi_I h1 0 j = xs j := fun j => by rw [F3 (by rw [J.2.2.1]) j]; exact J.2.2.2.1 j
  simp only [x0_1021, x0_1022, x0_1023, x0_1024, x0_1025, x0_1026, x0_1027, x0_1028, x0_1029, x0_1030, x0_1031, x0_1032, x0_1035, x0_1036, x0_1037, x0_1038, x0_1039, x0_1040, x0_1041, x0_1042, x0_1043, x0_1044, x0_1045, x0_1046, x0_1049, x0_1052, x0_1053, ldI_3, ldR_0, ldR_1, ldR_2, I_pI, R_pI, c_pI, n_pI, u_pI, t_pI, l_pI, I_pR, R_pR, c_pR, n_pR, u_pR, t_pR, l_pR, get_s, Option.toList, List.nil_append, List.cons_append, List.length_nil, List.length_cons, gi_B, true_and, and_true, false_and, and_false, not_true_eq_false, not_false_eq_true, true_implies, false_implies, implies_true, Classical.not_not, ite_true, ite_false, Option.some.injEq, Sum.inl.injEq, exists_eq', eq_self, true_or, or_true, false_or, or_false, Nat.reduceEqDiff, Nat.reduceLeDiff, Nat.reduceAdd, Nat.zero_le, one_ne0, if_neg one_ne0', lt_102_103, lt_102_104, lt_102_105, lt_102_106, lt_99_107, lt_100_107, lt_101_107, lt_103_107, lt_104_107, lt_105_107, lt_106_107, lt_98_99, lt_98_100, lt_98_101, lt_98_106, e1, f1, g1, e2, f2, g2, t0, l0, u0, m0, u79, tg_1 hS, I0, I1, A, B, nn0, nn1, cmp_self]
  exact nx h2 J2
theorem lw_1054 {L : Nat} {xs : Nat → Int32} {c d i : Nat} {h : gi_H} {Q : gi_P} (J : jH L xs c h) (hc : c ≤ 7142) (hi : i + 7 ≤ L) (hL : L ≤ 50000) (nx : ∀ h2, jH L xs (c + 1) h2 → gi_ex (gi_cx (d + 8)) 0 Q 1259 [some (.inr (.inr (some 0))), some (.inr (.inr (some 1))), some (.inr (.inr (some 79))), some (.inl (nI i))] [] h2) : gi_ex (gi_cx (d + 8)) 0 Q 1054 [some (.inr (.inr (some 0))), some (.inr (.inr (some 1))), some (.inr (.inr (some 79))), some (.inl (nI i))] [] h := by
  have hS := J.1
  have h109 := hS.1
  have t0 : gi_tag h (some 0) = 99 := by rw [tag_s, J.2.2.1]
  have l0 : gi_len h (some 0) = L := by rw [len_s, J.2.2.1]
  have I0 : ∀ j, gi_I h 0 j = xs j := J.2.2.2.1
  have nn0 : ((99 : Nat) = 100) = False := by decide
  have nn1 : ((99 : Nat) = 99) = True := by decide
  have e1 : nI i + 1 = nI (i + 1) := nI_add _ _
  have f1 : vp_in (nI (i + 1)) L = True := eq_true (vp_in_nI (by omega) (by omega))
  have g1 : (nI (i + 1)).toNatClampNeg = i + 1 := nI_clamp (by omega)
  have e2 : nI i + 2 = nI (i + 2) := nI_add _ _
  have f2 : vp_in (nI (i + 2)) L = True := eq_true (vp_in_nI (by omega) (by omega))
  have g2 : (nI (i + 2)).toNatClampNeg = i + 2 := nI_clamp (by omega)
  have e3 : nI i + 3 = nI (i + 3) := nI_add _ _
  have f3 : vp_in (nI (i + 3)) L = True := eq_true (vp_in_nI (by omega) (by omega))
  have g3 : (nI (i + 3)).toNatClampNeg = i + 3 := nI_clamp (by omega)
  have e4 : nI i + 4 = nI (i + 4) := nI_add _ _
  have f4 : vp_in (nI (i + 4)) L = True := eq_true (vp_in_nI (by omega) (by omega))
  have g4 : (nI (i + 4)).toNatClampNeg = i + 4 := nI_clamp (by omega)
  have e5 : nI i + 5 = nI (i + 5) := nI_add _ _
  have f5 : vp_in (nI (i + 5)) L = True := eq_true (vp_in_nI (by omega) (by omega))
  have g5 : (nI (i + 5)).toNatClampNeg = i + 5 := nI_clamp (by omega)
  obtain ⟨v, h1, h2, A, B, J2⟩ := gi_Pr_get (show gi_Pr L xs (d + 8) 86 140 [.inl (xs (i + 1)), .inl (xs (i + 2)), .inl (xs (i + 3)), .inl (xs (i + 4)), .inl (xs (i + 5))] c h from pr_limit (d := d + 2) J (xs (i + 1)) (xs (i + 2)) (xs (i + 3)) (xs (i + 4)) (xs (i + 5)))
  obtain ⟨x, rfl⟩ : ∃ x, v = .inl x := by
    obtain ⟨x, hx⟩ := (A _).mp (ty_I (by decide) (by decide) ((A (fun _ _ => True)).mpr trivial))
    exact ⟨x, by injection hx⟩
  have F : fr h h1 := by
    obtain ⟨r, k, e, f⟩ := gi_frm _ _ _ _ _ ((A (fun _ k => k = h1)).mpr rfl)
    rw [← e]; exact f
  obtain ⟨F1, F2, F3⟩ := F (by omega)
  have u0 : gi_tag h1 (some 0) = 99 := by rw [tag_s, F2 0 (by omega), J.2.2.1]
  have m0 : gi_len h1 (some 0) = L := by rw [len_s, F2 0 (by omega), J.2.2.1]
  have u79 : gi_tag h1 (some 79) = 9 := by rw [tag_s, F2 79 (by omega)]; exact tg_79 hS
  have I1 : ∀ j, gi_I h1 0 j = xs j := fun j => by rw [F3 (by rw [J.2.2.1]) j]; exact J.2.2.2.1 j
  simp only [x0_1054, x0_1055, x0_1056, x0_1057, x0_1058, x0_1059, x0_1060, x0_1061, x0_1062, x0_1063, x0_1064, x0_1065, x0_1066, x0_1067, x0_1068, x0_1069, x0_1070, x0_1071, x0_1072, x0_1073, x0_1074, x0_1075, x0_1076, x0_1077, x0_1078, x0_1079, x0_1080, x0_1083, x0_1084, x0_1085, x0_1086, x0_1087, x0_1088, x0_1089, x0_1090, x0_1091, x0_1092, x0_1093, x0_1094, x0_1095, x0_1096, x0_1097, x0_1098, x0_1099, x0_1100, x0_1101, x0_1102, x0_1103, x0_1104, x0_1105, x0_1106, x0_1107, x0_1108, x0_1109, x0_1112, x0_1115, x0_1116, ldI_3, ldR_0, ldR_1, ldR_2, I_pI, R_pI, c_pI, n_pI, u_pI, t_pI, l_pI, I_pR, R_pR, c_pR, n_pR, u_pR, t_pR, l_pR, get_s, Option.toList, List.nil_append, List.cons_append, List.length_nil, List.length_cons, gi_B, true_and, and_true, false_and, and_false, not_true_eq_false, not_false_eq_true, true_implies, false_implies, implies_true, Classical.not_not, ite_true, ite_false, Option.some.injEq, Sum.inl.injEq, exists_eq', eq_self, true_or, or_true, false_or, or_false, Nat.reduceEqDiff, Nat.reduceLeDiff, Nat.reduceAdd, Nat.zero_le, one_ne0, if_neg one_ne0', lt_102_103, lt_102_104, lt_102_105, lt_102_106, lt_99_107, lt_100_107, lt_101_107, lt_103_107, lt_104_107, lt_105_107, lt_106_107, lt_98_99, lt_98_100, lt_98_101, lt_98_106, e1, f1, g1, e2, f2, g2, e3, f3, g3, e4, f4, g4, e5, f5, g5, t0, l0, u0, m0, u79, tg_1 hS, I0, I1, A, B, nn0, nn1, cmp_self]
  exact nx h2 J2
theorem lw_1117 {L : Nat} {xs : Nat → Int32} {c d i : Nat} {h : gi_H} {Q : gi_P} (J : jH L xs c h) (hc : c ≤ 7142) (hi : i + 7 ≤ L) (hL : L ≤ 50000) (nx : ∀ h2, jH L xs (c + 1) h2 → gi_ex (gi_cx (d + 8)) 0 Q 1259 [some (.inr (.inr (some 0))), some (.inr (.inr (some 1))), some (.inr (.inr (some 79))), some (.inl (nI i))] [] h2) : gi_ex (gi_cx (d + 8)) 0 Q 1117 [some (.inr (.inr (some 0))), some (.inr (.inr (some 1))), some (.inr (.inr (some 79))), some (.inl (nI i))] [] h := by
  have hS := J.1
  have h109 := hS.1
  have t0 : gi_tag h (some 0) = 99 := by rw [tag_s, J.2.2.1]
  have l0 : gi_len h (some 0) = L := by rw [len_s, J.2.2.1]
  have I0 : ∀ j, gi_I h 0 j = xs j := J.2.2.2.1
  have nn0 : ((99 : Nat) = 100) = False := by decide
  have nn1 : ((99 : Nat) = 99) = True := by decide
  have e1 : nI i + 1 = nI (i + 1) := nI_add _ _
  have f1 : vp_in (nI (i + 1)) L = True := eq_true (vp_in_nI (by omega) (by omega))
  have g1 : (nI (i + 1)).toNatClampNeg = i + 1 := nI_clamp (by omega)
  have e2 : nI i + 2 = nI (i + 2) := nI_add _ _
  have f2 : vp_in (nI (i + 2)) L = True := eq_true (vp_in_nI (by omega) (by omega))
  have g2 : (nI (i + 2)).toNatClampNeg = i + 2 := nI_clamp (by omega)
  have e3 : nI i + 3 = nI (i + 3) := nI_add _ _
  have f3 : vp_in (nI (i + 3)) L = True := eq_true (vp_in_nI (by omega) (by omega))
  have g3 : (nI (i + 3)).toNatClampNeg = i + 3 := nI_clamp (by omega)
  obtain ⟨v, h1, h2, A, B, J2⟩ := gi_Pr_get (show gi_Pr L xs (d + 8) 90 141 [.inl (xs (i + 1)), .inl (xs (i + 2)), .inl (xs (i + 3))] c h from pr_grace (d := d + 3) J (xs (i + 1)) (xs (i + 2)) (xs (i + 3)))
  obtain ⟨x, rfl⟩ : ∃ x, v = .inl x := by
    obtain ⟨x, hx⟩ := (A _).mp (ty_I (by decide) (by decide) ((A (fun _ _ => True)).mpr trivial))
    exact ⟨x, by injection hx⟩
  have F : fr h h1 := by
    obtain ⟨r, k, e, f⟩ := gi_frm _ _ _ _ _ ((A (fun _ k => k = h1)).mpr rfl)
    rw [← e]; exact f
  obtain ⟨F1, F2, F3⟩ := F (by omega)
  have u0 : gi_tag h1 (some 0) = 99 := by rw [tag_s, F2 0 (by omega), J.2.2.1]
  have m0 : gi_len h1 (some 0) = L := by rw [len_s, F2 0 (by omega), J.2.2.1]
  have u79 : gi_tag h1 (some 79) = 9 := by rw [tag_s, F2 79 (by omega)]; exact tg_79 hS
  have I1 : ∀ j, gi_I h1 0 j = xs j := fun j => by rw [F3 (by rw [J.2.2.1]) j]; exact J.2.2.2.1 j
  simp only [x0_1117, x0_1118, x0_1119, x0_1120, x0_1121, x0_1122, x0_1123, x0_1124, x0_1125, x0_1126, x0_1127, x0_1128, x0_1129, x0_1130, x0_1131, x0_1132, x0_1133, x0_1136, x0_1137, x0_1138, x0_1139, x0_1140, x0_1141, x0_1142, x0_1143, x0_1144, x0_1145, x0_1146, x0_1147, x0_1148, x0_1149, x0_1150, x0_1151, x0_1152, x0_1155, x0_1158, x0_1159, ldI_3, ldR_0, ldR_1, ldR_2, I_pI, R_pI, c_pI, n_pI, u_pI, t_pI, l_pI, I_pR, R_pR, c_pR, n_pR, u_pR, t_pR, l_pR, get_s, Option.toList, List.nil_append, List.cons_append, List.length_nil, List.length_cons, gi_B, true_and, and_true, false_and, and_false, not_true_eq_false, not_false_eq_true, true_implies, false_implies, implies_true, Classical.not_not, ite_true, ite_false, Option.some.injEq, Sum.inl.injEq, exists_eq', eq_self, true_or, or_true, false_or, or_false, Nat.reduceEqDiff, Nat.reduceLeDiff, Nat.reduceAdd, Nat.zero_le, one_ne0, if_neg one_ne0', lt_102_103, lt_102_104, lt_102_105, lt_102_106, lt_99_107, lt_100_107, lt_101_107, lt_103_107, lt_104_107, lt_105_107, lt_106_107, lt_98_99, lt_98_100, lt_98_101, lt_98_106, e1, f1, g1, e2, f2, g2, e3, f3, g3, t0, l0, u0, m0, u79, tg_1 hS, I0, I1, A, B, nn0, nn1, cmp_self]
  exact nx h2 J2
theorem lw_1160 {L : Nat} {xs : Nat → Int32} {c d i : Nat} {h : gi_H} {Q : gi_P} (J : jH L xs c h) (hc : c ≤ 7142) (hi : i + 7 ≤ L) (hL : L ≤ 50000) (nx : ∀ h2, jH L xs (c + 1) h2 → gi_ex (gi_cx (d + 8)) 0 Q 1259 [some (.inr (.inr (some 0))), some (.inr (.inr (some 1))), some (.inr (.inr (some 79))), some (.inl (nI i))] [] h2) : gi_ex (gi_cx (d + 8)) 0 Q 1160 [some (.inr (.inr (some 0))), some (.inr (.inr (some 1))), some (.inr (.inr (some 79))), some (.inl (nI i))] [] h := by
  have hS := J.1
  have h109 := hS.1
  have t0 : gi_tag h (some 0) = 99 := by rw [tag_s, J.2.2.1]
  have l0 : gi_len h (some 0) = L := by rw [len_s, J.2.2.1]
  have I0 : ∀ j, gi_I h 0 j = xs j := J.2.2.2.1
  have nn0 : ((99 : Nat) = 100) = False := by decide
  have nn1 : ((99 : Nat) = 99) = True := by decide
  have e1 : nI i + 1 = nI (i + 1) := nI_add _ _
  have f1 : vp_in (nI (i + 1)) L = True := eq_true (vp_in_nI (by omega) (by omega))
  have g1 : (nI (i + 1)).toNatClampNeg = i + 1 := nI_clamp (by omega)
  have e2 : nI i + 2 = nI (i + 2) := nI_add _ _
  have f2 : vp_in (nI (i + 2)) L = True := eq_true (vp_in_nI (by omega) (by omega))
  have g2 : (nI (i + 2)).toNatClampNeg = i + 2 := nI_clamp (by omega)
  have e3 : nI i + 3 = nI (i + 3) := nI_add _ _
  have f3 : vp_in (nI (i + 3)) L = True := eq_true (vp_in_nI (by omega) (by omega))
  have g3 : (nI (i + 3)).toNatClampNeg = i + 3 := nI_clamp (by omega)
  obtain ⟨v, h1, h2, A, B, J2⟩ := gi_Pr_get (show gi_Pr L xs (d + 8) 92 142 [.inl (xs (i + 1)), .inl (xs (i + 2)), .inl (xs (i + 3))] c h from pr_charged (d := d + 4) J (xs (i + 1)) (xs (i + 2)) (xs (i + 3)))
  obtain ⟨x, rfl⟩ : ∃ x, v = .inl x := by
    obtain ⟨x, hx⟩ := (A _).mp (ty_I (by decide) (by decide) ((A (fun _ _ => True)).mpr trivial))
    exact ⟨x, by injection hx⟩
  have F : fr h h1 := by
    obtain ⟨r, k, e, f⟩ := gi_frm _ _ _ _ _ ((A (fun _ k => k = h1)).mpr rfl)
    rw [← e]; exact f
  obtain ⟨F1, F2, F3⟩ := F (by omega)
  have u0 : gi_tag h1 (some 0) = 99 := by rw [tag_s, F2 0 (by omega), J.2.2.1]
  have m0 : gi_len h1 (some 0) = L := by rw [len_s, F2 0 (by omega), J.2.2.1]
  have u79 : gi_tag h1 (some 79) = 9 := by rw [tag_s, F2 79 (by omega)]; exact tg_79 hS
  have I1 : ∀ j, gi_I h1 0 j = xs j := fun j => by rw [F3 (by rw [J.2.2.1]) j]; exact J.2.2.2.1 j
  simp only [x0_1160, x0_1161, x0_1162, x0_1163, x0_1164, x0_1165, x0_1166, x0_1167, x0_1168, x0_1169, x0_1170, x0_1171, x0_1172, x0_1173, x0_1174, x0_1175, x0_1176, x0_1179, x0_1180, x0_1181, x0_1182, x0_1183, x0_1184, x0_1185, x0_1186, x0_1187, x0_1188, x0_1189, x0_1190, x0_1191, x0_1192, x0_1193, x0_1194, x0_1195, x0_1198, x0_1201, x0_1202, ldI_3, ldR_0, ldR_1, ldR_2, I_pI, R_pI, c_pI, n_pI, u_pI, t_pI, l_pI, I_pR, R_pR, c_pR, n_pR, u_pR, t_pR, l_pR, get_s, Option.toList, List.nil_append, List.cons_append, List.length_nil, List.length_cons, gi_B, true_and, and_true, false_and, and_false, not_true_eq_false, not_false_eq_true, true_implies, false_implies, implies_true, Classical.not_not, ite_true, ite_false, Option.some.injEq, Sum.inl.injEq, exists_eq', eq_self, true_or, or_true, false_or, or_false, Nat.reduceEqDiff, Nat.reduceLeDiff, Nat.reduceAdd, Nat.zero_le, one_ne0, if_neg one_ne0', lt_102_103, lt_102_104, lt_102_105, lt_102_106, lt_99_107, lt_100_107, lt_101_107, lt_103_107, lt_104_107, lt_105_107, lt_106_107, lt_98_99, lt_98_100, lt_98_101, lt_98_106, e1, f1, g1, e2, f2, g2, e3, f3, g3, t0, l0, u0, m0, u79, tg_1 hS, I0, I1, A, B, nn0, nn1, cmp_self]
  exact nx h2 J2
theorem lw_1203 {L : Nat} {xs : Nat → Int32} {c d i : Nat} {h : gi_H} {Q : gi_P} (J : jH L xs c h) (hc : c ≤ 7142) (hi : i + 7 ≤ L) (hL : L ≤ 50000) (nx : ∀ h2, jH L xs (c + 1) h2 → gi_ex (gi_cx (d + 8)) 0 Q 1259 [some (.inr (.inr (some 0))), some (.inr (.inr (some 1))), some (.inr (.inr (some 79))), some (.inl (nI i))] [] h2) : gi_ex (gi_cx (d + 8)) 0 Q 1203 [some (.inr (.inr (some 0))), some (.inr (.inr (some 1))), some (.inr (.inr (some 79))), some (.inl (nI i))] [] h := by
  have hS := J.1
  have h109 := hS.1
  have t0 : gi_tag h (some 0) = 99 := by rw [tag_s, J.2.2.1]
  have l0 : gi_len h (some 0) = L := by rw [len_s, J.2.2.1]
  have I0 : ∀ j, gi_I h 0 j = xs j := J.2.2.2.1
  have nn0 : ((99 : Nat) = 100) = False := by decide
  have nn1 : ((99 : Nat) = 99) = True := by decide
  have e1 : nI i + 1 = nI (i + 1) := nI_add _ _
  have f1 : vp_in (nI (i + 1)) L = True := eq_true (vp_in_nI (by omega) (by omega))
  have g1 : (nI (i + 1)).toNatClampNeg = i + 1 := nI_clamp (by omega)
  have e2 : nI i + 2 = nI (i + 2) := nI_add _ _
  have f2 : vp_in (nI (i + 2)) L = True := eq_true (vp_in_nI (by omega) (by omega))
  have g2 : (nI (i + 2)).toNatClampNeg = i + 2 := nI_clamp (by omega)
  obtain ⟨v, h1, h2, A, B, J2⟩ := gi_Pr_get (show gi_Pr L xs (d + 8) 93 143 [.inl (xs (i + 1)), .inl (xs (i + 2))] c h from pr_inode (d := d + 4) J (xs (i + 1)) (xs (i + 2)))
  obtain ⟨x, rfl⟩ : ∃ x, v = .inl x := by
    obtain ⟨x, hx⟩ := (A _).mp (ty_I (by decide) (by decide) ((A (fun _ _ => True)).mpr trivial))
    exact ⟨x, by injection hx⟩
  have F : fr h h1 := by
    obtain ⟨r, k, e, f⟩ := gi_frm _ _ _ _ _ ((A (fun _ k => k = h1)).mpr rfl)
    rw [← e]; exact f
  obtain ⟨F1, F2, F3⟩ := F (by omega)
  have u0 : gi_tag h1 (some 0) = 99 := by rw [tag_s, F2 0 (by omega), J.2.2.1]
  have m0 : gi_len h1 (some 0) = L := by rw [len_s, F2 0 (by omega), J.2.2.1]
  have u79 : gi_tag h1 (some 79) = 9 := by rw [tag_s, F2 79 (by omega)]; exact tg_79 hS
  have I1 : ∀ j, gi_I h1 0 j = xs j := fun j => by rw [F3 (by rw [J.2.2.1]) j]; exact J.2.2.2.1 j
  simp only [x0_1203, x0_1204, x0_1205, x0_1206, x0_1207, x0_1208, x0_1209, x0_1210, x0_1211, x0_1212, x0_1213, x0_1214, x0_1217, x0_1218, x0_1219, x0_1220, x0_1221, x0_1222, x0_1223, x0_1224, x0_1225, x0_1226, x0_1227, x0_1228, x0_1231, x0_1234, x0_1235, ldI_3, ldR_0, ldR_1, ldR_2, I_pI, R_pI, c_pI, n_pI, u_pI, t_pI, l_pI, I_pR, R_pR, c_pR, n_pR, u_pR, t_pR, l_pR, get_s, Option.toList, List.nil_append, List.cons_append, List.length_nil, List.length_cons, gi_B, true_and, and_true, false_and, and_false, not_true_eq_false, not_false_eq_true, true_implies, false_implies, implies_true, Classical.not_not, ite_true, ite_false, Option.some.injEq, Sum.inl.injEq, exists_eq', eq_self, true_or, or_true, false_or, or_false, Nat.reduceEqDiff, Nat.reduceLeDiff, Nat.reduceAdd, Nat.zero_le, one_ne0, if_neg one_ne0', lt_102_103, lt_102_104, lt_102_105, lt_102_106, lt_99_107, lt_100_107, lt_101_107, lt_103_107, lt_104_107, lt_105_107, lt_106_107, lt_98_99, lt_98_100, lt_98_101, lt_98_106, e1, f1, g1, e2, f2, g2, t0, l0, u0, m0, u79, tg_1 hS, I0, I1, A, B, nn0, nn1, cmp_self]
  exact nx h2 J2
theorem lw_1236 {L : Nat} {xs : Nat → Int32} {c d i : Nat} {h : gi_H} {Q : gi_P} (J : jH L xs c h) (hc : c ≤ 7142) (hi : i + 7 ≤ L) (hL : L ≤ 50000) (nx : ∀ h2, jH L xs (c + 1) h2 → gi_ex (gi_cx (d + 8)) 0 Q 1259 [some (.inr (.inr (some 0))), some (.inr (.inr (some 1))), some (.inr (.inr (some 79))), some (.inl (nI i))] [] h2) : gi_ex (gi_cx (d + 8)) 0 Q 1236 [some (.inr (.inr (some 0))), some (.inr (.inr (some 1))), some (.inr (.inr (some 79))), some (.inl (nI i))] [] h := by
  have hS := J.1
  have h109 := hS.1
  have t0 : gi_tag h (some 0) = 99 := by rw [tag_s, J.2.2.1]
  have l0 : gi_len h (some 0) = L := by rw [len_s, J.2.2.1]
  have I0 : ∀ j, gi_I h 0 j = xs j := J.2.2.2.1
  have nn0 : ((99 : Nat) = 100) = False := by decide
  have nn1 : ((99 : Nat) = 99) = True := by decide
  have e1 : nI i + 1 = nI (i + 1) := nI_add _ _
  have f1 : vp_in (nI (i + 1)) L = True := eq_true (vp_in_nI (by omega) (by omega))
  have g1 : (nI (i + 1)).toNatClampNeg = i + 1 := nI_clamp (by omega)
  obtain ⟨v, h1, h2, A, B, J2⟩ := gi_Pr_get (show gi_Pr L xs (d + 8) 94 144 [.inl (xs (i + 1))] c h from pr_count (d := d + 5) J (xs (i + 1)))
  obtain ⟨x, rfl⟩ : ∃ x, v = .inl x := by
    obtain ⟨x, hx⟩ := (A _).mp (ty_I (by decide) (by decide) ((A (fun _ _ => True)).mpr trivial))
    exact ⟨x, by injection hx⟩
  have F : fr h h1 := by
    obtain ⟨r, k, e, f⟩ := gi_frm _ _ _ _ _ ((A (fun _ k => k = h1)).mpr rfl)
    rw [← e]; exact f
  obtain ⟨F1, F2, F3⟩ := F (by omega)
  have u0 : gi_tag h1 (some 0) = 99 := by rw [tag_s, F2 0 (by omega), J.2.2.1]
  have m0 : gi_len h1 (some 0) = L := by rw [len_s, F2 0 (by omega), J.2.2.1]
  have u79 : gi_tag h1 (some 79) = 9 := by rw [tag_s, F2 79 (by omega)]; exact tg_79 hS
  have I1 : ∀ j, gi_I h1 0 j = xs j := fun j => by rw [F3 (by rw [J.2.2.1]) j]; exact J.2.2.2.1 j
  simp only [x0_1236, x0_1237, x0_1238, x0_1239, x0_1240, x0_1241, x0_1242, x0_1245, x0_1246, x0_1247, x0_1248, x0_1249, x0_1250, x0_1251, x0_1254, x0_1257, x0_1258, ldI_3, ldR_0, ldR_1, ldR_2, I_pI, R_pI, c_pI, n_pI, u_pI, t_pI, l_pI, I_pR, R_pR, c_pR, n_pR, u_pR, t_pR, l_pR, get_s, Option.toList, List.nil_append, List.cons_append, List.length_nil, List.length_cons, gi_B, true_and, and_true, false_and, and_false, not_true_eq_false, not_false_eq_true, true_implies, false_implies, implies_true, Classical.not_not, ite_true, ite_false, Option.some.injEq, Sum.inl.injEq, exists_eq', eq_self, true_or, or_true, false_or, or_false, Nat.reduceEqDiff, Nat.reduceLeDiff, Nat.reduceAdd, Nat.zero_le, one_ne0, if_neg one_ne0', lt_102_103, lt_102_104, lt_102_105, lt_102_106, lt_99_107, lt_100_107, lt_101_107, lt_103_107, lt_104_107, lt_105_107, lt_106_107, lt_98_99, lt_98_100, lt_98_101, lt_98_106, e1, f1, g1, t0, l0, u0, m0, u79, tg_1 hS, I0, I1, A, B, nn0, nn1, cmp_self]
  exact nx h2 J2

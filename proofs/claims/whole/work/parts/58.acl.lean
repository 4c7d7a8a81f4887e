/-! pair: acl -/
set_option maxRecDepth 100000

theorem ge_m1 {x : Int32} (h : -1 ≤ x.toInt) : (0 ≤ x) = (¬ x = -1) := propext (by rw [i32_le, i32_eq, ti_0, ti_m1]; omega)
theorem ct_0 {f : Nat → Bool} : ∀ m j, gi_ct f j m = 0 → ∀ k, j ≤ k → k < j + m → f k = false
  | 0, j, _, k, h1, h2 => by omega
  | m + 1, j, h, k, h1, h2 => by
    simp only [gi_ct] at h
    have q1 : f j = false := by
      cases e : f j with
      | false => rfl
      | true => rw [e] at h; simp at h
    by_cases e : k = j
    · rw [e]; exact q1
    · exact ct_0 m (j + 1) (by omega) k (by omega) (by omega)
theorem S_nl {h : gi_H} {O G T : Int32} (hS : gi_S h) : gi_S (nl h O G T) := by
  have h109 := hS.1
  refine ⟨by rw [n_nl]; omega, fun e he => ?_, fun e he => ?_, fun p hp => ⟨?_, ?_⟩⟩
  · have z : ∀ e ∈ gi_cs, e.1 < 109 := by decide
    have := z e he
    rw [c_nl, if_neg (by omega), if_neg (by omega)]
    exact hS.2.1 e he
  · have z : ∀ e ∈ gi_rs, e.1 < 109 := by decide
    have := z e he
    rw [R_nl, if_neg (by omega), if_neg (by omega)]
    exact hS.2.2.1 e he
  · rw [c_nl, if_neg (by omega), if_neg (by omega)]
    exact (hS.2.2.2 p hp).1
  · rw [R_nl, if_neg (by omega), if_neg (by omega)]
    exact (hS.2.2.2 p hp).2
theorem S1_95 {S : gi_Z} {l q : Nat} {v G : Int32} : S1 S l q v G 95 l = G := by unfold S1; rw [if_neg (by omega), if_pos ⟨rfl, rfl⟩]
theorem S1_q {S : gi_Z} {l q : Nat} {v G : Int32} : S1 S l q v G 98 (32 * l + q) = v := by unfold S1; rw [if_pos ⟨rfl, rfl⟩]
theorem S1_n {S : gi_Z} {l q j : Nat} {v G : Int32} (h : j ≠ q) : S1 S l q v G 98 (32 * l + j) = S 98 (32 * l + j) := by unfold S1; rw [if_neg (by omega), if_neg (by omega)]
theorem an7d : ∀ m, m < 2048 → vp_in ((nI m >>> ((6 : Int32) &&& 31)) &&& 7) 8 ∧ vp_in ((nI m >>> ((3 : Int32) &&& 31)) &&& 7) 8 ∧ vp_in (nI m &&& 7) 8 := by
  have : ∀ m, m < 2048 → (0 ≤ ((nI m >>> ((6 : Int32) &&& 31)) &&& 7).toInt ∧ ((nI m >>> ((6 : Int32) &&& 31)) &&& 7).toInt < 8) ∧ (0 ≤ ((nI m >>> ((3 : Int32) &&& 31)) &&& 7).toInt ∧ ((nI m >>> ((3 : Int32) &&& 31)) &&& 7).toInt < 8) ∧ (0 ≤ (nI m &&& 7).toInt ∧ (nI m &&& 7).toInt < 8) := by decide +kernel
  intro m hm
  obtain ⟨h1, h2, h3⟩ := this m hm
  rw [vp_in_iff, vp_in_iff, vp_in_iff]
  omega
theorem an7 {m : Int32} (hm : 0 ≤ m.toInt ∧ m.toInt ≤ 2047) : vp_in ((m >>> ((6 : Int32) &&& 31)) &&& 7) 8 ∧ vp_in ((m >>> ((3 : Int32) &&& 31)) &&& 7) 8 ∧ vp_in (m &&& 7) 8 := by
  obtain ⟨i, hi, rfl⟩ := nI_of (x := m) (by rw [i32_lt, ti_0]; omega)
  rw [nI_toInt hi] at hm
  exact an7d i (by omega)
theorem mN_0 {d n u k i q : Nat} {w v A : Int32} {g : gi_H} {R : gi_P} (hS : gi_S g) (hn : n < 64) (hk : k < 2) (hi : i < 16) (eq : q = 16 * k + i) (hw : (w = 0) = True) (hv : -1 ≤ v.toInt ∧ v.toInt ≤ 7) (hr : ∀ j, j < 32 → -1 ≤ (gi_I g 98 (32 * (2 * n) + j)).toInt) (z : (gi_I g 93 (2 * n) = 0) = True) (ne : (gi_I g 98 (32 * (2 * n) + q) = -1) = True) (vn : (v = -1) = False) (hA : al_ (gi_I (gi_pI (gi_pI (gi_pI (gi_pI (gi_pI g 95 (2 * n) ((gi_I g 87 n >>> (3 &&& 31)) &&& 7)) 96 (2 * n) ((gi_I g 87 n >>> (6 &&& 31)) &&& 7)) 97 (2 * n) (gi_I g 87 n &&& 7)) 93 (2 * n) (0 + 1)) 98 (32 * (2 * n) + q) v)) (2 * n) = A) (good : R (some (.inl (0 + 1))) (gi_pI (gi_pI (gi_pI (gi_pI (gi_pI (gi_pI (gi_pI g 95 (2 * n) ((gi_I g 87 n >>> (3 &&& 31)) &&& 7)) 96 (2 * n) ((gi_I g 87 n >>> (6 &&& 31)) &&& 7)) 97 (2 * n) (gi_I g 87 n &&& 7)) 93 (2 * n) (0 + 1)) 98 (32 * (2 * n) + q) v) 94 (2 * n) A) 87 n ((gi_I g 87 n &&& (-57 : Int32)) ||| (A <<< ((3 : Int32) &&& 31))))) : gi_ex (gi_cx (d + 1)) 127 R 78 [some (.inr (.inr (some 79))), some (.inl (nI u)), some (.inl (nI n)), some (.inl w), some (.inl (nI k)), some (.inl (nI i)), some (.inl v), none, none] [] g := by
  have ev : vp_in (nI n) 64 := vp_in_nI hn (by omega)
  have ec : (nI n).toNatClampNeg = n := nI_clamp (by omega)
  have a1 : vp_in (nI (2 * n)) 128 := vp_in_nI (by omega) (by omega)
  have a2 : (nI (2 * n)).toNatClampNeg = 2 * n := nI_clamp (by omega)
  have ix : (32 : Int32) * nI (2 * n) + 16 * nI k + nI i = nI (32 * (2 * n) + q) := by
    rw [show (32 : Int32) = nI 32 from rfl, show (16 : Int32) = nI 16 from rfl, pk_mul, pk_mul, nI_add, nI_add]; congr 1; omega
  have b1 : vp_in (nI (32 * (2 * n) + q)) 4096 := vp_in_nI (by omega) (by omega)
  have b2' : (nI (32 * (2 * n) + q)).toNatClampNeg = 32 * (2 * n) + q := nI_clamp (by omega)
  have v0 := ge_m1 hv.1
  have e0 := ge_m1 (hr q (by omega))
  have hr5 : ∀ j, j < 32 → -1 ≤ (gi_I (gi_pI (gi_pI (gi_pI (gi_pI (gi_pI g 95 (2 * n) ((gi_I g 87 n >>> (3 &&& 31)) &&& 7)) 96 (2 * n) ((gi_I g 87 n >>> (6 &&& 31)) &&& 7)) 97 (2 * n) (gi_I g 87 n &&& 7)) 93 (2 * n) (0 + 1)) 98 (32 * (2 * n) + q) v) 98 (32 * (2 * n) + j)).toInt := fun j hj => by
    simp only [I_pI]
    by_cases p : j = q
    · simp [p, hv.1]
    · have : ¬ (32 * (2 * n) + j = 32 * (2 * n) + q) := by omega
      simp only [this, and_false, ite_false, false_and, Nat.reduceEqDiff]
      exact hr j hj
  have z' := of_eq_true z
  have n8 : ((0 : Int32) = 8) = False := by decide
  have u8 := fun {d : Nat} {Q : gi_P} => c_128_0 (d := d) (n := n) (k := gi_pI (gi_pI (gi_pI (gi_pI (gi_pI g 95 (2 * n) ((gi_I g 87 n >>> (3 &&& 31)) &&& 7)) 96 (2 * n) ((gi_I g 87 n >>> (6 &&& 31)) &&& 7)) 97 (2 * n) (gi_I g 87 n &&& 7)) 93 (2 * n) (0 + 1)) 98 (32 * (2 * n) + q) v) (Q := Q) hS hn hr5
  rw [hA] at u8
  simp only [x127_78, x127_79, x127_82, x127_83, x127_84, x127_85, x127_86, x127_87, x127_90, x127_91, x127_92, x127_93, x127_95, x127_97, x127_99, x127_100, x127_102, x127_104, x127_105, x127_106, x127_108, x127_109, x127_111, x127_113, x127_116, x127_117, x127_120, x127_122, x127_123, x127_126, x127_128, x127_129, x127_130, x127_133, x127_135, x127_136, x127_137, x127_138, x127_141, x127_143, x127_144, x127_145, x127_146, x127_147, x127_148, x127_149, x127_152, x127_154, x127_155, x127_158, x127_159, x127_160, x127_162, x127_165, x127_168, x127_169, x127_172, x127_173, x127_176, x127_177, x127_178, x127_181, x127_182, x127_183, x127_185, x127_186, x127_187, x127_190, x127_192, x127_193, x127_194, x127_195, x127_196, x127_197, x127_198, x127_201, x127_203, x127_204, x127_205, x127_206, x127_209, x127_211, x127_212, x127_215, x127_216, x127_219, x127_221, x127_222, x127_224, x127_227, x127_229, x127_230, x127_231, x127_234, x127_236, x127_237, x127_240, x127_241, x127_244, x127_246, x127_247, x127_250, x127_251, x127_252, x127_253, x127_254, x127_256, x127_257, x127_258, x127_259, x127_262, x127_264, x127_265, x127_268, x127_269, x127_270, x127_272, x127_273, x127_275, x127_276, x127_277, x127_278, x127_281, x127_283, x127_284, x127_287, x127_288, x127_289, x127_291, x127_292, x127_293, x127_294, x127_297, x127_299, x127_300, x127_303, x127_305, x127_306, x127_309, x127_310, x127_313, x127_315, x127_316, x127_317, x127_318, x127_321, x127_322, x127_325, x127_327, x127_328, x127_329, x127_330, x127_333, x127_335, x127_337, x127_338, x127_339, x127_340, x127_342, x127_345, x127_346, x127_349, x127_351, x127_352, ldI_2, ldI_3, ldI_4, ldI_5, ldI_6, ldI_7, ldI_8, ldR_0, stI_7i, stI_7n, stI_7r, stI_8i, stI_8n, stI_8r, I_pI, R_pI, c_pI, n_pI, u_pI, t_pI, l_pI, I_pR, R_pR, c_pR, n_pR, u_pR, t_pR, l_pR, get_s, Option.toList, List.nil_append, List.cons_append, List.length_nil, List.length_cons, gi_B, tg_1 hS, tg_2 hS, tg_3 hS, tg_4 hS, tg_5 hS, tg_6 hS, tg_7 hS, tg_8 hS, tg_9 hS, tg_10 hS, tg_75 hS, tg_79 hS, tg_80 hS, tg_81 hS, tg_82 hS, tg_83 hS, tg_84 hS, tg_85 hS, tg_86 hS, tg_87 hS, tg_88 hS, tg_89 hS, tg_90 hS, tg_91 hS, tg_92 hS, tg_93 hS, tg_94 hS, tg_95 hS, tg_96 hS, tg_97 hS, tg_98 hS, tg_99 hS, tg_100 hS, tg_101 hS, tg_102 hS, tg_103 hS, tg_104 hS, tg_105 hS, tg_106 hS, tg_107 hS, tg_108 hS, ln_2 hS, ln_3 hS, ln_4 hS, ln_5 hS, ln_7 hS, ln_9 hS, ln_10 hS, ln_75 hS, ln_80 hS, ln_81 hS, ln_82 hS, ln_83 hS, ln_84 hS, ln_85 hS, ln_86 hS, ln_87 hS, ln_88 hS, ln_89 hS, ln_90 hS, ln_91 hS, ln_92 hS, ln_93 hS, ln_94 hS, ln_95 hS, ln_96 hS, ln_97 hS, ln_98 hS, ln_99 hS, ln_100 hS, ln_101 hS, ln_102 hS, ln_103 hS, ln_104 hS, ln_105 hS, ln_106 hS, ln_107 hS, ln_108 hS, rf_1_0 hS, rf_1_1 hS, rf_1_2 hS, rf_1_3 hS, rf_1_4 hS, rf_1_5 hS, rf_1_6 hS, rf_6_0 hS, rf_8_1 hS, rf_8_2 hS, rf_79_1 hS, rf_79_2 hS, rf_79_3 hS, rf_79_4 hS, rf_79_5 hS, rf_79_6 hS, rf_79_7 hS, rf_79_8 hS, rf_79_9 hS, rf_79_10 hS, rf_79_11 hS, rf_79_12 hS, rf_79_13 hS, rf_79_14 hS, rf_79_15 hS, rf_79_16 hS, rf_79_17 hS, rf_79_18 hS, rf_79_19 hS, rf_79_20 hS, rf_79_21 hS, rf_79_22 hS, rf_79_24 hS, rf_79_25 hS, rf_79_26 hS, rf_79_27 hS, rf_79_28 hS, rf_79_29 hS, rf_79_30 hS, true_and, and_true, false_and, and_false, not_true_eq_false, not_false_eq_true, true_implies, false_implies, implies_true, Classical.not_not, ite_true, ite_false, Option.some.injEq, Sum.inl.injEq, exists_eq', eq_self, true_or, or_true, false_or, or_false, Nat.reduceEqDiff, Nat.reduceLeDiff, Nat.reduceAdd, Nat.zero_le, one_ne0, if_neg one_ne0', lt_102_103, lt_102_104, lt_102_105, lt_102_106, lt_99_107, lt_100_107, lt_101_107, lt_103_107, lt_104_107, lt_105_107, lt_106_107, lt_98_99, lt_98_100, lt_98_101, lt_98_106, ix2, ix, a1, a2, b1, b2', ev, ec, v0, hw, e0, ne, vn, z', n8, u8, if_pos]
  exact good
theorem mE_0 {d n u k i q : Nat} {w v A : Int32} {g : gi_H} {R : gi_P} (hS : gi_S g) (hn : n < 64) (hk : k < 2) (hi : i < 16) (eq : q = 16 * k + i) (hw : (w = 0) = True) (hv : -1 ≤ v.toInt ∧ v.toInt ≤ 7) (hr : ∀ j, j < 32 → -1 ≤ (gi_I g 98 (32 * (2 * n) + j)).toInt) {m : Int32} (z : (gi_I g 93 (2 * n) = 0) = False) (n8 : ((gi_I g 98 (32 * (2 * n) + q) = -1) = True ∧ (gi_I g 93 (2 * n) = 8) = False ∧ gi_I g 93 (2 * n) + 1 = m) ∨ ((gi_I g 98 (32 * (2 * n) + q) = -1) = False ∧ gi_I g 93 (2 * n) = m)) (vn : (v = -1) = False) (hA : al_ (gi_I (gi_pI (gi_pI g 93 (2 * n) m) 98 (32 * (2 * n) + q) v)) (2 * n) = A) (good : R (some (.inl m)) (gi_pI (gi_pI (gi_pI (gi_pI g 93 (2 * n) m) 98 (32 * (2 * n) + q) v) 94 (2 * n) A) 87 n ((gi_I g 87 n &&& (-57 : Int32)) ||| (A <<< ((3 : Int32) &&& 31))))) : gi_ex (gi_cx (d + 1)) 127 R 78 [some (.inr (.inr (some 79))), some (.inl (nI u)), some (.inl (nI n)), some (.inl w), some (.inl (nI k)), some (.inl (nI i)), some (.inl v), none, none] [] g := by
  have ev : vp_in (nI n) 64 := vp_in_nI hn (by omega)
  have ec : (nI n).toNatClampNeg = n := nI_clamp (by omega)
  have a1 : vp_in (nI (2 * n)) 128 := vp_in_nI (by omega) (by omega)
  have a2 : (nI (2 * n)).toNatClampNeg = 2 * n := nI_clamp (by omega)
  have ix : (32 : Int32) * nI (2 * n) + 16 * nI k + nI i = nI (32 * (2 * n) + q) := by
    rw [show (32 : Int32) = nI 32 from rfl, show (16 : Int32) = nI 16 from rfl, pk_mul, pk_mul, nI_add, nI_add]; congr 1; omega
  have b1 : vp_in (nI (32 * (2 * n) + q)) 4096 := vp_in_nI (by omega) (by omega)
  have b2' : (nI (32 * (2 * n) + q)).toNatClampNeg = 32 * (2 * n) + q := nI_clamp (by omega)
  have v0 := ge_m1 hv.1
  have e0 := ge_m1 (hr q (by omega))
  have hr5 : ∀ j, j < 32 → -1 ≤ (gi_I (gi_pI (gi_pI g 93 (2 * n) m) 98 (32 * (2 * n) + q) v) 98 (32 * (2 * n) + j)).toInt := fun j hj => by
    simp only [I_pI]
    by_cases p : j = q
    · simp [p, hv.1]
    · have : ¬ (32 * (2 * n) + j = 32 * (2 * n) + q) := by omega
      simp only [this, and_false, ite_false, false_and, Nat.reduceEqDiff]
      exact hr j hj
  have u8 := fun {d : Nat} {Q : gi_P} => c_128_0 (d := d) (n := n) (k := gi_pI (gi_pI g 93 (2 * n) m) 98 (32 * (2 * n) + q) v) (Q := Q) hS hn hr5
  rw [hA] at u8
  rcases n8 with ⟨ne, n8, em⟩ | ⟨ne, em⟩
  · simp only [x127_78, x127_79, x127_82, x127_83, x127_84, x127_85, x127_86, x127_87, x127_90, x127_91, x127_92, x127_93, x127_95, x127_97, x127_99, x127_100, x127_102, x127_104, x127_105, x127_106, x127_108, x127_109, x127_111, x127_113, x127_116, x127_117, x127_120, x127_122, x127_123, x127_126, x127_128, x127_129, x127_130, x127_133, x127_135, x127_136, x127_137, x127_138, x127_141, x127_143, x127_144, x127_145, x127_146, x127_147, x127_148, x127_149, x127_152, x127_154, x127_155, x127_158, x127_159, x127_160, x127_162, x127_165, x127_168, x127_169, x127_172, x127_173, x127_176, x127_177, x127_178, x127_181, x127_182, x127_183, x127_185, x127_186, x127_187, x127_190, x127_192, x127_193, x127_194, x127_195, x127_196, x127_197, x127_198, x127_201, x127_203, x127_204, x127_205, x127_206, x127_209, x127_211, x127_212, x127_215, x127_216, x127_219, x127_221, x127_222, x127_224, x127_227, x127_229, x127_230, x127_231, x127_234, x127_236, x127_237, x127_240, x127_241, x127_244, x127_246, x127_247, x127_250, x127_251, x127_252, x127_253, x127_254, x127_256, x127_257, x127_258, x127_259, x127_262, x127_264, x127_265, x127_268, x127_269, x127_270, x127_272, x127_273, x127_275, x127_276, x127_277, x127_278, x127_281, x127_283, x127_284, x127_287, x127_288, x127_289, x127_291, x127_292, x127_293, x127_294, x127_297, x127_299, x127_300, x127_303, x127_305, x127_306, x127_309, x127_310, x127_313, x127_315, x127_316, x127_317, x127_318, x127_321, x127_322, x127_325, x127_327, x127_328, x127_329, x127_330, x127_333, x127_335, x127_337, x127_338, x127_339, x127_340, x127_342, x127_345, x127_346, x127_349, x127_351, x127_352, ldI_2, ldI_3, ldI_4, ldI_5, ldI_6, ldI_7, ldI_8, ldR_0, stI_7i, stI_7n, stI_7r, stI_8i, stI_8n, stI_8r, I_pI, R_pI, c_pI, n_pI, u_pI, t_pI, l_pI, I_pR, R_pR, c_pR, n_pR, u_pR, t_pR, l_pR, get_s, Option.toList, List.nil_append, List.cons_append, List.length_nil, List.length_cons, gi_B, tg_1 hS, tg_2 hS, tg_3 hS, tg_4 hS, tg_5 hS, tg_6 hS, tg_7 hS, tg_8 hS, tg_9 hS, tg_10 hS, tg_75 hS, tg_79 hS, tg_80 hS, tg_81 hS, tg_82 hS, tg_83 hS, tg_84 hS, tg_85 hS, tg_86 hS, tg_87 hS, tg_88 hS, tg_89 hS, tg_90 hS, tg_91 hS, tg_92 hS, tg_93 hS, tg_94 hS, tg_95 hS, tg_96 hS, tg_97 hS, tg_98 hS, tg_99 hS, tg_100 hS, tg_101 hS, tg_102 hS, tg_103 hS, tg_104 hS, tg_105 hS, tg_106 hS, tg_107 hS, tg_108 hS, ln_2 hS, ln_3 hS, ln_4 hS, ln_5 hS, ln_7 hS, ln_9 hS, ln_10 hS, ln_75 hS, ln_80 hS, ln_81 hS, ln_82 hS, ln_83 hS, ln_84 hS, ln_85 hS, ln_86 hS, ln_87 hS, ln_88 hS, ln_89 hS, ln_90 hS, ln_91 hS, ln_92 hS, ln_93 hS, ln_94 hS, ln_95 hS, ln_96 hS, ln_97 hS, ln_98 hS, ln_99 hS, ln_100 hS, ln_101 hS, ln_102 hS, ln_103 hS, ln_104 hS, ln_105 hS, ln_106 hS, ln_107 hS, ln_108 hS, rf_1_0 hS, rf_1_1 hS, rf_1_2 hS, rf_1_3 hS, rf_1_4 hS, rf_1_5 hS, rf_1_6 hS, rf_6_0 hS, rf_8_1 hS, rf_8_2 hS, rf_79_1 hS, rf_79_2 hS, rf_79_3 hS, rf_79_4 hS, rf_79_5 hS, rf_79_6 hS, rf_79_7 hS, rf_79_8 hS, rf_79_9 hS, rf_79_10 hS, rf_79_11 hS, rf_79_12 hS, rf_79_13 hS, rf_79_14 hS, rf_79_15 hS, rf_79_16 hS, rf_79_17 hS, rf_79_18 hS, rf_79_19 hS, rf_79_20 hS, rf_79_21 hS, rf_79_22 hS, rf_79_24 hS, rf_79_25 hS, rf_79_26 hS, rf_79_27 hS, rf_79_28 hS, rf_79_29 hS, rf_79_30 hS, true_and, and_true, false_and, and_false, not_true_eq_false, not_false_eq_true, true_implies, false_implies, implies_true, Classical.not_not, ite_true, ite_false, Option.some.injEq, Sum.inl.injEq, exists_eq', eq_self, true_or, or_true, false_or, or_false, Nat.reduceEqDiff, Nat.reduceLeDiff, Nat.reduceAdd, Nat.zero_le, one_ne0, if_neg one_ne0', lt_102_103, lt_102_104, lt_102_105, lt_102_106, lt_99_107, lt_100_107, lt_101_107, lt_103_107, lt_104_107, lt_105_107, lt_106_107, lt_98_99, lt_98_100, lt_98_101, lt_98_106, ix2, ix, a1, a2, b1, b2', ev, ec, v0, hw, e0, ne, vn, z, n8, em, u8]
    exact good
  · have z2 : (m = 0) = False := by rw [← em]; exact z
    simp only [x127_78, x127_79, x127_82, x127_83, x127_84, x127_85, x127_86, x127_87, x127_90, x127_91, x127_92, x127_93, x127_95, x127_97, x127_99, x127_100, x127_102, x127_104, x127_105, x127_106, x127_108, x127_109, x127_111, x127_113, x127_116, x127_117, x127_120, x127_122, x127_123, x127_126, x127_128, x127_129, x127_130, x127_133, x127_135, x127_136, x127_137, x127_138, x127_141, x127_143, x127_144, x127_145, x127_146, x127_147, x127_148, x127_149, x127_152, x127_154, x127_155, x127_158, x127_159, x127_160, x127_162, x127_165, x127_168, x127_169, x127_172, x127_173, x127_176, x127_177, x127_178, x127_181, x127_182, x127_183, x127_185, x127_186, x127_187, x127_190, x127_192, x127_193, x127_194, x127_195, x127_196, x127_197, x127_198, x127_201, x127_203, x127_204, x127_205, x127_206, x127_209, x127_211, x127_212, x127_215, x127_216, x127_219, x127_221, x127_222, x127_224, x127_227, x127_229, x127_230, x127_231, x127_234, x127_236, x127_237, x127_240, x127_241, x127_244, x127_246, x127_247, x127_250, x127_251, x127_252, x127_253, x127_254, x127_256, x127_257, x127_258, x127_259, x127_262, x127_264, x127_265, x127_268, x127_269, x127_270, x127_272, x127_273, x127_275, x127_276, x127_277, x127_278, x127_281, x127_283, x127_284, x127_287, x127_288, x127_289, x127_291, x127_292, x127_293, x127_294, x127_297, x127_299, x127_300, x127_303, x127_305, x127_306, x127_309, x127_310, x127_313, x127_315, x127_316, x127_317, x127_318, x127_321, x127_322, x127_325, x127_327, x127_328, x127_329, x127_330, x127_333, x127_335, x127_337, x127_338, x127_339, x127_340, x127_342, x127_345, x127_346, x127_349, x127_351, x127_352, ldI_2, ldI_3, ldI_4, ldI_5, ldI_6, ldI_7, ldI_8, ldR_0, stI_7i, stI_7n, stI_7r, stI_8i, stI_8n, stI_8r, I_pI, R_pI, c_pI, n_pI, u_pI, t_pI, l_pI, I_pR, R_pR, c_pR, n_pR, u_pR, t_pR, l_pR, get_s, Option.toList, List.nil_append, List.cons_append, List.length_nil, List.length_cons, gi_B, tg_1 hS, tg_2 hS, tg_3 hS, tg_4 hS, tg_5 hS, tg_6 hS, tg_7 hS, tg_8 hS, tg_9 hS, tg_10 hS, tg_75 hS, tg_79 hS, tg_80 hS, tg_81 hS, tg_82 hS, tg_83 hS, tg_84 hS, tg_85 hS, tg_86 hS, tg_87 hS, tg_88 hS, tg_89 hS, tg_90 hS, tg_91 hS, tg_92 hS, tg_93 hS, tg_94 hS, tg_95 hS, tg_96 hS, tg_97 hS, tg_98 hS, tg_99 hS, tg_100 hS, tg_101 hS, tg_102 hS, tg_103 hS, tg_104 hS, tg_105 hS, tg_106 hS, tg_107 hS, tg_108 hS, ln_2 hS, ln_3 hS, ln_4 hS, ln_5 hS, ln_7 hS, ln_9 hS, ln_10 hS, ln_75 hS, ln_80 hS, ln_81 hS, ln_82 hS, ln_83 hS, ln_84 hS, ln_85 hS, ln_86 hS, ln_87 hS, ln_88 hS, ln_89 hS, ln_90 hS, ln_91 hS, ln_92 hS, ln_93 hS, ln_94 hS, ln_95 hS, ln_96 hS, ln_97 hS, ln_98 hS, ln_99 hS, ln_100 hS, ln_101 hS, ln_102 hS, ln_103 hS, ln_104 hS, ln_105 hS, ln_106 hS, ln_107 hS, ln_108 hS, rf_1_0 hS, rf_1_1 hS, rf_1_2 hS, rf_1_3 hS, rf_1_4 hS, rf_1_5 hS, rf_1_6 hS, rf_6_0 hS, rf_8_1 hS, rf_8_2 hS, rf_79_1 hS, rf_79_2 hS, rf_79_3 hS, rf_79_4 hS, rf_79_5 hS, rf_79_6 hS, rf_79_7 hS, rf_79_8 hS, rf_79_9 hS, rf_79_10 hS, rf_79_11 hS, rf_79_12 hS, rf_79_13 hS, rf_79_14 hS, rf_79_15 hS, rf_79_16 hS, rf_79_17 hS, rf_79_18 hS, rf_79_19 hS, rf_79_20 hS, rf_79_21 hS, rf_79_22 hS, rf_79_24 hS, rf_79_25 hS, rf_79_26 hS, rf_79_27 hS, rf_79_28 hS, rf_79_29 hS, rf_79_30 hS, true_and, and_true, false_and, and_false, not_true_eq_false, not_false_eq_true, true_implies, false_implies, implies_true, Classical.not_not, ite_true, ite_false, Option.some.injEq, Sum.inl.injEq, exists_eq', eq_self, true_or, or_true, false_or, or_false, Nat.reduceEqDiff, Nat.reduceLeDiff, Nat.reduceAdd, Nat.zero_le, one_ne0, if_neg one_ne0', lt_102_103, lt_102_104, lt_102_105, lt_102_106, lt_99_107, lt_100_107, lt_101_107, lt_103_107, lt_104_107, lt_105_107, lt_106_107, lt_98_99, lt_98_100, lt_98_101, lt_98_106, ix2, ix, a1, a2, b1, b2', ev, ec, v0, hw, e0, ne, vn, z, z2, em, u8]
    exact good
theorem mR_0 {d n u k i q : Nat} {w v A : Int32} {g : gi_H} {R : gi_P} (hS : gi_S g) (hn : n < 64) (hk : k < 2) (hi : i < 16) (eq : q = 16 * k + i) (hw : (w = 0) = True) (hv : -1 ≤ v.toInt ∧ v.toInt ≤ 7) (hr : ∀ j, j < 32 → -1 ≤ (gi_I g 98 (32 * (2 * n) + j)).toInt) (ne : (gi_I g 98 (32 * (2 * n) + q) = -1) = False) (vn : (v = -1) = True) (hA : al_ (gi_I (gi_pI (gi_pI g 98 (32 * (2 * n) + q) (-1)) 93 (2 * n) (gi_I g 93 (2 * n) - 1))) (2 * n) = A) (good : (gi_I g 93 (2 * n) - 1 ≤ 0) = False → R (some (.inl (gi_I g 93 (2 * n) - 1))) (gi_pI (gi_pI (gi_pI (gi_pI g 98 (32 * (2 * n) + q) (-1)) 93 (2 * n) (gi_I g 93 (2 * n) - 1)) 94 (2 * n) A) 87 n ((gi_I g 87 n &&& (-57 : Int32)) ||| (A <<< ((3 : Int32) &&& 31))))) (good0 : (gi_I g 93 (2 * n) - 1 ≤ 0) = True → R (some (.inl (gi_I g 93 (2 * n) - 1))) (gi_pI (gi_pI (gi_pI g 98 (32 * (2 * n) + q) (-1)) 93 (2 * n) (gi_I g 93 (2 * n) - 1)) 87 n ((gi_I g 87 n &&& (-57 : Int32)) ||| (gi_I g 95 (2 * n) <<< ((3 : Int32) &&& 31))))) : gi_ex (gi_cx (d + 1)) 127 R 78 [some (.inr (.inr (some 79))), some (.inl (nI u)), some (.inl (nI n)), some (.inl w), some (.inl (nI k)), some (.inl (nI i)), some (.inl v), none, none] [] g := by
  have ev : vp_in (nI n) 64 := vp_in_nI hn (by omega)
  have ec : (nI n).toNatClampNeg = n := nI_clamp (by omega)
  have a1 : vp_in (nI (2 * n)) 128 := vp_in_nI (by omega) (by omega)
  have a2 : (nI (2 * n)).toNatClampNeg = 2 * n := nI_clamp (by omega)
  have ix : (32 : Int32) * nI (2 * n) + 16 * nI k + nI i = nI (32 * (2 * n) + q) := by
    rw [show (32 : Int32) = nI 32 from rfl, show (16 : Int32) = nI 16 from rfl, pk_mul, pk_mul, nI_add, nI_add]; congr 1; omega
  have b1 : vp_in (nI (32 * (2 * n) + q)) 4096 := vp_in_nI (by omega) (by omega)
  have b2' : (nI (32 * (2 * n) + q)).toNatClampNeg = 32 * (2 * n) + q := nI_clamp (by omega)
  have v0 := ge_m1 hv.1
  have e0 := ge_m1 (hr q (by omega))
  have hr5 : ∀ j, j < 32 → -1 ≤ (gi_I (gi_pI (gi_pI g 98 (32 * (2 * n) + q) (-1)) 93 (2 * n) (gi_I g 93 (2 * n) - 1)) 98 (32 * (2 * n) + j)).toInt := fun j hj => by
    simp only [I_pI]
    by_cases p : j = q
    · simp [p, show (-1 : Int) ≤ (-1 : Int32).toInt by decide]
    · have : ¬ (32 * (2 * n) + j = 32 * (2 * n) + q) := by omega
      simp only [this, and_false, ite_false, false_and, Nat.reduceEqDiff]
      exact hr j hj
  have u8 := fun {d : Nat} {Q : gi_P} => c_128_0 (d := d) (n := n) (k := gi_pI (gi_pI g 98 (32 * (2 * n) + q) (-1)) 93 (2 * n) (gi_I g 93 (2 * n) - 1)) (Q := Q) hS hn hr5
  rw [hA] at u8
  rcases em_ (gi_I g 93 (2 * n) - 1 ≤ 0) with p | p
  · simp only [x127_78, x127_79, x127_82, x127_83, x127_84, x127_85, x127_86, x127_87, x127_90, x127_91, x127_92, x127_93, x127_95, x127_97, x127_99, x127_100, x127_102, x127_104, x127_105, x127_106, x127_108, x127_109, x127_111, x127_113, x127_116, x127_117, x127_120, x127_122, x127_123, x127_126, x127_128, x127_129, x127_130, x127_133, x127_135, x127_136, x127_137, x127_138, x127_141, x127_143, x127_144, x127_145, x127_146, x127_147, x127_148, x127_149, x127_152, x127_154, x127_155, x127_158, x127_159, x127_160, x127_162, x127_165, x127_168, x127_169, x127_172, x127_173, x127_176, x127_177, x127_178, x127_181, x127_182, x127_183, x127_185, x127_186, x127_187, x127_190, x127_192, x127_193, x127_194, x127_195, x127_196, x127_197, x127_198, x127_201, x127_203, x127_204, x127_205, x127_206, x127_209, x127_211, x127_212, x127_215, x127_216, x127_219, x127_221, x127_222, x127_224, x127_227, x127_229, x127_230, x127_231, x127_234, x127_236, x127_237, x127_240, x127_241, x127_244, x127_246, x127_247, x127_250, x127_251, x127_252, x127_253, x127_254, x127_256, x127_257, x127_258, x127_259, x127_262, x127_264, x127_265, x127_268, x127_269, x127_270, x127_272, x127_273, x127_275, x127_276, x127_277, x127_278, x127_281, x127_283, x127_284, x127_287, x127_288, x127_289, x127_291, x127_292, x127_293, x127_294, x127_297, x127_299, x127_300, x127_303, x127_305, x127_306, x127_309, x127_310, x127_313, x127_315, x127_316, x127_317, x127_318, x127_321, x127_322, x127_325, x127_327, x127_328, x127_329, x127_330, x127_333, x127_335, x127_337, x127_338, x127_339, x127_340, x127_342, x127_345, x127_346, x127_349, x127_351, x127_352, ldI_2, ldI_3, ldI_4, ldI_5, ldI_6, ldI_7, ldI_8, ldR_0, stI_7i, stI_7n, stI_7r, stI_8i, stI_8n, stI_8r, I_pI, R_pI, c_pI, n_pI, u_pI, t_pI, l_pI, I_pR, R_pR, c_pR, n_pR, u_pR, t_pR, l_pR, get_s, Option.toList, List.nil_append, List.cons_append, List.length_nil, List.length_cons, gi_B, tg_1 hS, tg_2 hS, tg_3 hS, tg_4 hS, tg_5 hS, tg_6 hS, tg_7 hS, tg_8 hS, tg_9 hS, tg_10 hS, tg_75 hS, tg_79 hS, tg_80 hS, tg_81 hS, tg_82 hS, tg_83 hS, tg_84 hS, tg_85 hS, tg_86 hS, tg_87 hS, tg_88 hS, tg_89 hS, tg_90 hS, tg_91 hS, tg_92 hS, tg_93 hS, tg_94 hS, tg_95 hS, tg_96 hS, tg_97 hS, tg_98 hS, tg_99 hS, tg_100 hS, tg_101 hS, tg_102 hS, tg_103 hS, tg_104 hS, tg_105 hS, tg_106 hS, tg_107 hS, tg_108 hS, ln_2 hS, ln_3 hS, ln_4 hS, ln_5 hS, ln_7 hS, ln_9 hS, ln_10 hS, ln_75 hS, ln_80 hS, ln_81 hS, ln_82 hS, ln_83 hS, ln_84 hS, ln_85 hS, ln_86 hS, ln_87 hS, ln_88 hS, ln_89 hS, ln_90 hS, ln_91 hS, ln_92 hS, ln_93 hS, ln_94 hS, ln_95 hS, ln_96 hS, ln_97 hS, ln_98 hS, ln_99 hS, ln_100 hS, ln_101 hS, ln_102 hS, ln_103 hS, ln_104 hS, ln_105 hS, ln_106 hS, ln_107 hS, ln_108 hS, rf_1_0 hS, rf_1_1 hS, rf_1_2 hS, rf_1_3 hS, rf_1_4 hS, rf_1_5 hS, rf_1_6 hS, rf_6_0 hS, rf_8_1 hS, rf_8_2 hS, rf_79_1 hS, rf_79_2 hS, rf_79_3 hS, rf_79_4 hS, rf_79_5 hS, rf_79_6 hS, rf_79_7 hS, rf_79_8 hS, rf_79_9 hS, rf_79_10 hS, rf_79_11 hS, rf_79_12 hS, rf_79_13 hS, rf_79_14 hS, rf_79_15 hS, rf_79_16 hS, rf_79_17 hS, rf_79_18 hS, rf_79_19 hS, rf_79_20 hS, rf_79_21 hS, rf_79_22 hS, rf_79_24 hS, rf_79_25 hS, rf_79_26 hS, rf_79_27 hS, rf_79_28 hS, rf_79_29 hS, rf_79_30 hS, true_and, and_true, false_and, and_false, not_true_eq_false, not_false_eq_true, true_implies, false_implies, implies_true, Classical.not_not, ite_true, ite_false, Option.some.injEq, Sum.inl.injEq, exists_eq', eq_self, true_or, or_true, false_or, or_false, Nat.reduceEqDiff, Nat.reduceLeDiff, Nat.reduceAdd, Nat.zero_le, one_ne0, if_neg one_ne0', lt_102_103, lt_102_104, lt_102_105, lt_102_106, lt_99_107, lt_100_107, lt_101_107, lt_103_107, lt_104_107, lt_105_107, lt_106_107, lt_98_99, lt_98_100, lt_98_101, lt_98_106, ix2, ix, a1, a2, b1, b2', ev, ec, v0, hw, e0, ne, vn, p, u8]
    exact good0 p
  · simp only [x127_78, x127_79, x127_82, x127_83, x127_84, x127_85, x127_86, x127_87, x127_90, x127_91, x127_92, x127_93, x127_95, x127_97, x127_99, x127_100, x127_102, x127_104, x127_105, x127_106, x127_108, x127_109, x127_111, x127_113, x127_116, x127_117, x127_120, x127_122, x127_123, x127_126, x127_128, x127_129, x127_130, x127_133, x127_135, x127_136, x127_137, x127_138, x127_141, x127_143, x127_144, x127_145, x127_146, x127_147, x127_148, x127_149, x127_152, x127_154, x127_155, x127_158, x127_159, x127_160, x127_162, x127_165, x127_168, x127_169, x127_172, x127_173, x127_176, x127_177, x127_178, x127_181, x127_182, x127_183, x127_185, x127_186, x127_187, x127_190, x127_192, x127_193, x127_194, x127_195, x127_196, x127_197, x127_198, x127_201, x127_203, x127_204, x127_205, x127_206, x127_209, x127_211, x127_212, x127_215, x127_216, x127_219, x127_221, x127_222, x127_224, x127_227, x127_229, x127_230, x127_231, x127_234, x127_236, x127_237, x127_240, x127_241, x127_244, x127_246, x127_247, x127_250, x127_251, x127_252, x127_253, x127_254, x127_256, x127_257, x127_258, x127_259, x127_262, x127_264, x127_265, x127_268, x127_269, x127_270, x127_272, x127_273, x127_275, x127_276, x127_277, x127_278, x127_281, x127_283, x127_284, x127_287, x127_288, x127_289, x127_291, x127_292, x127_293, x127_294, x127_297, x127_299, x127_300, x127_303, x127_305, x127_306, x127_309, x127_310, x127_313, x127_315, x127_316, x127_317, x127_318, x127_321, x127_322, x127_325, x127_327, x127_328, x127_329, x127_330, x127_333, x127_335, x127_337, x127_338, x127_339, x127_340, x127_342, x127_345, x127_346, x127_349, x127_351, x127_352, ldI_2, ldI_3, ldI_4, ldI_5, ldI_6, ldI_7, ldI_8, ldR_0, stI_7i, stI_7n, stI_7r, stI_8i, stI_8n, stI_8r, I_pI, R_pI, c_pI, n_pI, u_pI, t_pI, l_pI, I_pR, R_pR, c_pR, n_pR, u_pR, t_pR, l_pR, get_s, Option.toList, List.nil_append, List.cons_append, List.length_nil, List.length_cons, gi_B, tg_1 hS, tg_2 hS, tg_3 hS, tg_4 hS, tg_5 hS, tg_6 hS, tg_7 hS, tg_8 hS, tg_9 hS, tg_10 hS, tg_75 hS, tg_79 hS, tg_80 hS, tg_81 hS, tg_82 hS, tg_83 hS, tg_84 hS, tg_85 hS, tg_86 hS, tg_87 hS, tg_88 hS, tg_89 hS, tg_90 hS, tg_91 hS, tg_92 hS, tg_93 hS, tg_94 hS, tg_95 hS, tg_96 hS, tg_97 hS, tg_98 hS, tg_99 hS, tg_100 hS, tg_101 hS, tg_102 hS, tg_103 hS, tg_104 hS, tg_105 hS, tg_106 hS, tg_107 hS, tg_108 hS, ln_2 hS, ln_3 hS, ln_4 hS, ln_5 hS, ln_7 hS, ln_9 hS, ln_10 hS, ln_75 hS, ln_80 hS, ln_81 hS, ln_82 hS, ln_83 hS, ln_84 hS, ln_85 hS, ln_86 hS, ln_87 hS, ln_88 hS, ln_89 hS, ln_90 hS, ln_91 hS, ln_92 hS, ln_93 hS, ln_94 hS, ln_95 hS, ln_96 hS, ln_97 hS, ln_98 hS, ln_99 hS, ln_100 hS, ln_101 hS, ln_102 hS, ln_103 hS, ln_104 hS, ln_105 hS, ln_106 hS, ln_107 hS, ln_108 hS, rf_1_0 hS, rf_1_1 hS, rf_1_2 hS, rf_1_3 hS, rf_1_4 hS, rf_1_5 hS, rf_1_6 hS, rf_6_0 hS, rf_8_1 hS, rf_8_2 hS, rf_79_1 hS, rf_79_2 hS, rf_79_3 hS, rf_79_4 hS, rf_79_5 hS, rf_79_6 hS, rf_79_7 hS, rf_79_8 hS, rf_79_9 hS, rf_79_10 hS, rf_79_11 hS, rf_79_12 hS, rf_79_13 hS, rf_79_14 hS, rf_79_15 hS, rf_79_16 hS, rf_79_17 hS, rf_79_18 hS, rf_79_19 hS, rf_79_20 hS, rf_79_21 hS, rf_79_22 hS, rf_79_24 hS, rf_79_25 hS, rf_79_26 hS, rf_79_27 hS, rf_79_28 hS, rf_79_29 hS, rf_79_30 hS, true_and, and_true, false_and, and_false, not_true_eq_false, not_false_eq_true, true_implies, false_implies, implies_true, Classical.not_not, ite_true, ite_false, Option.some.injEq, Sum.inl.injEq, exists_eq', eq_self, true_or, or_true, false_or, or_false, Nat.reduceEqDiff, Nat.reduceLeDiff, Nat.reduceAdd, Nat.zero_le, one_ne0, if_neg one_ne0', lt_102_103, lt_102_104, lt_102_105, lt_102_106, lt_99_107, lt_100_107, lt_101_107, lt_103_107, lt_104_107, lt_105_107, lt_106_107, lt_98_99, lt_98_100, lt_98_101, lt_98_106, ix2, ix, a1, a2, b1, b2', ev, ec, v0, hw, e0, ne, vn, p, u8]
    exact good p
theorem mN_1 {d n u k i q : Nat} {w v A : Int32} {g : gi_H} {R : gi_P} (hS : gi_S g) (hn : n < 64) (hk : k < 2) (hi : i < 16) (eq : q = 16 * k + i) (hw : (w = 0) = False) (hv : -1 ≤ v.toInt ∧ v.toInt ≤ 7) (hr : ∀ j, j < 32 → -1 ≤ (gi_I g 98 (32 * (2 * n + 1) + j)).toInt) (z : (gi_I g 93 (2 * n + 1) = 0) = True) (ne : (gi_I g 98 (32 * (2 * n + 1) + q) = -1) = True) (vn : (v = -1) = False) (hA : al_ (gi_I (gi_pI (gi_pI (gi_pI (gi_pI (gi_pI g 95 (2 * n + 1) ((gi_I g 87 n >>> (3 &&& 31)) &&& 7)) 96 (2 * n + 1) ((gi_I g 87 n >>> (6 &&& 31)) &&& 7)) 97 (2 * n + 1) (gi_I g 87 n &&& 7)) 93 (2 * n + 1) (0 + 1)) 98 (32 * (2 * n + 1) + q) v)) (2 * n + 1) = A) (good : R (some (.inl (0 + 1))) (gi_pI (gi_pI (gi_pI (gi_pI (gi_pI (gi_pI g 95 (2 * n + 1) ((gi_I g 87 n >>> (3 &&& 31)) &&& 7)) 96 (2 * n + 1) ((gi_I g 87 n >>> (6 &&& 31)) &&& 7)) 97 (2 * n + 1) (gi_I g 87 n &&& 7)) 93 (2 * n + 1) (0 + 1)) 98 (32 * (2 * n + 1) + q) v) 94 (2 * n + 1) A)) : gi_ex (gi_cx (d + 1)) 127 R 78 [some (.inr (.inr (some 79))), some (.inl (nI u)), some (.inl (nI n)), some (.inl w), some (.inl (nI k)), some (.inl (nI i)), some (.inl v), none, none] [] g := by
  have ev : vp_in (nI n) 64 := vp_in_nI hn (by omega)
  have ec : (nI n).toNatClampNeg = n := nI_clamp (by omega)
  have a1 : vp_in (nI (2 * n + 1)) 128 := vp_in_nI (by omega) (by omega)
  have a2 : (nI (2 * n + 1)).toNatClampNeg = 2 * n + 1 := nI_clamp (by omega)
  have ix : (32 : Int32) * nI (2 * n + 1) + 16 * nI k + nI i = nI (32 * (2 * n + 1) + q) := by
    rw [show (32 : Int32) = nI 32 from rfl, show (16 : Int32) = nI 16 from rfl, pk_mul, pk_mul, nI_add, nI_add]; congr 1; omega
  have b1 : vp_in (nI (32 * (2 * n + 1) + q)) 4096 := vp_in_nI (by omega) (by omega)
  have b2' : (nI (32 * (2 * n + 1) + q)).toNatClampNeg = 32 * (2 * n + 1) + q := nI_clamp (by omega)
  have v0 := ge_m1 hv.1
  have e0 := ge_m1 (hr q (by omega))
  have hr5 : ∀ j, j < 32 → -1 ≤ (gi_I (gi_pI (gi_pI (gi_pI (gi_pI (gi_pI g 95 (2 * n + 1) ((gi_I g 87 n >>> (3 &&& 31)) &&& 7)) 96 (2 * n + 1) ((gi_I g 87 n >>> (6 &&& 31)) &&& 7)) 97 (2 * n + 1) (gi_I g 87 n &&& 7)) 93 (2 * n + 1) (0 + 1)) 98 (32 * (2 * n + 1) + q) v) 98 (32 * (2 * n + 1) + j)).toInt := fun j hj => by
    simp only [I_pI]
    by_cases p : j = q
    · simp [p, hv.1]
    · have : ¬ (32 * (2 * n + 1) + j = 32 * (2 * n + 1) + q) := by omega
      simp only [this, and_false, ite_false, false_and, Nat.reduceEqDiff]
      exact hr j hj
  have z' := of_eq_true z
  have n8 : ((0 : Int32) = 8) = False := by decide
  have u8 := fun {d : Nat} {Q : gi_P} => c_128_1 (d := d) (n := n) (k := gi_pI (gi_pI (gi_pI (gi_pI (gi_pI g 95 (2 * n + 1) ((gi_I g 87 n >>> (3 &&& 31)) &&& 7)) 96 (2 * n + 1) ((gi_I g 87 n >>> (6 &&& 31)) &&& 7)) 97 (2 * n + 1) (gi_I g 87 n &&& 7)) 93 (2 * n + 1) (0 + 1)) 98 (32 * (2 * n + 1) + q) v) (Q := Q) hS hn hr5
  rw [hA] at u8
  simp only [x127_78, x127_79, x127_82, x127_83, x127_84, x127_85, x127_86, x127_87, x127_90, x127_91, x127_92, x127_93, x127_95, x127_97, x127_99, x127_100, x127_102, x127_104, x127_105, x127_106, x127_108, x127_109, x127_111, x127_113, x127_116, x127_117, x127_120, x127_122, x127_123, x127_126, x127_128, x127_129, x127_130, x127_133, x127_135, x127_136, x127_137, x127_138, x127_141, x127_143, x127_144, x127_145, x127_146, x127_147, x127_148, x127_149, x127_152, x127_154, x127_155, x127_158, x127_159, x127_160, x127_162, x127_165, x127_168, x127_169, x127_172, x127_173, x127_176, x127_177, x127_178, x127_181, x127_182, x127_183, x127_185, x127_186, x127_187, x127_190, x127_192, x127_193, x127_194, x127_195, x127_196, x127_197, x127_198, x127_201, x127_203, x127_204, x127_205, x127_206, x127_209, x127_211, x127_212, x127_215, x127_216, x127_219, x127_221, x127_222, x127_224, x127_227, x127_229, x127_230, x127_231, x127_234, x127_236, x127_237, x127_240, x127_241, x127_244, x127_246, x127_247, x127_250, x127_251, x127_252, x127_253, x127_254, x127_256, x127_257, x127_258, x127_259, x127_262, x127_264, x127_265, x127_268, x127_269, x127_270, x127_272, x127_273, x127_275, x127_276, x127_277, x127_278, x127_281, x127_283, x127_284, x127_287, x127_288, x127_289, x127_291, x127_292, x127_293, x127_294, x127_297, x127_299, x127_300, x127_303, x127_305, x127_306, x127_309, x127_310, x127_313, x127_315, x127_316, x127_317, x127_318, x127_321, x127_322, x127_325, x127_327, x127_328, x127_329, x127_330, x127_333, x127_335, x127_337, x127_338, x127_339, x127_340, x127_342, x127_345, x127_346, x127_349, x127_351, x127_352, ldI_2, ldI_3, ldI_4, ldI_5, ldI_6, ldI_7, ldI_8, ldR_0, stI_7i, stI_7n, stI_7r, stI_8i, stI_8n, stI_8r, I_pI, R_pI, c_pI, n_pI, u_pI, t_pI, l_pI, I_pR, R_pR, c_pR, n_pR, u_pR, t_pR, l_pR, get_s, Option.toList, List.nil_append, List.cons_append, List.length_nil, List.length_cons, gi_B, tg_1 hS, tg_2 hS, tg_3 hS, tg_4 hS, tg_5 hS, tg_6 hS, tg_7 hS, tg_8 hS, tg_9 hS, tg_10 hS, tg_75 hS, tg_79 hS, tg_80 hS, tg_81 hS, tg_82 hS, tg_83 hS, tg_84 hS, tg_85 hS, tg_86 hS, tg_87 hS, tg_88 hS, tg_89 hS, tg_90 hS, tg_91 hS, tg_92 hS, tg_93 hS, tg_94 hS, tg_95 hS, tg_96 hS, tg_97 hS, tg_98 hS, tg_99 hS, tg_100 hS, tg_101 hS, tg_102 hS, tg_103 hS, tg_104 hS, tg_105 hS, tg_106 hS, tg_107 hS, tg_108 hS, ln_2 hS, ln_3 hS, ln_4 hS, ln_5 hS, ln_7 hS, ln_9 hS, ln_10 hS, ln_75 hS, ln_80 hS, ln_81 hS, ln_82 hS, ln_83 hS, ln_84 hS, ln_85 hS, ln_86 hS, ln_87 hS, ln_88 hS, ln_89 hS, ln_90 hS, ln_91 hS, ln_92 hS, ln_93 hS, ln_94 hS, ln_95 hS, ln_96 hS, ln_97 hS, ln_98 hS, ln_99 hS, ln_100 hS, ln_101 hS, ln_102 hS, ln_103 hS, ln_104 hS, ln_105 hS, ln_106 hS, ln_107 hS, ln_108 hS, rf_1_0 hS, rf_1_1 hS, rf_1_2 hS, rf_1_3 hS, rf_1_4 hS, rf_1_5 hS, rf_1_6 hS, rf_6_0 hS, rf_8_1 hS, rf_8_2 hS, rf_79_1 hS, rf_79_2 hS, rf_79_3 hS, rf_79_4 hS, rf_79_5 hS, rf_79_6 hS, rf_79_7 hS, rf_79_8 hS, rf_79_9 hS, rf_79_10 hS, rf_79_11 hS, rf_79_12 hS, rf_79_13 hS, rf_79_14 hS, rf_79_15 hS, rf_79_16 hS, rf_79_17 hS, rf_79_18 hS, rf_79_19 hS, rf_79_20 hS, rf_79_21 hS, rf_79_22 hS, rf_79_24 hS, rf_79_25 hS, rf_79_26 hS, rf_79_27 hS, rf_79_28 hS, rf_79_29 hS, rf_79_30 hS, true_and, and_true, false_and, and_false, not_true_eq_false, not_false_eq_true, true_implies, false_implies, implies_true, Classical.not_not, ite_true, ite_false, Option.some.injEq, Sum.inl.injEq, exists_eq', eq_self, true_or, or_true, false_or, or_false, Nat.reduceEqDiff, Nat.reduceLeDiff, Nat.reduceAdd, Nat.zero_le, one_ne0, if_neg one_ne0', lt_102_103, lt_102_104, lt_102_105, lt_102_106, lt_99_107, lt_100_107, lt_101_107, lt_103_107, lt_104_107, lt_105_107, lt_106_107, lt_98_99, lt_98_100, lt_98_101, lt_98_106, ix21, ix, a1, a2, b1, b2', ev, ec, v0, hw, e0, ne, vn, z', n8, u8, if_pos]
  exact good
theorem mE_1 {d n u k i q : Nat} {w v A : Int32} {g : gi_H} {R : gi_P} (hS : gi_S g) (hn : n < 64) (hk : k < 2) (hi : i < 16) (eq : q = 16 * k + i) (hw : (w = 0) = False) (hv : -1 ≤ v.toInt ∧ v.toInt ≤ 7) (hr : ∀ j, j < 32 → -1 ≤ (gi_I g 98 (32 * (2 * n + 1) + j)).toInt) {m : Int32} (z : (gi_I g 93 (2 * n + 1) = 0) = False) (n8 : ((gi_I g 98 (32 * (2 * n + 1) + q) = -1) = True ∧ (gi_I g 93 (2 * n + 1) = 8) = False ∧ gi_I g 93 (2 * n + 1) + 1 = m) ∨ ((gi_I g 98 (32 * (2 * n + 1) + q) = -1) = False ∧ gi_I g 93 (2 * n + 1) = m)) (vn : (v = -1) = False) (hA : al_ (gi_I (gi_pI (gi_pI g 93 (2 * n + 1) m) 98 (32 * (2 * n + 1) + q) v)) (2 * n + 1) = A) (good : R (some (.inl m)) (gi_pI (gi_pI (gi_pI g 93 (2 * n + 1) m) 98 (32 * (2 * n + 1) + q) v) 94 (2 * n + 1) A)) : gi_ex (gi_cx (d + 1)) 127 R 78 [some (.inr (.inr (some 79))), some (.inl (nI u)), some (.inl (nI n)), some (.inl w), some (.inl (nI k)), some (.inl (nI i)), some (.inl v), none, none] [] g := by
  have ev : vp_in (nI n) 64 := vp_in_nI hn (by omega)
  have ec : (nI n).toNatClampNeg = n := nI_clamp (by omega)
  have a1 : vp_in (nI (2 * n + 1)) 128 := vp_in_nI (by omega) (by omega)
  have a2 : (nI (2 * n + 1)).toNatClampNeg = 2 * n + 1 := nI_clamp (by omega)
  have ix : (32 : Int32) * nI (2 * n + 1) + 16 * nI k + nI i = nI (32 * (2 * n + 1) + q) := by
    rw [show (32 : Int32) = nI 32 from rfl, show (16 : Int32) = nI 16 from rfl, pk_mul, pk_mul, nI_add, nI_add]; congr 1; omega
  have b1 : vp_in (nI (32 * (2 * n + 1) + q)) 4096 := vp_in_nI (by omega) (by omega)
  have b2' : (nI (32 * (2 * n + 1) + q)).toNatClampNeg = 32 * (2 * n + 1) + q := nI_clamp (by omega)
  have v0 := ge_m1 hv.1
  have e0 := ge_m1 (hr q (by omega))
  have hr5 : ∀ j, j < 32 → -1 ≤ (gi_I (gi_pI (gi_pI g 93 (2 * n + 1) m) 98 (32 * (2 * n + 1) + q) v) 98 (32 * (2 * n + 1) + j)).toInt := fun j hj => by
    simp only [I_pI]
    by_cases p : j = q
    · simp [p, hv.1]
    · have : ¬ (32 * (2 * n + 1) + j = 32 * (2 * n + 1) + q) := by omega
      simp only [this, and_false, ite_false, false_and, Nat.reduceEqDiff]
      exact hr j hj
  have u8 := fun {d : Nat} {Q : gi_P} => c_128_1 (d := d) (n := n) (k := gi_pI (gi_pI g 93 (2 * n + 1) m) 98 (32 * (2 * n + 1) + q) v) (Q := Q) hS hn hr5
  rw [hA] at u8
  rcases n8 with ⟨ne, n8, em⟩ | ⟨ne, em⟩
  · simp only [x127_78, x127_79, x127_82, x127_83, x127_84, x127_85, x127_86, x127_87, x127_90, x127_91, x127_92, x127_93, x127_95, x127_97, x127_99, x127_100, x127_102, x127_104, x127_105, x127_106, x127_108, x127_109, x127_111, x127_113, x127_116, x127_117, x127_120, x127_122, x127_123, x127_126, x127_128, x127_129, x127_130, x127_133, x127_135, x127_136, x127_137, x127_138, x127_141, x127_143, x127_144, x127_145, x127_146, x127_147, x127_148, x127_149, x127_152, x127_154, x127_155, x127_158, x127_159, x127_160, x127_162, x127_165, x127_168, x127_169, x127_172, x127_173, x127_176, x127_177, x127_178, x127_181, x127_182, x127_183, x127_185, x127_186, x127_187, x127_190, x127_192, x127_193, x127_194, x127_195, x127_196, x127_197, x127_198, x127_201, x127_203, x127_204, x127_205, x127_206, x127_209, x127_211, x127_212, x127_215, x127_216, x127_219, x127_221, x127_222, x127_224, x127_227, x127_229, x127_230, x127_231, x127_234, x127_236, x127_237, x127_240, x127_241, x127_244, x127_246, x127_247, x127_250, x127_251, x127_252, x127_253, x127_254, x127_256, x127_257, x127_258, x127_259, x127_262, x127_264, x127_265, x127_268, x127_269, x127_270, x127_272, x127_273, x127_275, x127_276, x127_277, x127_278, x127_281, x127_283, x127_284, x127_287, x127_288, x127_289, x127_291, x127_292, x127_293, x127_294, x127_297, x127_299, x127_300, x127_303, x127_305, x127_306, x127_309, x127_310, x127_313, x127_315, x127_316, x127_317, x127_318, x127_321, x127_322, x127_325, x127_327, x127_328, x127_329, x127_330, x127_333, x127_335, x127_337, x127_338, x127_339, x127_340, x127_342, x127_345, x127_346, x127_349, x127_351, x127_352, ldI_2, ldI_3, ldI_4, ldI_5, ldI_6, ldI_7, ldI_8, ldR_0, stI_7i, stI_7n, stI_7r, stI_8i, stI_8n, stI_8r, I_pI, R_pI, c_pI, n_pI, u_pI, t_pI, l_pI, I_pR, R_pR, c_pR, n_pR, u_pR, t_pR, l_pR, get_s, Option.toList, List.nil_append, List.cons_append, List.length_nil, List.length_cons, gi_B, tg_1 hS, tg_2 hS, tg_3 hS, tg_4 hS, tg_5 hS, tg_6 hS, tg_7 hS, tg_8 hS, tg_9 hS, tg_10 hS, tg_75 hS, tg_79 hS, tg_80 hS, tg_81 hS, tg_82 hS, tg_83 hS, tg_84 hS, tg_85 hS, tg_86 hS, tg_87 hS, tg_88 hS, tg_89 hS, tg_90 hS, tg_91 hS, tg_92 hS, tg_93 hS, tg_94 hS, tg_95 hS, tg_96 hS, tg_97 hS, tg_98 hS, tg_99 hS, tg_100 hS, tg_101 hS, tg_102 hS, tg_103 hS, tg_104 hS, tg_105 hS, tg_106 hS, tg_107 hS, tg_108 hS, ln_2 hS, ln_3 hS, ln_4 hS, ln_5 hS, ln_7 hS, ln_9 hS, ln_10 hS, ln_75 hS, ln_80 hS, ln_81 hS, ln_82 hS, ln_83 hS, ln_84 hS, ln_85 hS, ln_86 hS, ln_87 hS, ln_88 hS, ln_89 hS, ln_90 hS, ln_91 hS, ln_92 hS, ln_93 hS, ln_94 hS, ln_95 hS, ln_96 hS, ln_97 hS, ln_98 hS, ln_99 hS, ln_100 hS, ln_101 hS, ln_102 hS, ln_103 hS, ln_104 hS, ln_105 hS, ln_106 hS, ln_107 hS, ln_108 hS, rf_1_0 hS, rf_1_1 hS, rf_1_2 hS, rf_1_3 hS, rf_1_4 hS, rf_1_5 hS, rf_1_6 hS, rf_6_0 hS, rf_8_1 hS, rf_8_2 hS, rf_79_1 hS, rf_79_2 hS, rf_79_3 hS, rf_79_4 hS, rf_79_5 hS, rf_79_6 hS, rf_79_7 hS, rf_79_8 hS, rf_79_9 hS, rf_79_10 hS, rf_79_11 hS, rf_79_12 hS, rf_79_13 hS, rf_79_14 hS, rf_79_15 hS, rf_79_16 hS, rf_79_17 hS, rf_79_18 hS, rf_79_19 hS, rf_79_20 hS, rf_79_21 hS, rf_79_22 hS, rf_79_24 hS, rf_79_25 hS, rf_79_26 hS, rf_79_27 hS, rf_79_28 hS, rf_79_29 hS, rf_79_30 hS, true_and, and_true, false_and, and_false, not_true_eq_false, not_false_eq_true, true_implies, false_implies, implies_true, Classical.not_not, ite_true, ite_false, Option.some.injEq, Sum.inl.injEq, exists_eq', eq_self, true_or, or_true, false_or, or_false, Nat.reduceEqDiff, Nat.reduceLeDiff, Nat.reduceAdd, Nat.zero_le, one_ne0, if_neg one_ne0', lt_102_103, lt_102_104, lt_102_105, lt_102_106, lt_99_107, lt_100_107, lt_101_107, lt_103_107, lt_104_107, lt_105_107, lt_106_107, lt_98_99, lt_98_100, lt_98_101, lt_98_106, ix21, ix, a1, a2, b1, b2', ev, ec, v0, hw, e0, ne, vn, z, n8, em, u8]
    exact good
  · have z2 : (m = 0) = False := by rw [← em]; exact z
    simp only [x127_78, x127_79, x127_82, x127_83, x127_84, x127_85, x127_86, x127_87, x127_90, x127_91, x127_92, x127_93, x127_95, x127_97, x127_99, x127_100, x127_102, x127_104, x127_105, x127_106, x127_108, x127_109, x127_111, x127_113, x127_116, x127_117, x127_120, x127_122, x127_123, x127_126, x127_128, x127_129, x127_130, x127_133, x127_135, x127_136, x127_137, x127_138, x127_141, x127_143, x127_144, x127_145, x127_146, x127_147, x127_148, x127_149, x127_152, x127_154, x127_155, x127_158, x127_159, x127_160, x127_162, x127_165, x127_168, x127_169, x127_172, x127_173, x127_176, x127_177, x127_178, x127_181, x127_182, x127_183, x127_185, x127_186, x127_187, x127_190, x127_192, x127_193, x127_194, x127_195, x127_196, x127_197, x127_198, x127_201, x127_203, x127_204, x127_205, x127_206, x127_209, x127_211, x127_212, x127_215, x127_216, x127_219, x127_221, x127_222, x127_224, x127_227, x127_229, x127_230, x127_231, x127_234, x127_236, x127_237, x127_240, x127_241, x127_244, x127_246, x127_247, x127_250, x127_251, x127_252, x127_253, x127_254, x127_256, x127_257, x127_258, x127_259, x127_262, x127_264, x127_265, x127_268, x127_269, x127_270, x127_272, x127_273, x127_275, x127_276, x127_277, x127_278, x127_281, x127_283, x127_284, x127_287, x127_288, x127_289, x127_291, x127_292, x127_293, x127_294, x127_297, x127_299, x127_300, x127_303, x127_305, x127_306, x127_309, x127_310, x127_313, x127_315, x127_316, x127_317, x127_318, x127_321, x127_322, x127_325, x127_327, x127_328, x127_329, x127_330, x127_333, x127_335, x127_337, x127_338, x127_339, x127_340, x127_342, x127_345, x127_346, x127_349, x127_351, x127_352, ldI_2, ldI_3, ldI_4, ldI_5, ldI_6, ldI_7, ldI_8, ldR_0, stI_7i, stI_7n, stI_7r, stI_8i, stI_8n, stI_8r, I_pI, R_pI, c_pI, n_pI, u_pI, t_pI, l_pI, I_pR, R_pR, c_pR, n_pR, u_pR, t_pR, l_pR, get_s, Option.toList, List.nil_append, List.cons_append, List.length_nil, List.length_cons, gi_B, tg_1 hS, tg_2 hS, tg_3 hS, tg_4 hS, tg_5 hS, tg_6 hS, tg_7 hS, tg_8 hS, tg_9 hS, tg_10 hS, tg_75 hS, tg_79 hS, tg_80 hS, tg_81 hS, tg_82 hS, tg_83 hS, tg_84 hS, tg_85 hS, tg_86 hS, tg_87 hS, tg_88 hS, tg_89 hS, tg_90 hS, tg_91 hS, tg_92 hS, tg_93 hS, tg_94 hS, tg_95 hS, tg_96 hS, tg_97 hS, tg_98 hS, tg_99 hS, tg_100 hS, tg_101 hS, tg_102 hS, tg_103 hS, tg_104 hS, tg_105 hS, tg_106 hS, tg_107 hS, tg_108 hS, ln_2 hS, ln_3 hS, ln_4 hS, ln_5 hS, ln_7 hS, ln_9 hS, ln_10 hS, ln_75 hS, ln_80 hS, ln_81 hS, ln_82 hS, ln_83 hS, ln_84 hS, ln_85 hS, ln_86 hS, ln_87 hS, ln_88 hS, ln_89 hS, ln_90 hS, ln_91 hS, ln_92 hS, ln_93 hS, ln_94 hS, ln_95 hS, ln_96 hS, ln_97 hS, ln_98 hS, ln_99 hS, ln_100 hS, ln_101 hS, ln_102 hS, ln_103 hS, ln_104 hS, ln_105 hS, ln_106 hS, ln_107 hS, ln_108 hS, rf_1_0 hS, rf_1_1 hS, rf_1_2 hS, rf_1_3 hS, rf_1_4 hS, rf_1_5 hS, rf_1_6 hS, rf_6_0 hS, rf_8_1 hS, rf_8_2 hS, rf_79_1 hS, rf_79_2 hS, rf_79_3 hS, rf_79_4 hS, rf_79_5 hS, rf_79_6 hS, rf_79_7 hS, rf_79_8 hS, rf_79_9 hS, rf_79_10 hS, rf_79_11 hS, rf_79_12 hS, rf_79_13 hS, rf_79_14 hS, rf_79_15 hS, rf_79_16 hS, rf_79_17 hS, rf_79_18 hS, rf_79_19 hS, rf_79_20 hS, rf_79_21 hS, rf_79_22 hS, rf_79_24 hS, rf_79_25 hS, rf_79_26 hS, rf_79_27 hS, rf_79_28 hS, rf_79_29 hS, rf_79_30 hS, true_and, and_true, false_and, and_false, not_true_eq_false, not_false_eq_true, true_implies, false_implies, implies_true, Classical.not_not, ite_true, ite_false, Option.some.injEq, Sum.inl.injEq, exists_eq', eq_self, true_or, or_true, false_or, or_false, Nat.reduceEqDiff, Nat.reduceLeDiff, Nat.reduceAdd, Nat.zero_le, one_ne0, if_neg one_ne0', lt_102_103, lt_102_104, lt_102_105, lt_102_106, lt_99_107, lt_100_107, lt_101_107, lt_103_107, lt_104_107, lt_105_107, lt_106_107, lt_98_99, lt_98_100, lt_98_101, lt_98_106, ix21, ix, a1, a2, b1, b2', ev, ec, v0, hw, e0, ne, vn, z, z2, em, u8]
    exact good
theorem mR_1 {d n u k i q : Nat} {w v A : Int32} {g : gi_H} {R : gi_P} (hS : gi_S g) (hn : n < 64) (hk : k < 2) (hi : i < 16) (eq : q = 16 * k + i) (hw : (w = 0) = False) (hv : -1 ≤ v.toInt ∧ v.toInt ≤ 7) (hr : ∀ j, j < 32 → -1 ≤ (gi_I g 98 (32 * (2 * n + 1) + j)).toInt) (ne : (gi_I g 98 (32 * (2 * n + 1) + q) = -1) = False) (vn : (v = -1) = True) (hA : al_ (gi_I (gi_pI (gi_pI g 98 (32 * (2 * n + 1) + q) (-1)) 93 (2 * n + 1) (gi_I g 93 (2 * n + 1) - 1))) (2 * n + 1) = A) (good : (gi_I g 93 (2 * n + 1) - 1 ≤ 0) = False → R (some (.inl (gi_I g 93 (2 * n + 1) - 1))) (gi_pI (gi_pI (gi_pI g 98 (32 * (2 * n + 1) + q) (-1)) 93 (2 * n + 1) (gi_I g 93 (2 * n + 1) - 1)) 94 (2 * n + 1) A)) (good0 : (gi_I g 93 (2 * n + 1) - 1 ≤ 0) = True → R (some (.inl (gi_I g 93 (2 * n + 1) - 1))) (gi_pI (gi_pI g 98 (32 * (2 * n + 1) + q) (-1)) 93 (2 * n + 1) (gi_I g 93 (2 * n + 1) - 1))) : gi_ex (gi_cx (d + 1)) 127 R 78 [some (.inr (.inr (some 79))), some (.inl (nI u)), some (.inl (nI n)), some (.inl w), some (.inl (nI k)), some (.inl (nI i)), some (.inl v), none, none] [] g := by
  have ev : vp_in (nI n) 64 := vp_in_nI hn (by omega)
  have ec : (nI n).toNatClampNeg = n := nI_clamp (by omega)
  have a1 : vp_in (nI (2 * n + 1)) 128 := vp_in_nI (by omega) (by omega)
  have a2 : (nI (2 * n + 1)).toNatClampNeg = 2 * n + 1 := nI_clamp (by omega)
  have ix : (32 : Int32) * nI (2 * n + 1) + 16 * nI k + nI i = nI (32 * (2 * n + 1) + q) := by
    rw [show (32 : Int32) = nI 32 from rfl, show (16 : Int32) = nI 16 from rfl, pk_mul, pk_mul, nI_add, nI_add]; congr 1; omega
  have b1 : vp_in (nI (32 * (2 * n + 1) + q)) 4096 := vp_in_nI (by omega) (by omega)
  have b2' : (nI (32 * (2 * n + 1) + q)).toNatClampNeg = 32 * (2 * n + 1) + q := nI_clamp (by omega)
  have v0 := ge_m1 hv.1
  have e0 := ge_m1 (hr q (by omega))
  have hr5 : ∀ j, j < 32 → -1 ≤ (gi_I (gi_pI (gi_pI g 98 (32 * (2 * n + 1) + q) (-1)) 93 (2 * n + 1) (gi_I g 93 (2 * n + 1) - 1)) 98 (32 * (2 * n + 1) + j)).toInt := fun j hj => by
    simp only [I_pI]
    by_cases p : j = q
    · simp [p, show (-1 : Int) ≤ (-1 : Int32).toInt by decide]
    · have : ¬ (32 * (2 * n + 1) + j = 32 * (2 * n + 1) + q) := by omega
      simp only [this, and_false, ite_false, false_and, Nat.reduceEqDiff]
      exact hr j hj
  have u8 := fun {d : Nat} {Q : gi_P} => c_128_1 (d := d) (n := n) (k := gi_pI (gi_pI g 98 (32 * (2 * n + 1) + q) (-1)) 93 (2 * n + 1) (gi_I g 93 (2 * n + 1) - 1)) (Q := Q) hS hn hr5
  rw [hA] at u8
  rcases em_ (gi_I g 93 (2 * n + 1) - 1 ≤ 0) with p | p
  · simp only [x127_78, x127_79, x127_82, x127_83, x127_84, x127_85, x127_86, x127_87, x127_90, x127_91, x127_92, x127_93, x127_95, x127_97, x127_99, x127_100, x127_102, x127_104, x127_105, x127_106, x127_108, x127_109, x127_111, x127_113, x127_116, x127_117, x127_120, x127_122, x127_123, x127_126, x127_128, x127_129, x127_130, x127_133, x127_135, x127_136, x127_137, x127_138, x127_141, x127_143, x127_144, x127_145, x127_146, x127_147, x127_148, x127_149, x127_152, x127_154, x127_155, x127_158, x127_159, x127_160, x127_162, x127_165, x127_168, x127_169, x127_172, x127_173, x127_176, x127_177, x127_178, x127_181, x127_182, x127_183, x127_185, x127_186, x127_187, x127_190, x127_192, x127_193, x127_194, x127_195, x127_196, x127_197, x127_198, x127_201, x127_203, x127_204, x127_205, x127_206, x127_209, x127_211, x127_212, x127_215, x127_216, x127_219, x127_221, x127_222, x127_224, x127_227, x127_229, x127_230, x127_231, x127_234, x127_236, x127_237, x127_240, x127_241, x127_244, x127_246, x127_247, x127_250, x127_251, x127_252, x127_253, x127_254, x127_256, x127_257, x127_258, x127_259, x127_262, x127_264, x127_265, x127_268, x127_269, x127_270, x127_272, x127_273, x127_275, x127_276, x127_277, x127_278, x127_281, x127_283, x127_284, x127_287, x127_288, x127_289, x127_291, x127_292, x127_293, x127_294, x127_297, x127_299, x127_300, x127_303, x127_305, x127_306, x127_309, x127_310, x127_313, x127_315, x127_316, x127_317, x127_318, x127_321, x127_322, x127_325, x127_327, x127_328, x127_329, x127_330, x127_333, x127_335, x127_337, x127_338, x127_339, x127_340, x127_342, x127_345, x127_346, x127_349, x127_351, x127_352, ldI_2, ldI_3, ldI_4, ldI_5, ldI_6, ldI_7, ldI_8, ldR_0, stI_7i, stI_7n, stI_7r, stI_8i, stI_8n, stI_8r, I_pI, R_pI, c_pI, n_pI, u_pI, t_pI, l_pI, I_pR, R_pR, c_pR, n_pR, u_pR, t_pR, l_pR, get_s, Option.toList, List.nil_append, List.cons_append, List.length_nil, List.length_cons, gi_B, tg_1 hS, tg_2 hS, tg_3 hS, tg_4 hS, tg_5 hS, tg_6 hS, tg_7 hS, tg_8 hS, tg_9 hS, tg_10 hS, tg_75 hS, tg_79 hS, tg_80 hS, tg_81 hS, tg_82 hS, tg_83 hS, tg_84 hS, tg_85 hS, tg_86 hS, tg_87 hS, tg_88 hS, tg_89 hS, tg_90 hS, tg_91 hS, tg_92 hS, tg_93 hS, tg_94 hS, tg_95 hS, tg_96 hS, tg_97 hS, tg_98 hS, tg_99 hS, tg_100 hS, tg_101 hS, tg_102 hS, tg_103 hS, tg_104 hS, tg_105 hS, tg_106 hS, tg_107 hS, tg_108 hS, ln_2 hS, ln_3 hS, ln_4 hS, ln_5 hS, ln_7 hS, ln_9 hS, ln_10 hS, ln_75 hS, ln_80 hS, ln_81 hS, ln_82 hS, ln_83 hS, ln_84 hS, ln_85 hS, ln_86 hS, ln_87 hS, ln_88 hS, ln_89 hS, ln_90 hS, ln_91 hS, ln_92 hS, ln_93 hS, ln_94 hS, ln_95 hS, ln_96 hS, ln_97 hS, ln_98 hS, ln_99 hS, ln_100 hS, ln_101 hS, ln_102 hS, ln_103 hS, ln_104 hS, ln_105 hS, ln_106 hS, ln_107 hS, ln_108 hS, rf_1_0 hS, rf_1_1 hS, rf_1_2 hS, rf_1_3 hS, rf_1_4 hS, rf_1_5 hS, rf_1_6 hS, rf_6_0 hS, rf_8_1 hS, rf_8_2 hS, rf_79_1 hS, rf_79_2 hS, rf_79_3 hS, rf_79_4 hS, rf_79_5 hS, rf_79_6 hS, rf_79_7 hS, rf_79_8 hS, rf_79_9 hS, rf_79_10 hS, rf_79_11 hS, rf_79_12 hS, rf_79_13 hS, rf_79_14 hS, rf_79_15 hS, rf_79_16 hS, rf_79_17 hS, rf_79_18 hS, rf_79_19 hS, rf_79_20 hS, rf_79_21 hS, rf_79_22 hS, rf_79_24 hS, rf_79_25 hS, rf_79_26 hS, rf_79_27 hS, rf_79_28 hS, rf_79_29 hS, rf_79_30 hS, true_and, and_true, false_and, and_false, not_true_eq_false, not_false_eq_true, true_implies, false_implies, implies_true, Classical.not_not, ite_true, ite_false, Option.some.injEq, Sum.inl.injEq, exists_eq', eq_self, true_or, or_true, false_or, or_false, Nat.reduceEqDiff, Nat.reduceLeDiff, Nat.reduceAdd, Nat.zero_le, one_ne0, if_neg one_ne0', lt_102_103, lt_102_104, lt_102_105, lt_102_106, lt_99_107, lt_100_107, lt_101_107, lt_103_107, lt_104_107, lt_105_107, lt_106_107, lt_98_99, lt_98_100, lt_98_101, lt_98_106, ix21, ix, a1, a2, b1, b2', ev, ec, v0, hw, e0, ne, vn, p, u8]
    exact good0 p
  · simp only [x127_78, x127_79, x127_82, x127_83, x127_84, x127_85, x127_86, x127_87, x127_90, x127_91, x127_92, x127_93, x127_95, x127_97, x127_99, x127_100, x127_102, x127_104, x127_105, x127_106, x127_108, x127_109, x127_111, x127_113, x127_116, x127_117, x127_120, x127_122, x127_123, x127_126, x127_128, x127_129, x127_130, x127_133, x127_135, x127_136, x127_137, x127_138, x127_141, x127_143, x127_144, x127_145, x127_146, x127_147, x127_148, x127_149, x127_152, x127_154, x127_155, x127_158, x127_159, x127_160, x127_162, x127_165, x127_168, x127_169, x127_172, x127_173, x127_176, x127_177, x127_178, x127_181, x127_182, x127_183, x127_185, x127_186, x127_187, x127_190, x127_192, x127_193, x127_194, x127_195, x127_196, x127_197, x127_198, x127_201, x127_203, x127_204, x127_205, x127_206, x127_209, x127_211, x127_212, x127_215, x127_216, x127_219, x127_221, x127_222, x127_224, x127_227, x127_229, x127_230, x127_231, x127_234, x127_236, x127_237, x127_240, x127_241, x127_244, x127_246, x127_247, x127_250, x127_251, x127_252, x127_253, x127_254, x127_256, x127_257, x127_258, x127_259, x127_262, x127_264, x127_265, x127_268, x127_269, x127_270, x127_272, x127_273, x127_275, x127_276, x127_277, x127_278, x127_281, x127_283, x127_284, x127_287, x127_288, x127_289, x127_291, x127_292, x127_293, x127_294, x127_297, x127_299, x127_300, x127_303, x127_305, x127_306, x127_309, x127_310, x127_313, x127_315, x127_316, x127_317, x127_318, x127_321, x127_322, x127_325, x127_327, x127_328, x127_329, x127_330, x127_333, x127_335, x127_337, x127_338, x127_339, x127_340, x127_342, x127_345, x127_346, x127_349, x127_351, x127_352, ldI_2, ldI_3, ldI_4, ldI_5, ldI_6, ldI_7, ldI_8, ldR_0, stI_7i, stI_7n, stI_7r, stI_8i, stI_8n, stI_8r, I_pI, R_pI, c_pI, n_pI, u_pI, t_pI, l_pI, I_pR, R_pR, c_pR, n_pR, u_pR, t_pR, l_pR, get_s, Option.toList, List.nil_append, List.cons_append, List.length_nil, List.length_cons, gi_B, tg_1 hS, tg_2 hS, tg_3 hS, tg_4 hS, tg_5 hS, tg_6 hS, tg_7 hS, tg_8 hS, tg_9 hS, tg_10 hS, tg_75 hS, tg_79 hS, tg_80 hS, tg_81 hS, tg_82 hS, tg_83 hS, tg_84 hS, tg_85 hS, tg_86 hS, tg_87 hS, tg_88 hS, tg_89 hS, tg_90 hS, tg_91 hS, tg_92 hS, tg_93 hS, tg_94 hS, tg_95 hS, tg_96 hS, tg_97 hS, tg_98 hS, tg_99 hS, tg_100 hS, tg_101 hS, tg_102 hS, tg_103 hS, tg_104 hS, tg_105 hS, tg_106 hS, tg_107 hS, tg_108 hS, ln_2 hS, ln_3 hS, ln_4 hS, ln_5 hS, ln_7 hS, ln_9 hS, ln_10 hS, ln_75 hS, ln_80 hS, ln_81 hS, ln_82 hS, ln_83 hS, ln_84 hS, ln_85 hS, ln_86 hS, ln_87 hS, ln_88 hS, ln_89 hS, ln_90 hS, ln_91 hS, ln_92 hS, ln_93 hS, ln_94 hS, ln_95 hS, ln_96 hS, ln_97 hS, ln_98 hS, ln_99 hS, ln_100 hS, ln_101 hS, ln_102 hS, ln_103 hS, ln_104 hS, ln_105 hS, ln_106 hS, ln_107 hS, ln_108 hS, rf_1_0 hS, rf_1_1 hS, rf_1_2 hS, rf_1_3 hS, rf_1_4 hS, rf_1_5 hS, rf_1_6 hS, rf_6_0 hS, rf_8_1 hS, rf_8_2 hS, rf_79_1 hS, rf_79_2 hS, rf_79_3 hS, rf_79_4 hS, rf_79_5 hS, rf_79_6 hS, rf_79_7 hS, rf_79_8 hS, rf_79_9 hS, rf_79_10 hS, rf_79_11 hS, rf_79_12 hS, rf_79_13 hS, rf_79_14 hS, rf_79_15 hS, rf_79_16 hS, rf_79_17 hS, rf_79_18 hS, rf_79_19 hS, rf_79_20 hS, rf_79_21 hS, rf_79_22 hS, rf_79_24 hS, rf_79_25 hS, rf_79_26 hS, rf_79_27 hS, rf_79_28 hS, rf_79_29 hS, rf_79_30 hS, true_and, and_true, false_and, and_false, not_true_eq_false, not_false_eq_true, true_implies, false_implies, implies_true, Classical.not_not, ite_true, ite_false, Option.some.injEq, Sum.inl.injEq, exists_eq', eq_self, true_or, or_true, false_or, or_false, Nat.reduceEqDiff, Nat.reduceLeDiff, Nat.reduceAdd, Nat.zero_le, one_ne0, if_neg one_ne0', lt_102_103, lt_102_104, lt_102_105, lt_102_106, lt_99_107, lt_100_107, lt_101_107, lt_103_107, lt_104_107, lt_105_107, lt_106_107, lt_98_99, lt_98_100, lt_98_101, lt_98_106, ix21, ix, a1, a2, b1, b2', ev, ec, v0, hw, e0, ne, vn, p, u8]
    exact good p
theorem acl_0 {L : Nat} {xs : Nat → Int32} {c d n a u k i : Nat} {w v : Int32} {h : gi_H} {Q : gi_P} (J : jH L xs c h) (hn : n < 64) (hr : gi_R h 5 n = some a) (hN : rN h (gi_I h) n a) (hk : k < 2) (hi : i < 16) (hw : (w = 0) = True) (hv : -1 ≤ v.toInt ∧ v.toInt ≤ 7)
    (hQ : ∀ x kC, gi_S kC → (∀ b y, 79 ≤ b → b < 109 → gi_I kC b y = gi_I h b y) → gi_ex (gi_cx (d + 5)) 127 (fun r' k2 => r' = some (.inl x) ∧ jH L xs (c + 1) k2) 78 [some (.inr (.inr (some 79))), some (.inl (nI u)), some (.inl (nI n)), some (.inl w), some (.inl (nI k)), some (.inl (nI i)), some (.inl v), none, none] [] kC → Q (some (.inl x)) kC) : gi_ex (gi_cx (d + 5)) 65 Q 79 [some (.inr (.inr (some 1))), some (.inl (nI u)), some (.inl (nI n)), some (.inl w), some (.inl (nI k)), some (.inl (nI i)), some (.inl v), some (.inr (.inr (some a))), none, none] [] h := by
  have hS := J.1
  have h109 := hS.1
  have jF := J.2.1
  obtain ⟨t0, t1, t2, t3, t4⟩ := rN_t hN
  obtain ⟨d1, d2, d3, c1, c2, c3, f7, f8, k0, k1, k2, k3, k4, k5, k6, kp, kl, kf, kt⟩ := id hN
  have sl := J.2.2.2.2.2.2.2.2.2.2.2.1.2.1
  have sn := J.2.2.2.2.2.2.2.2.2.2.2.1.1
  have g6 := (sn.2 n hn).2.2.2.2.2.1
  have hz0 := ((J.2.2.2.2.2.2.1 n hn).2 a hr).1
  obtain ⟨q1, q2, q3, q4⟩ := sl (2 * n) (by omega)
  have dv : (2 * n) / 2 = n := by omega
  rw [dv] at q4
  have ev : vp_in (nI n) 64 := vp_in_nI hn (by omega)
  have ec : (nI n).toNatClampNeg = n := nI_clamp (by omega)
  have a1 : vp_in (nI (2 * n)) 128 := vp_in_nI (by omega) (by omega)
  have a2 : (nI (2 * n)).toNatClampNeg = 2 * n := nI_clamp (by omega)
  have hq : 16 * k + i < 32 := by omega
  have ix : (32 : Int32) * nI (2 * n) + 16 * nI k + nI i = nI (32 * (2 * n) + (16 * k + i)) := by
    rw [show (32 : Int32) = nI 32 from rfl, show (16 : Int32) = nI 16 from rfl, pk_mul, pk_mul, nI_add, nI_add]; congr 1; omega
  have b1 : vp_in (nI (32 * (2 * n) + (16 * k + i))) 4096 := vp_in_nI (by omega) (by omega)
  have b2' : (nI (32 * (2 * n) + (16 * k + i))).toNatClampNeg = 32 * (2 * n) + (16 * k + i) := nI_clamp (by omega)
  have lt : ∀ x t m, gi_c h x = (t, m) → t ≠ 0 → x < gi_n h := fun x t m e ht => Nat.lt_of_not_le (fun w => by rw [jF x w] at e; cases e; exact ht rfl)
  have la := lt a _ _ c1 (by decide)
  have i97 := (an7 g6).2.2
  have i96 := (an7 g6).1
  have i95 := (an7 g6).2.1
  have v0 := ge_m1 hv.1
  have e0 := ge_m1 (q3 (16 * k + i) hq).1
  cases e : gi_R h a 9 with
  | none =>
    rw [e] at kl
    have z := kl.1 rfl
    have z' := eq_true z
    have all : ∀ j, j < 32 → gi_I h 98 (32 * (2 * n) + j) = -1 := fun j hj => by
      have q5 := (q4 hz0).1
      rw [z, show (0 : Int32).toNatClampNeg = 0 from rfl] at q5
      have q6 := ct_0 32 0 q5.symm j (by omega) (by omega)
      have q7 := q3 j hj
      rw [decide_eq_false_iff_not, i32_le, ti_0] at q6
      rw [i32_eq, ti_m1]
      omega
    have aq := eq_true (all (16 * k + i) hq)
    rcases em_ (v = -1) with w1 | w1
    · simp only [x65_79, x65_81, x65_82, x65_85, x65_87, x65_89, x65_92, x65_94, x65_96, x65_98, x65_101, x65_102, x65_105, x65_106, x65_109, x65_110, x65_112, x65_114, x65_115, x65_118, x65_120, x65_123, x65_125, x65_126, x65_128, x65_131, x65_133, x65_136, x65_138, x65_141, x65_143, x65_146, x65_148, x65_149, x65_151, x65_152, x65_154, x65_156, x65_158, x65_161, ldI_3, ldI_4, ldI_5, ldI_6, ldI_9, ldR_7, ldR_8, stI_9i, stI_9n, stI_9r, stR_8i, stR_8n, stR_8r, e67, x67_0, x67_1, x67_4, x67_5, x67_8, x67_11, x67_12, x67_15, ldI_1, ldR_0, e68, x68_0, x68_1, x68_2, x68_5, x68_7, x68_9, x68_12, x68_15, x68_16, x68_17, x68_20, x68_23, x68_24, x68_27, x68_30, x68_31, x68_34, x68_37, x68_40, ldI_1, ldR_0, ldR_5, stR_5i, stR_5n, stR_5r, I_pI, R_pI, c_pI, n_pI, u_pI, t_pI, l_pI, I_pR, R_pR, c_pR, n_pR, u_pR, t_pR, l_pR, get_s, Option.toList, List.nil_append, List.cons_append, List.length_nil, List.length_cons, gi_B, true_and, and_true, false_and, and_false, not_true_eq_false, not_false_eq_true, true_implies, false_implies, implies_true, Classical.not_not, ite_true, ite_false, Option.some.injEq, Sum.inl.injEq, exists_eq', eq_self, true_or, or_true, false_or, or_false, Nat.reduceEqDiff, Nat.reduceLeDiff, Nat.reduceAdd, Nat.zero_le, one_ne0, if_neg one_ne0', lt_102_103, lt_102_104, lt_102_105, lt_102_106, lt_99_107, lt_100_107, lt_101_107, lt_103_107, lt_104_107, lt_105_107, lt_106_107, lt_98_99, lt_98_100, lt_98_101, lt_98_106, t0, e, w1, hw]
      refine hQ _ _ hS (fun _ _ _ _ => rfl) ?_
      simp only [x127_78, x127_79, x127_82, x127_83, x127_84, x127_85, x127_86, x127_87, x127_90, x127_91, x127_92, x127_93, x127_95, x127_97, x127_99, x127_100, x127_102, x127_104, x127_105, x127_106, x127_108, x127_109, x127_111, x127_113, x127_116, x127_117, x127_120, x127_122, x127_123, x127_126, x127_128, x127_129, x127_130, x127_133, x127_135, x127_136, x127_137, x127_138, x127_141, x127_143, x127_144, x127_145, x127_146, x127_147, x127_148, x127_149, x127_152, x127_154, x127_155, x127_158, x127_159, x127_160, x127_162, x127_165, x127_168, x127_169, x127_172, x127_173, x127_176, x127_177, x127_178, x127_181, x127_182, x127_183, x127_185, x127_186, x127_187, x127_190, x127_192, x127_193, x127_194, x127_195, x127_196, x127_197, x127_198, x127_201, x127_203, x127_204, x127_205, x127_206, x127_209, x127_211, x127_212, x127_215, x127_216, x127_219, x127_221, x127_222, x127_224, x127_227, x127_229, x127_230, x127_231, x127_234, x127_236, x127_237, x127_240, x127_241, x127_244, x127_246, x127_247, x127_250, x127_251, x127_252, x127_253, x127_254, x127_256, x127_257, x127_258, x127_259, x127_262, x127_264, x127_265, x127_268, x127_269, x127_270, x127_272, x127_273, x127_275, x127_276, x127_277, x127_278, x127_281, x127_283, x127_284, x127_287, x127_288, x127_289, x127_291, x127_292, x127_293, x127_294, x127_297, x127_299, x127_300, x127_303, x127_305, x127_306, x127_309, x127_310, x127_313, x127_315, x127_316, x127_317, x127_318, x127_321, x127_322, x127_325, x127_327, x127_328, x127_329, x127_330, x127_333, x127_335, x127_337, x127_338, x127_339, x127_340, x127_342, x127_345, x127_346, x127_349, x127_351, x127_352, ldI_2, ldI_3, ldI_4, ldI_5, ldI_6, ldI_7, ldI_8, ldR_0, stI_7i, stI_7n, stI_7r, stI_8i, stI_8n, stI_8r, I_pI, R_pI, c_pI, n_pI, u_pI, t_pI, l_pI, I_pR, R_pR, c_pR, n_pR, u_pR, t_pR, l_pR, get_s, Option.toList, List.nil_append, List.cons_append, List.length_nil, List.length_cons, gi_B, tg_1 hS, tg_2 hS, tg_3 hS, tg_4 hS, tg_5 hS, tg_6 hS, tg_7 hS, tg_8 hS, tg_9 hS, tg_10 hS, tg_75 hS, tg_79 hS, tg_80 hS, tg_81 hS, tg_82 hS, tg_83 hS, tg_84 hS, tg_85 hS, tg_86 hS, tg_87 hS, tg_88 hS, tg_89 hS, tg_90 hS, tg_91 hS, tg_92 hS, tg_93 hS, tg_94 hS, tg_95 hS, tg_96 hS, tg_97 hS, tg_98 hS, tg_99 hS, tg_100 hS, tg_101 hS, tg_102 hS, tg_103 hS, tg_104 hS, tg_105 hS, tg_106 hS, tg_107 hS, tg_108 hS, ln_2 hS, ln_3 hS, ln_4 hS, ln_5 hS, ln_7 hS, ln_9 hS, ln_10 hS, ln_75 hS, ln_80 hS, ln_81 hS, ln_82 hS, ln_83 hS, ln_84 hS, ln_85 hS, ln_86 hS, ln_87 hS, ln_88 hS, ln_89 hS, ln_90 hS, ln_91 hS, ln_92 hS, ln_93 hS, ln_94 hS, ln_95 hS, ln_96 hS, ln_97 hS, ln_98 hS, ln_99 hS, ln_100 hS, ln_101 hS, ln_102 hS, ln_103 hS, ln_104 hS, ln_105 hS, ln_106 hS, ln_107 hS, ln_108 hS, rf_1_0 hS, rf_1_1 hS, rf_1_2 hS, rf_1_3 hS, rf_1_4 hS, rf_1_5 hS, rf_1_6 hS, rf_6_0 hS, rf_8_1 hS, rf_8_2 hS, rf_79_1 hS, rf_79_2 hS, rf_79_3 hS, rf_79_4 hS, rf_79_5 hS, rf_79_6 hS, rf_79_7 hS, rf_79_8 hS, rf_79_9 hS, rf_79_10 hS, rf_79_11 hS, rf_79_12 hS, rf_79_13 hS, rf_79_14 hS, rf_79_15 hS, rf_79_16 hS, rf_79_17 hS, rf_79_18 hS, rf_79_19 hS, rf_79_20 hS, rf_79_21 hS, rf_79_22 hS, rf_79_24 hS, rf_79_25 hS, rf_79_26 hS, rf_79_27 hS, rf_79_28 hS, rf_79_29 hS, rf_79_30 hS, true_and, and_true, false_and, and_false, not_true_eq_false, not_false_eq_true, true_implies, false_implies, implies_true, Classical.not_not, ite_true, ite_false, Option.some.injEq, Sum.inl.injEq, exists_eq', eq_self, true_or, or_true, false_or, or_false, Nat.reduceEqDiff, Nat.reduceLeDiff, Nat.reduceAdd, Nat.zero_le, one_ne0, if_neg one_ne0', lt_102_103, lt_102_104, lt_102_105, lt_102_106, lt_99_107, lt_100_107, lt_101_107, lt_103_107, lt_104_107, lt_105_107, lt_106_107, lt_98_99, lt_98_100, lt_98_101, lt_98_106, ix2, ix, a1, a2, b1, b2', v0, e0, hw, w1, aq]
      first | exact jH_up J | exact ⟨rfl, jH_up J⟩
    · simp only [x65_79, x65_81, x65_82, x65_85, x65_87, x65_89, x65_92, x65_94, x65_96, x65_98, x65_101, x65_102, x65_105, x65_106, x65_109, x65_110, x65_112, x65_114, x65_115, x65_118, x65_120, x65_123, x65_125, x65_126, x65_128, x65_131, x65_133, x65_136, x65_138, x65_141, x65_143, x65_146, x65_148, x65_149, x65_151, x65_152, x65_154, x65_156, x65_158, x65_161, ldI_3, ldI_4, ldI_5, ldI_6, ldI_9, ldR_7, ldR_8, stI_9i, stI_9n, stI_9r, stR_8i, stR_8n, stR_8r, e67, x67_0, x67_1, x67_4, x67_5, x67_8, x67_11, x67_12, x67_15, ldI_1, ldR_0, e68, x68_0, x68_1, x68_2, x68_5, x68_7, x68_9, x68_12, x68_15, x68_16, x68_17, x68_20, x68_23, x68_24, x68_27, x68_30, x68_31, x68_34, x68_37, x68_40, ldI_1, ldR_0, ldR_5, stR_5i, stR_5n, stR_5r, I_pI, R_pI, c_pI, n_pI, u_pI, t_pI, l_pI, I_pR, R_pR, c_pR, n_pR, u_pR, t_pR, l_pR, get_s, Option.toList, List.nil_append, List.cons_append, List.length_nil, List.length_cons, gi_B, true_and, and_true, false_and, and_false, not_true_eq_false, not_false_eq_true, true_implies, false_implies, implies_true, Classical.not_not, ite_true, ite_false, Option.some.injEq, Sum.inl.injEq, exists_eq', eq_self, true_or, or_true, false_or, or_false, Nat.reduceEqDiff, Nat.reduceLeDiff, Nat.reduceAdd, Nat.zero_le, one_ne0, if_neg one_ne0', lt_102_103, lt_102_104, lt_102_105, lt_102_106, lt_99_107, lt_100_107, lt_101_107, lt_103_107, lt_104_107, lt_105_107, lt_106_107, lt_98_99, lt_98_100, lt_98_101, lt_98_106, t0, e, w1, hw, k4, c_19, c_22, c_23, t_new, if_neg (show a ≠ gi_n h by omega), I_new, c_36]
      refine t68_0 (h := nl h (((gi_I h 87 n) >>> (6 &&& 31)) &&& 7) (((gi_I h 87 n) >>> (3 &&& 31)) &&& 7) ((gi_I h 87 n) &&& 7)) (m := 0 + 1) (S := S1 (gi_I h) (2 * n) (16 * k + i) v (((gi_I h 87 n) >>> (3 &&& 31)) &&& 7)) (l := 2 * n) hw ?_ ?_ ?_ ?_ ?_ (by omega) (by omega) (by omega) ?_ ?_ ?_ ?_
      · rw [t_nl, if_neg (by omega), if_neg (by omega)]; exact t0
      · rw [t_nl, if_pos rfl]
      · rw [t_nl, if_neg (by omega), if_pos rfl]
      · rw [l_nl, if_neg (by omega), if_pos rfl]
      · rw [R_nl, if_pos rfl, if_pos rfl]
      · simp only [I_nl, s_n1, ite_true, ite_false, Nat.reduceEqDiff, w1, hq]; rfl
      · simp only [I_nl, ite_true, ite_false, Nat.reduceEqDiff]; unfold S1; rw [if_neg (by omega), if_pos ⟨rfl, rfl⟩]
      · intro k' hk'
        unfold S1
        by_cases p : k' = (16 * k + i)
        · rw [if_pos p, if_pos ⟨rfl, by omega⟩]
        · rw [if_neg p, if_neg (by omega), if_neg (by omega), I_nl, if_neg (by omega), if_pos rfl, if_pos hk', all k' hk']
      · simp only [x65_161, R_pI, c_pI, n_pI, u_pI, t_pI, l_pI, R_pR, c_pR, n_pR, u_pR, t_pR, l_pR, get_s, Option.toList, List.nil_append, List.cons_append, List.length_nil, List.length_cons, gi_B]
        have n4 : gi_I (nl h (((gi_I h 87 n) >>> (6 &&& 31)) &&& 7) (((gi_I h 87 n) >>> (3 &&& 31)) &&& 7) ((gi_I h 87 n) &&& 7)) a 4 = gi_I h 87 n := by rw [I_nl, if_neg (by omega), if_neg (by omega), k4]
        rw [n4]
        have rows : ∀ b y, 79 ≤ b → b < 109 → gi_I (gi_pI (gi_pR (gi_pI (gi_pI (nl h (((gi_I h 87 n) >>> (6 &&& 31)) &&& 7) (((gi_I h 87 n) >>> (3 &&& 31)) &&& 7) ((gi_I h 87 n) &&& 7)) (gi_n h) 3 (0 + 1 : Int32)) ((gi_n h) + 1) (16 * k + i) v) a 9 (if (0 + 1 : Int32) ≤ 0 then none else some (gi_n h))) a 4 ((gi_I h 87 n &&& (-57 : Int32)) ||| (al_ (S1 (gi_I h) (2 * n) (16 * k + i) v (((gi_I h 87 n) >>> (3 &&& 31)) &&& 7)) (2 * n) <<< ((3 : Int32) &&& 31)))) b y = gi_I h b y := fun b y p1 p2 => by
          unfold dy at d1
          rw [I_pI, if_neg (by omega), I_pR, I_pI, if_neg (by omega), I_pI, if_neg (by omega), I_nl, if_neg (by omega), if_neg (by omega)]
        have hSn : gi_S (nl h (((gi_I h 87 n) >>> (6 &&& 31)) &&& 7) (((gi_I h 87 n) >>> (3 &&& 31)) &&& 7) ((gi_I h 87 n) &&& 7)) := S_nl hS
        refine hQ _ (gi_pI (gi_pR (gi_pI (gi_pI (nl h (((gi_I h 87 n) >>> (6 &&& 31)) &&& 7) (((gi_I h 87 n) >>> (3 &&& 31)) &&& 7) ((gi_I h 87 n) &&& 7)) (gi_n h) 3 (0 + 1 : Int32)) ((gi_n h) + 1) (16 * k + i) v) a 9 (if (0 + 1 : Int32) ≤ 0 then none else some (gi_n h))) a 4 ((gi_I h 87 n &&& (-57 : Int32)) ||| (al_ (S1 (gi_I h) (2 * n) (16 * k + i) v (((gi_I h 87 n) >>> (3 &&& 31)) &&& 7)) (2 * n) <<< ((3 : Int32) &&& 31)))) (S_pR (h := gi_pI (gi_pI (nl h (((gi_I h 87 n) >>> (6 &&& 31)) &&& 7) (((gi_I h 87 n) >>> (3 &&& 31)) &&& 7) ((gi_I h 87 n) &&& 7)) (gi_n h) 3 _) (gi_n h + 1) _ v) hSn (by unfold dy at d1; omega)) rows ?_
        have hA5 : al_ (gi_I (gi_pI (gi_pI (gi_pI (gi_pI (gi_pI (gi_pI (gi_pR (gi_pI (gi_pI (nl h (((gi_I h 87 n) >>> (6 &&& 31)) &&& 7) (((gi_I h 87 n) >>> (3 &&& 31)) &&& 7) ((gi_I h 87 n) &&& 7)) (gi_n h) 3 (0 + 1 : Int32)) ((gi_n h) + 1) (16 * k + i) v) a 9 (if (0 + 1 : Int32) ≤ 0 then none else some (gi_n h))) a 4 ((gi_I h 87 n &&& (-57 : Int32)) ||| (al_ (S1 (gi_I h) (2 * n) (16 * k + i) v (((gi_I h 87 n) >>> (3 &&& 31)) &&& 7)) (2 * n) <<< ((3 : Int32) &&& 31)))) 95 (2 * n) (((gi_I h 87 n) >>> (3 &&& 31)) &&& 7)) 96 (2 * n) (((gi_I h 87 n) >>> (6 &&& 31)) &&& 7)) 97 (2 * n) ((gi_I h 87 n) &&& 7)) 93 (2 * n) (0 + 1)) 98 (32 * (2 * n) + (16 * k + i)) v)) (2 * n) = al_ (S1 (gi_I h) (2 * n) (16 * k + i) v (((gi_I h 87 n) >>> (3 &&& 31)) &&& 7)) (2 * n) := by
          refine al_at ?_ (fun j hj => ?_)
          · rw [S1_95, I_pI, if_neg (by omega), I_pI, if_neg (by omega), I_pI, if_neg (by omega), I_pI, if_neg (by omega), I_pI, if_pos ⟨rfl, rfl⟩]
          · by_cases p : j = (16 * k + i)
            · rw [p, S1_q, I_pI, if_pos ⟨rfl, rfl⟩]
            · rw [S1_n p, I_pI, if_neg (by omega), I_pI, if_neg (by omega), I_pI, if_neg (by omega), I_pI, if_neg (by omega), I_pI, if_neg (by omega)]
              exact rows _ _ (by omega) (by omega)
        have r87 : gi_I (gi_pI (gi_pR (gi_pI (gi_pI (nl h (((gi_I h 87 n) >>> (6 &&& 31)) &&& 7) (((gi_I h 87 n) >>> (3 &&& 31)) &&& 7) ((gi_I h 87 n) &&& 7)) (gi_n h) 3 (0 + 1 : Int32)) ((gi_n h) + 1) (16 * k + i) v) a 9 (if (0 + 1 : Int32) ≤ 0 then none else some (gi_n h))) a 4 ((gi_I h 87 n &&& (-57 : Int32)) ||| (al_ (S1 (gi_I h) (2 * n) (16 * k + i) v (((gi_I h 87 n) >>> (3 &&& 31)) &&& 7)) (2 * n) <<< ((3 : Int32) &&& 31)))) 87 n = gi_I h 87 n := rows _ _ (by omega) (by omega)
        refine mN_0 (A := al_ (S1 (gi_I h) (2 * n) (16 * k + i) v (((gi_I h 87 n) >>> (3 &&& 31)) &&& 7)) (2 * n)) (S_pR (h := gi_pI (gi_pI (nl h (((gi_I h 87 n) >>> (6 &&& 31)) &&& 7) (((gi_I h 87 n) >>> (3 &&& 31)) &&& 7) ((gi_I h 87 n) &&& 7)) (gi_n h) 3 _) (gi_n h + 1) _ v) hSn (by unfold dy at d1; omega)) hn hk hi rfl hw hv (fun j hj => by rw [rows _ _ (by omega) (by omega)]; exact (q3 j hj).1) (by rw [rows _ _ (by omega) (by omega)]; exact z') (by rw [rows _ _ (by omega) (by omega)]; exact aq) w1 ?_ ?_
        · rw [r87]; exact hA5
        rw [r87]
        refine ⟨rfl, ?_⟩
        refine acl_fin (kC := gi_pI (gi_pR (gi_pI (gi_pI (nl h (((gi_I h 87 n) >>> (6 &&& 31)) &&& 7) (((gi_I h 87 n) >>> (3 &&& 31)) &&& 7) ((gi_I h 87 n) &&& 7)) (gi_n h) 3 (0 + 1 : Int32)) ((gi_n h) + 1) (16 * k + i) v) a 9 (if (0 + 1 : Int32) ≤ 0 then none else some (gi_n h))) a 4 ((gi_I h 87 n &&& (-57 : Int32)) ||| (al_ (S1 (gi_I h) (2 * n) (16 * k + i) v (((gi_I h 87 n) >>> (3 &&& 31)) &&& 7)) (2 * n) <<< ((3 : Int32) &&& 31)))) (m := (0 + 1 : Int32)) (G := ((gi_I h 87 n) >>> (3 &&& 31)) &&& 7) (O := ((gi_I h 87 n) >>> (6 &&& 31)) &&& 7) (T := (gi_I h 87 n) &&& 7) (M := (gi_I h 87 n &&& (-57 : Int32)) ||| (al_ (S1 (gi_I h) (2 * n) (16 * k + i) v (((gi_I h 87 n) >>> (3 &&& 31)) &&& 7)) (2 * n) <<< ((3 : Int32) &&& 31))) (X := al_ (S1 (gi_I h) (2 * n) (16 * k + i) v (((gi_I h 87 n) >>> (3 &&& 31)) &&& 7)) (2 * n)) (r := (gi_n h)) (l := 2 * n) (x9 := 9) (f := 0) J hn hr hN (Or.inl rfl) hq rfl rfl (Or.inr ⟨e, rfl⟩) ?n1 ?n2 ?n3 ?cF ?cc ?cR ?cRa ?cI ?dr ?dr1 ?l1 ?l2 ?l3 ?l4 ?l5 ?l6 ?l7 ?l8 ?a4 ?e87 ?e93 ?e94 ?e95 ?e96 ?e97 ?e98 ?ek (fun _ _ => rfl) (fun _ => rfl) rfl rfl (fun _ => rfl) (fun _ => rfl) (fun e => absurd e (by decide)) hv i95 i96 i97 (by rw [if_neg (by rw [e0]; exact fun z => z (all _ hq)), z, if_pos (by rw [v0]; exact of_eq_false w1)]; decide) (by decide) (by decide)
        case n1 => show gi_n h ≤ gi_n h + 2; omega
        case n2 => show gi_n h + 2 ≤ gi_n h + 16; omega
        case n3 => show gi_u h + 37 ≤ gi_u h + 1000; omega
        case cF =>
          intro x hx
          have hx : gi_n h + 2 ≤ x := hx
          show gi_c (nl h (((gi_I h 87 n) >>> (6 &&& 31)) &&& 7) (((gi_I h 87 n) >>> (3 &&& 31)) &&& 7) ((gi_I h 87 n) &&& 7)) x = (0, 0)
          rw [c_nl, if_neg (by omega), if_neg (by omega)]
          exact jF x (by omega)
        case cc =>
          intro x hx
          show gi_c (nl h (((gi_I h 87 n) >>> (6 &&& 31)) &&& 7) (((gi_I h 87 n) >>> (3 &&& 31)) &&& 7) ((gi_I h 87 n) &&& 7)) x = _
          rw [c_nl, if_neg (by omega), if_neg (by omega)]
        case cR =>
          intro x y w1 w2
          simp only [R_pI, R_pR, if_neg w2]
          rw [R_nl, if_neg (by omega), if_neg (by omega)]
        case cRa => simp only [R_pI, R_pR, and_self, ite_true]
        case cI =>
          intro x y w1 w2 w3 w4
          rw [I_pI, if_neg w2, I_pR, I_pI, if_neg (by omega), I_pI, if_neg (by omega), I_nl, if_neg (by omega), if_neg (by omega)]
        case dr => unfold dy; omega
        case dr1 => unfold dy; omega
        case l1 => show gi_c (nl h (((gi_I h 87 n) >>> (6 &&& 31)) &&& 7) (((gi_I h 87 n) >>> (3 &&& 31)) &&& 7) ((gi_I h 87 n) &&& 7)) _ = _; rw [c_nl, if_pos rfl]
        case l2 => show gi_c (nl h (((gi_I h 87 n) >>> (6 &&& 31)) &&& 7) (((gi_I h 87 n) >>> (3 &&& 31)) &&& 7) ((gi_I h 87 n) &&& 7)) _ = _; rw [c_nl, if_neg (by omega), if_pos rfl]
        case l3 => simp only [R_pI, R_pR]; rw [if_neg (by omega), R_nl, if_pos rfl, if_pos rfl]
        case l4 => rw [I_pI, if_neg (by omega), I_pR, I_pI, if_neg (by omega), I_pI, if_neg (by omega), I_nl, if_pos rfl]; rfl
        case l5 => rw [I_pI, if_neg (by omega), I_pR, I_pI, if_neg (by omega), I_pI, if_neg (by omega), I_nl, if_pos rfl]; rfl
        case l6 => rw [I_pI, if_neg (by omega), I_pR, I_pI, if_neg (by omega), I_pI, if_neg (by omega), I_nl, if_pos rfl]; rfl
        case l7 => rw [I_pI, if_neg (by omega), I_pR, I_pI, if_neg (by omega), I_pI, if_pos ⟨rfl, rfl⟩]
        case l8 =>
          intro k' hk'
          rw [I_pI, if_neg (by omega), I_pR, I_pI]
          by_cases p : k' = (16 * k + i)
          · rw [if_pos ⟨rfl, p⟩, if_pos p]
          · rw [if_neg (fun z => p z.2), if_neg p, I_pI, if_neg (by omega), I_nl, if_neg (by omega), if_pos rfl, if_pos hk', all k' hk']
        case a4 => rw [I_pI, if_pos ⟨rfl, rfl⟩]
        case e87 =>
          rw [I_pI, if_pos ⟨rfl, rfl⟩]
        case e93 => simp only [I_pI, I_pR, Nat.reduceEqDiff, false_and, and_false, ite_false, ite_true, eq_self, true_and, and_true, and_self]
        case e94 => simp only [I_pI, I_pR, Nat.reduceEqDiff, false_and, and_false, ite_false, ite_true, eq_self, true_and, and_true, and_self]
        case e95 => simp only [I_pI, I_pR, Nat.reduceEqDiff, false_and, and_false, ite_false, ite_true, eq_self, true_and, and_true, and_self]
        case e96 => simp only [I_pI, I_pR, Nat.reduceEqDiff, false_and, and_false, ite_false, ite_true, eq_self, true_and, and_true, and_self]
        case e97 => simp only [I_pI, I_pR, Nat.reduceEqDiff, false_and, and_false, ite_false, ite_true, eq_self, true_and, and_true, and_self]
        case e98 => simp only [I_pI, I_pR, Nat.reduceEqDiff, false_and, and_false, ite_false, ite_true, eq_self, true_and, and_true, and_self]
        case ek =>
          intro x y w1 w2 w3
          rw [I_pI, if_neg (by omega), I_pI, if_neg (by omega), I_pI, if_neg (by omega), I_pI, if_neg (by omega), I_pI, if_neg (by omega), I_pI, if_neg (by omega), I_pI, if_neg (by omega)]
  | some b =>
    rw [e] at kl
    obtain ⟨g1, g2, g3, g4, g5, g6', g7, g8, g9, g10, g11⟩ := kl.2 b rfl
    obtain ⟨u1, u2, u3, -⟩ := rL_t kl
    have lb := lt b _ _ g3 (by decide)
    have lb1 := lt (b + 1) _ _ g4 (by decide)
    have ab : a ≠ b := ne_c (by rw [c1, g3]; decide)
    have ab1 : a ≠ b + 1 := ne_c (by rw [c1, g4]; decide)
    have ln0 : (gi_I h 93 (2 * n) = 0) = False := eq_false (fun z => by rw [z] at g10; exact absurd g10 (by decide))
    obtain ⟨t, ht, ets⟩ := nI_of (x := gi_I h 93 (2 * n)) (by rw [i32_lt, ti_0]; omega)
    have tr : t ≤ 8 ∧ 0 < t := by rw [ets, nI_toInt ht] at q1 g10; omega
    obtain ⟨s, rfl⟩ : ∃ s, t = s + 1 := ⟨t - 1, by omega⟩
    have es : gi_I h 93 (2 * n) - 1 = nI s := by rw [ets, ← nI_il, Int32.add_sub_cancel]
    have a6' : ∀ k', k' < 32 → (if k' = (16 * k + i) then v else gi_I h (b + 1) k') = S1 (gi_I h) (2 * n) (16 * k + i) v (gi_I h 95 (2 * n)) 98 (32 * (2 * n) + k') := fun k' hk' => by
      unfold S1
      by_cases p : k' = (16 * k + i)
      · rw [if_pos p, if_pos ⟨rfl, by omega⟩]
      · rw [if_neg p, if_neg (by omega), if_neg (by omega)]; exact g11 k' hk'
    have hc25 := fun {d : Nat} {Q : gi_P} => c_25 (d := d) (Q := Q) u1 u2 u3 g5 hq
    rw [g11 _ hq] at hc25
    rcases em_ (v = -1) with w1 | w1
    · rcases em_ (gi_I h 98 (32 * (2 * n) + (16 * k + i)) = -1) with w2 | w2
      · simp only [x65_79, x65_81, x65_82, x65_85, x65_87, x65_89, x65_92, x65_94, x65_96, x65_98, x65_101, x65_102, x65_105, x65_106, x65_109, x65_110, x65_112, x65_114, x65_115, x65_118, x65_120, x65_123, x65_125, x65_126, x65_128, x65_131, x65_133, x65_136, x65_138, x65_141, x65_143, x65_146, x65_148, x65_149, x65_151, x65_152, x65_154, x65_156, x65_158, x65_161, ldI_3, ldI_4, ldI_5, ldI_6, ldI_9, ldR_7, ldR_8, stI_9i, stI_9n, stI_9r, stR_8i, stR_8n, stR_8r, e67, x67_0, x67_1, x67_4, x67_5, x67_8, x67_11, x67_12, x67_15, ldI_1, ldR_0, e68, x68_0, x68_1, x68_2, x68_5, x68_7, x68_9, x68_12, x68_15, x68_16, x68_17, x68_20, x68_23, x68_24, x68_27, x68_30, x68_31, x68_34, x68_37, x68_40, ldI_1, ldR_0, ldR_5, stR_5i, stR_5n, stR_5r, I_pI, R_pI, c_pI, n_pI, u_pI, t_pI, l_pI, I_pR, R_pR, c_pR, n_pR, u_pR, t_pR, l_pR, get_s, Option.toList, List.nil_append, List.cons_append, List.length_nil, List.length_cons, gi_B, true_and, and_true, false_and, and_false, not_true_eq_false, not_false_eq_true, true_implies, false_implies, implies_true, Classical.not_not, ite_true, ite_false, Option.some.injEq, Sum.inl.injEq, exists_eq', eq_self, true_or, or_true, false_or, or_false, Nat.reduceEqDiff, Nat.reduceLeDiff, Nat.reduceAdd, Nat.zero_le, one_ne0, if_neg one_ne0', lt_102_103, lt_102_104, lt_102_105, lt_102_106, lt_99_107, lt_100_107, lt_101_107, lt_103_107, lt_104_107, lt_105_107, lt_106_107, lt_98_99, lt_98_100, lt_98_101, lt_98_106, t0, u1, e, so_ne, hc25, w1, w2, hw]
        refine hQ _ _ hS (fun _ _ _ _ => rfl) ?_
        simp only [x127_78, x127_79, x127_82, x127_83, x127_84, x127_85, x127_86, x127_87, x127_90, x127_91, x127_92, x127_93, x127_95, x127_97, x127_99, x127_100, x127_102, x127_104, x127_105, x127_106, x127_108, x127_109, x127_111, x127_113, x127_116, x127_117, x127_120, x127_122, x127_123, x127_126, x127_128, x127_129, x127_130, x127_133, x127_135, x127_136, x127_137, x127_138, x127_141, x127_143, x127_144, x127_145, x127_146, x127_147, x127_148, x127_149, x127_152, x127_154, x127_155, x127_158, x127_159, x127_160, x127_162, x127_165, x127_168, x127_169, x127_172, x127_173, x127_176, x127_177, x127_178, x127_181, x127_182, x127_183, x127_185, x127_186, x127_187, x127_190, x127_192, x127_193, x127_194, x127_195, x127_196, x127_197, x127_198, x127_201, x127_203, x127_204, x127_205, x127_206, x127_209, x127_211, x127_212, x127_215, x127_216, x127_219, x127_221, x127_222, x127_224, x127_227, x127_229, x127_230, x127_231, x127_234, x127_236, x127_237, x127_240, x127_241, x127_244, x127_246, x127_247, x127_250, x127_251, x127_252, x127_253, x127_254, x127_256, x127_257, x127_258, x127_259, x127_262, x127_264, x127_265, x127_268, x127_269, x127_270, x127_272, x127_273, x127_275, x127_276, x127_277, x127_278, x127_281, x127_283, x127_284, x127_287, x127_288, x127_289, x127_291, x127_292, x127_293, x127_294, x127_297, x127_299, x127_300, x127_303, x127_305, x127_306, x127_309, x127_310, x127_313, x127_315, x127_316, x127_317, x127_318, x127_321, x127_322, x127_325, x127_327, x127_328, x127_329, x127_330, x127_333, x127_335, x127_337, x127_338, x127_339, x127_340, x127_342, x127_345, x127_346, x127_349, x127_351, x127_352, ldI_2, ldI_3, ldI_4, ldI_5, ldI_6, ldI_7, ldI_8, ldR_0, stI_7i, stI_7n, stI_7r, stI_8i, stI_8n, stI_8r, I_pI, R_pI, c_pI, n_pI, u_pI, t_pI, l_pI, I_pR, R_pR, c_pR, n_pR, u_pR, t_pR, l_pR, get_s, Option.toList, List.nil_append, List.cons_append, List.length_nil, List.length_cons, gi_B, tg_1 hS, tg_2 hS, tg_3 hS, tg_4 hS, tg_5 hS, tg_6 hS, tg_7 hS, tg_8 hS, tg_9 hS, tg_10 hS, tg_75 hS, tg_79 hS, tg_80 hS, tg_81 hS, tg_82 hS, tg_83 hS, tg_84 hS, tg_85 hS, tg_86 hS, tg_87 hS, tg_88 hS, tg_89 hS, tg_90 hS, tg_91 hS, tg_92 hS, tg_93 hS, tg_94 hS, tg_95 hS, tg_96 hS, tg_97 hS, tg_98 hS, tg_99 hS, tg_100 hS, tg_101 hS, tg_102 hS, tg_103 hS, tg_104 hS, tg_105 hS, tg_106 hS, tg_107 hS, tg_108 hS, ln_2 hS, ln_3 hS, ln_4 hS, ln_5 hS, ln_7 hS, ln_9 hS, ln_10 hS, ln_75 hS, ln_80 hS, ln_81 hS, ln_82 hS, ln_83 hS, ln_84 hS, ln_85 hS, ln_86 hS, ln_87 hS, ln_88 hS, ln_89 hS, ln_90 hS, ln_91 hS, ln_92 hS, ln_93 hS, ln_94 hS, ln_95 hS, ln_96 hS, ln_97 hS, ln_98 hS, ln_99 hS, ln_100 hS, ln_101 hS, ln_102 hS, ln_103 hS, ln_104 hS, ln_105 hS, ln_106 hS, ln_107 hS, ln_108 hS, rf_1_0 hS, rf_1_1 hS, rf_1_2 hS, rf_1_3 hS, rf_1_4 hS, rf_1_5 hS, rf_1_6 hS, rf_6_0 hS, rf_8_1 hS, rf_8_2 hS, rf_79_1 hS, rf_79_2 hS, rf_79_3 hS, rf_79_4 hS, rf_79_5 hS, rf_79_6 hS, rf_79_7 hS, rf_79_8 hS, rf_79_9 hS, rf_79_10 hS, rf_79_11 hS, rf_79_12 hS, rf_79_13 hS, rf_79_14 hS, rf_79_15 hS, rf_79_16 hS, rf_79_17 hS, rf_79_18 hS, rf_79_19 hS, rf_79_20 hS, rf_79_21 hS, rf_79_22 hS, rf_79_24 hS, rf_79_25 hS, rf_79_26 hS, rf_79_27 hS, rf_79_28 hS, rf_79_29 hS, rf_79_30 hS, true_and, and_true, false_and, and_false, not_true_eq_false, not_false_eq_true, true_implies, false_implies, implies_true, Classical.not_not, ite_true, ite_false, Option.some.injEq, Sum.inl.injEq, exists_eq', eq_self, true_or, or_true, false_or, or_false, Nat.reduceEqDiff, Nat.reduceLeDiff, Nat.reduceAdd, Nat.zero_le, one_ne0, if_neg one_ne0', lt_102_103, lt_102_104, lt_102_105, lt_102_106, lt_99_107, lt_100_107, lt_101_107, lt_103_107, lt_104_107, lt_105_107, lt_106_107, lt_98_99, lt_98_100, lt_98_101, lt_98_106, ix2, ix, a1, a2, b1, b2', v0, e0, hw, w1, w2]
        first | exact jH_up J | exact ⟨rfl, jH_up J⟩
      · simp only [x65_79, x65_81, x65_82, x65_85, x65_87, x65_89, x65_92, x65_94, x65_96, x65_98, x65_101, x65_102, x65_105, x65_106, x65_109, x65_110, x65_112, x65_114, x65_115, x65_118, x65_120, x65_123, x65_125, x65_126, x65_128, x65_131, x65_133, x65_136, x65_138, x65_141, x65_143, x65_146, x65_148, x65_149, x65_151, x65_152, x65_154, x65_156, x65_158, x65_161, ldI_3, ldI_4, ldI_5, ldI_6, ldI_9, ldR_7, ldR_8, stI_9i, stI_9n, stI_9r, stR_8i, stR_8n, stR_8r, e67, x67_0, x67_1, x67_4, x67_5, x67_8, x67_11, x67_12, x67_15, ldI_1, ldR_0, e68, x68_0, x68_1, x68_2, x68_5, x68_7, x68_9, x68_12, x68_15, x68_16, x68_17, x68_20, x68_23, x68_24, x68_27, x68_30, x68_31, x68_34, x68_37, x68_40, ldI_1, ldR_0, ldR_5, stR_5i, stR_5n, stR_5r, I_pI, R_pI, c_pI, n_pI, u_pI, t_pI, l_pI, I_pR, R_pR, c_pR, n_pR, u_pR, t_pR, l_pR, get_s, Option.toList, List.nil_append, List.cons_append, List.length_nil, List.length_cons, gi_B, true_and, and_true, false_and, and_false, not_true_eq_false, not_false_eq_true, true_implies, false_implies, implies_true, Classical.not_not, ite_true, ite_false, Option.some.injEq, Sum.inl.injEq, exists_eq', eq_self, true_or, or_true, false_or, or_false, Nat.reduceEqDiff, Nat.reduceLeDiff, Nat.reduceAdd, Nat.zero_le, one_ne0, if_neg one_ne0', lt_102_103, lt_102_104, lt_102_105, lt_102_106, lt_99_107, lt_100_107, lt_101_107, lt_103_107, lt_104_107, lt_105_107, lt_106_107, lt_98_99, lt_98_100, lt_98_101, lt_98_106, t0, u1, e, so_ne, hc25, w1, w2, hw]
        refine t68_0 (m := gi_I h 93 (2 * n) - 1) (S := S1 (gi_I h) (2 * n) (16 * k + i) v (gi_I h 95 (2 * n))) (l := 2 * n) hw t0 u1 u2 u3 g5 hq ab ab1 ?_ ?_ a6' ?_
        · rw [g9, g11 _ hq, if_pos (of_eq_true w1), if_neg (of_eq_false w2)]
          rw [show (0 : Int32) - 1 = -1 from rfl, ← Int32.sub_eq_add_neg]
        · rw [g7]; unfold S1; rw [if_neg (by omega), if_pos ⟨rfl, rfl⟩]
        · simp only [x65_161, R_pI, c_pI, n_pI, u_pI, t_pI, l_pI, R_pR, c_pR, n_pR, u_pR, t_pR, l_pR, get_s, Option.toList, List.nil_append, List.cons_append, List.length_nil, List.length_cons, gi_B]
          rw [k4]
          have rows : ∀ b' y, 79 ≤ b' → b' < 109 → gi_I (gi_pI (gi_pR (gi_pI (gi_pI (h) b 3 (gi_I h 93 (2 * n) - 1)) (b + 1) (16 * k + i) v) a 9 (if (gi_I h 93 (2 * n) - 1) ≤ 0 then none else some b)) a 4 ((gi_I h 87 n &&& (-57 : Int32)) ||| (al_ (S1 (gi_I h) (2 * n) (16 * k + i) v (gi_I h 95 (2 * n))) (2 * n) <<< ((3 : Int32) &&& 31)))) b' y = gi_I h b' y := fun b' y p1 p2 => by
            unfold dy at d1 g1 g2
            rw [I_pI, if_neg (by omega), I_pR, I_pI, if_neg (by omega), I_pI, if_neg (by omega)]
          refine hQ _ (gi_pI (gi_pR (gi_pI (gi_pI (h) b 3 (gi_I h 93 (2 * n) - 1)) (b + 1) (16 * k + i) v) a 9 (if (gi_I h 93 (2 * n) - 1) ≤ 0 then none else some b)) a 4 ((gi_I h 87 n &&& (-57 : Int32)) ||| (al_ (S1 (gi_I h) (2 * n) (16 * k + i) v (gi_I h 95 (2 * n))) (2 * n) <<< ((3 : Int32) &&& 31)))) (S_pR (h := gi_pI (gi_pI h b 3 _) (b + 1) _ v) hS (by unfold dy at d1; omega)) rows ?_
          have hv1 : v = -1 := of_eq_true w1
          have hA5 : al_ (gi_I (gi_pI (gi_pI (gi_pI (gi_pR (gi_pI (gi_pI (h) b 3 (gi_I h 93 (2 * n) - 1)) (b + 1) (16 * k + i) v) a 9 (if (gi_I h 93 (2 * n) - 1) ≤ 0 then none else some b)) a 4 ((gi_I h 87 n &&& (-57 : Int32)) ||| (al_ (S1 (gi_I h) (2 * n) (16 * k + i) v (gi_I h 95 (2 * n))) (2 * n) <<< ((3 : Int32) &&& 31)))) 98 (32 * (2 * n) + (16 * k + i)) (-1)) 93 (2 * n) (gi_I h 93 (2 * n) - 1))) (2 * n) = al_ (S1 (gi_I h) (2 * n) (16 * k + i) v (gi_I h 95 (2 * n))) (2 * n) := by
            refine al_at ?_ (fun j hj => ?_)
            · rw [S1_95, I_pI, if_neg (by omega), I_pI, if_neg (by omega)]
              exact rows _ _ (by omega) (by omega)
            · by_cases p : j = (16 * k + i)
              · rw [p, S1_q, I_pI, if_neg (by omega), I_pI, if_pos ⟨rfl, rfl⟩, hv1]
              · rw [S1_n p, I_pI, if_neg (by omega), I_pI, if_neg (by omega)]
                exact rows _ _ (by omega) (by omega)
          have m93 : gi_I (gi_pI (gi_pR (gi_pI (gi_pI (h) b 3 (gi_I h 93 (2 * n) - 1)) (b + 1) (16 * k + i) v) a 9 (if (gi_I h 93 (2 * n) - 1) ≤ 0 then none else some b)) a 4 ((gi_I h 87 n &&& (-57 : Int32)) ||| (al_ (S1 (gi_I h) (2 * n) (16 * k + i) v (gi_I h 95 (2 * n))) (2 * n) <<< ((3 : Int32) &&& 31)))) 93 (2 * n) = gi_I h 93 (2 * n) := rows _ _ (by omega) (by omega)
          refine mR_0 (A := al_ (S1 (gi_I h) (2 * n) (16 * k + i) v (gi_I h 95 (2 * n))) (2 * n)) (S_pR (h := gi_pI (gi_pI h b 3 _) (b + 1) _ v) hS (by unfold dy at d1; omega)) hn hk hi rfl hw hv (fun j hj => by rw [rows _ _ (by omega) (by omega)]; exact (q3 j hj).1) (by rw [rows _ _ (by omega) (by omega)]; exact w2) w1 ?_ ?_ ?_
          · rw [m93]; exact hA5
          · intro p
            rw [m93]
            refine ⟨rfl, ?_⟩
            rw [rows 87 n (by omega) (by omega)]
            refine acl_fin (kC := gi_pI (gi_pR (gi_pI (gi_pI (h) b 3 (gi_I h 93 (2 * n) - 1)) (b + 1) (16 * k + i) v) a 9 (if (gi_I h 93 (2 * n) - 1) ≤ 0 then none else some b)) a 4 ((gi_I h 87 n &&& (-57 : Int32)) ||| (al_ (S1 (gi_I h) (2 * n) (16 * k + i) v (gi_I h 95 (2 * n))) (2 * n) <<< ((3 : Int32) &&& 31)))) (m := (gi_I h 93 (2 * n) - 1)) (G := gi_I h 95 (2 * n)) (O := gi_I h 96 (2 * n)) (T := gi_I h 97 (2 * n)) (M := (gi_I h 87 n &&& (-57 : Int32)) ||| (al_ (S1 (gi_I h) (2 * n) (16 * k + i) v (gi_I h 95 (2 * n))) (2 * n) <<< ((3 : Int32) &&& 31))) (X := al_ (S1 (gi_I h) (2 * n) (16 * k + i) v (gi_I h 95 (2 * n))) (2 * n)) (r := b) (l := 2 * n) (x9 := 9) (f := 0) J hn hr hN (Or.inl rfl) hq rfl rfl (Or.inl e) ?n1 ?n2 ?n3 ?cF ?cc ?cR ?cRa ?cI ?dr ?dr1 ?l1 ?l2 ?l3 ?l4 ?l5 ?l6 ?l7 ?l8 ?a4 ?e87 ?e93 ?e94 ?e95 ?e96 ?e97 ?e98 ?ek (fun _ _ => rfl) (fun _ => rfl) rfl rfl (fun _ => rfl) (fun _ => rfl) (fun e => absurd e (by decide)) hv q2.1 q2.2.1 q2.2.2 (by rw [if_pos (by rw [e0]; exact of_eq_false w2), if_neg (by rw [v0]; exact fun z => z hv1), es, ets, nI_toInt (by omega), nI_toInt (by omega)]; omega) (by rw [es, nI_toInt (by omega)]; omega) (by rw [es, nI_toInt (by omega)]; omega)
            case n1 => show gi_n h ≤ gi_n h; omega
            case n2 => show gi_n h ≤ gi_n h + 16; omega
            case n3 => show gi_u h ≤ gi_u h + 1000; omega
            case cF => exact jF
            case cc => exact fun _ _ => rfl
            case cR =>
              intro x y w1 w2
              simp only [R_pI, R_pR, if_neg w2]
            case cRa => simp only [R_pI, R_pR, and_self, ite_true]
            case cI =>
              intro x y w1 w2 w3 w4
              rw [I_pI, if_neg w2, I_pR, I_pI, if_neg (by omega), I_pI, if_neg (by omega)]
            case dr => exact g1
            case dr1 => exact g2
            case l1 => exact g3
            case l2 => exact g4
            case l3 => simp only [R_pI, R_pR]; rw [if_neg (by omega)]; exact g5
            case l4 => rw [I_pI, if_neg (by omega), I_pR, I_pI, if_neg (by omega), I_pI, if_neg (by omega)]; exact g6'
            case l5 => rw [I_pI, if_neg (by omega), I_pR, I_pI, if_neg (by omega), I_pI, if_neg (by omega)]; exact g7
            case l6 => rw [I_pI, if_neg (by omega), I_pR, I_pI, if_neg (by omega), I_pI, if_neg (by omega)]; exact g8
            case l7 => rw [I_pI, if_neg (by omega), I_pR, I_pI, if_neg (by omega), I_pI, if_pos ⟨rfl, rfl⟩]
            case l8 =>
              intro k' hk'
              rw [I_pI, if_neg (by omega), I_pR, I_pI]
              by_cases p : k' = (16 * k + i)
              · rw [if_pos ⟨rfl, p⟩, if_pos p]
              · rw [if_neg (fun z => p z.2), if_neg p, I_pI, if_neg (by omega), g11 k' hk']
            case a4 => rw [I_pI, if_pos ⟨rfl, rfl⟩]
            case e87 =>
              rw [I_pI, if_pos ⟨rfl, rfl⟩]
            case e93 => simp only [I_pI, I_pR, Nat.reduceEqDiff, false_and, and_false, ite_false, ite_true, eq_self, true_and, and_true, and_self]
            case e94 => simp only [I_pI, I_pR, Nat.reduceEqDiff, false_and, and_false, ite_false, ite_true, eq_self, true_and, and_true, and_self]
            case e95 => rw [I_pI, if_neg (by omega), I_pI, if_neg (by omega), I_pI, if_neg (by omega), I_pI, if_neg (by omega)]; exact rows _ _ (by omega) (by omega)
            case e96 => rw [I_pI, if_neg (by omega), I_pI, if_neg (by omega), I_pI, if_neg (by omega), I_pI, if_neg (by omega)]; exact rows _ _ (by omega) (by omega)
            case e97 => rw [I_pI, if_neg (by omega), I_pI, if_neg (by omega), I_pI, if_neg (by omega), I_pI, if_neg (by omega)]; exact rows _ _ (by omega) (by omega)
            case e98 => rw [hv1]; simp only [I_pI, I_pR, Nat.reduceEqDiff, false_and, and_false, ite_false, ite_true, eq_self, true_and, and_true, and_self]
            case ek =>
              intro x y w1 w2 w3
              rw [I_pI, if_neg (by omega), I_pI, if_neg (by omega), I_pI, if_neg (by omega), I_pI, if_neg (by omega)]
          · intro p
            rw [m93] at p ⊢
            refine ⟨rfl, ?_⟩
            have mz : gi_I h 93 (2 * n) - 1 = 0 := by
              have := of_eq_true p
              rw [es, i32_le, nI_toInt (by omega), ti_0] at this
              rw [es, show s = 0 by omega]; rfl
            have s0 : s = 0 := by
              have := of_eq_true p
              rw [es, i32_le, nI_toInt (by omega), ti_0] at this
              omega
            have aG : al_ (S1 (gi_I h) (2 * n) (16 * k + i) v (gi_I h 95 (2 * n))) (2 * n) = gi_I h 95 (2 * n) := by
              have ct := ct_up (f := fun j => decide (0 ≤ gi_I h 98 (32 * (2 * n) + j))) (g := fun j => decide (0 ≤ S1 (gi_I h) (2 * n) (16 * k + i) v (gi_I h 95 (2 * n)) 98 (32 * (2 * n) + j))) (q := (16 * k + i)) 32 0 (by omega) (by omega) (fun j _ _ hj => by rw [S1_n hj])
              have f1 : decide (0 ≤ gi_I h 98 (32 * (2 * n) + (16 * k + i))) = true := by rw [decide_eq_true_iff, e0]; exact of_eq_false w2
              have f2 : decide (0 ≤ S1 (gi_I h) (2 * n) (16 * k + i) v (gi_I h 95 (2 * n)) 98 (32 * (2 * n) + (16 * k + i))) = false := by
                rw [decide_eq_false_iff_not, S1_q, hv1]; decide
              have c1' := (q4 hz0).1
              rw [ets, nI_clamp (by omega)] at c1'
              simp only [f1, f2, cond_true, cond_false] at ct
              have cz : gi_ct (fun j => decide (0 ≤ S1 (gi_I h) (2 * n) (16 * k + i) v (gi_I h 95 (2 * n)) 98 (32 * (2 * n) + j))) 0 32 = 0 := by omega
              rw [al_0]
              · exact S1_95
              · intro j hj
                have c2' := ct_0 32 0 cz j (by omega) (by omega)
                rw [decide_eq_false_iff_not] at c2'
                have r1 : -1 ≤ (S1 (gi_I h) (2 * n) (16 * k + i) v (gi_I h 95 (2 * n)) 98 (32 * (2 * n) + j)).toInt := by
                  by_cases pj : j = (16 * k + i)
                  · rw [pj, S1_q]; exact hv.1
                  · rw [S1_n pj]; exact (q3 j hj).1
                rw [ge_m1 r1] at c2'
                exact Classical.not_not.mp c2'
            rw [rows 87 n (by omega) (by omega), rows 95 (2 * n) (by omega) (by omega)]
            refine acl_fin (kC := gi_pI (gi_pR (gi_pI (gi_pI (h) b 3 (gi_I h 93 (2 * n) - 1)) (b + 1) (16 * k + i) v) a 9 (if (gi_I h 93 (2 * n) - 1) ≤ 0 then none else some b)) a 4 ((gi_I h 87 n &&& (-57 : Int32)) ||| (al_ (S1 (gi_I h) (2 * n) (16 * k + i) v (gi_I h 95 (2 * n))) (2 * n) <<< ((3 : Int32) &&& 31)))) (m := (gi_I h 93 (2 * n) - 1)) (G := gi_I h 95 (2 * n)) (O := gi_I h 96 (2 * n)) (T := gi_I h 97 (2 * n)) (M := (gi_I h 87 n &&& (-57 : Int32)) ||| (al_ (S1 (gi_I h) (2 * n) (16 * k + i) v (gi_I h 95 (2 * n))) (2 * n) <<< ((3 : Int32) &&& 31))) (X := gi_I h 94 (2 * n)) (r := b) (l := 2 * n) (x9 := 9) (f := 0) J hn hr hN (Or.inl rfl) hq rfl rfl (Or.inl e) ?n1 ?n2 ?n3 ?cF ?cc ?cR ?cRa ?cI ?dr ?dr1 ?l1 ?l2 ?l3 ?l4 ?l5 ?l6 ?l7 ?l8 ?a4 ?e87 ?e93 ?e94 ?e95 ?e96 ?e97 ?e98 ?ek (fun _ _ => rfl) (fun _ => rfl) rfl rfl (fun z => absurd mz z) (fun _ => rfl) (fun e => absurd e (by decide)) hv q2.1 q2.2.1 q2.2.2 (by rw [if_pos (by rw [e0]; exact of_eq_false w2), if_neg (by rw [v0]; exact fun z => z hv1), es, ets, nI_toInt (by omega), nI_toInt (by omega)]; omega) (by rw [es, nI_toInt (by omega)]; omega) (by rw [es, nI_toInt (by omega)]; omega)
            case n1 => show gi_n h ≤ gi_n h; omega
            case n2 => show gi_n h ≤ gi_n h + 16; omega
            case n3 => show gi_u h ≤ gi_u h + 1000; omega
            case cF => exact jF
            case cc => exact fun _ _ => rfl
            case cR =>
              intro x y w1 w2
              simp only [R_pI, R_pR, if_neg w2]
            case cRa => simp only [R_pI, R_pR, and_self, ite_true]
            case cI =>
              intro x y w1 w2 w3 w4
              rw [I_pI, if_neg w2, I_pR, I_pI, if_neg (by omega), I_pI, if_neg (by omega)]
            case dr => exact g1
            case dr1 => exact g2
            case l1 => exact g3
            case l2 => exact g4
            case l3 => simp only [R_pI, R_pR]; rw [if_neg (by omega)]; exact g5
            case l4 => rw [I_pI, if_neg (by omega), I_pR, I_pI, if_neg (by omega), I_pI, if_neg (by omega)]; exact g6'
            case l5 => rw [I_pI, if_neg (by omega), I_pR, I_pI, if_neg (by omega), I_pI, if_neg (by omega)]; exact g7
            case l6 => rw [I_pI, if_neg (by omega), I_pR, I_pI, if_neg (by omega), I_pI, if_neg (by omega)]; exact g8
            case l7 => rw [I_pI, if_neg (by omega), I_pR, I_pI, if_neg (by omega), I_pI, if_pos ⟨rfl, rfl⟩]
            case l8 =>
              intro k' hk'
              rw [I_pI, if_neg (by omega), I_pR, I_pI]
              by_cases p : k' = (16 * k + i)
              · rw [if_pos ⟨rfl, p⟩, if_pos p]
              · rw [if_neg (fun z => p z.2), if_neg p, I_pI, if_neg (by omega), g11 k' hk']
            case a4 => rw [I_pI, if_pos ⟨rfl, rfl⟩]
            case e87 =>
              rw [I_pI, if_pos ⟨rfl, rfl⟩, aG]
            case e93 => simp only [I_pI, I_pR, Nat.reduceEqDiff, false_and, and_false, ite_false, ite_true, eq_self, true_and, and_true, and_self]
            case e94 => rw [I_pI, if_neg (by omega), I_pI, if_neg (by omega), I_pI, if_neg (by omega)]; exact rows _ _ (by omega) (by omega)
            case e95 => rw [I_pI, if_neg (by omega), I_pI, if_neg (by omega), I_pI, if_neg (by omega)]; exact rows _ _ (by omega) (by omega)
            case e96 => rw [I_pI, if_neg (by omega), I_pI, if_neg (by omega), I_pI, if_neg (by omega)]; exact rows _ _ (by omega) (by omega)
            case e97 => rw [I_pI, if_neg (by omega), I_pI, if_neg (by omega), I_pI, if_neg (by omega)]; exact rows _ _ (by omega) (by omega)
            case e98 => rw [hv1]; simp only [I_pI, I_pR, Nat.reduceEqDiff, false_and, and_false, ite_false, ite_true, eq_self, true_and, and_true, and_self]
            case ek =>
              intro x y w1 w2 w3
              rw [I_pI, if_neg (by omega), I_pI, if_neg (by omega), I_pI, if_neg (by omega)]

    · rcases em_ (gi_I h 98 (32 * (2 * n) + (16 * k + i)) = -1) with w2 | w2
      · rcases em_ (gi_I h 93 (2 * n) = 8) with w3 | w3
        · have w4 : (gi_I h 93 (2 * n) < 8) = False := by rw [of_eq_true w3]; decide
          simp only [x65_79, x65_81, x65_82, x65_85, x65_87, x65_89, x65_92, x65_94, x65_96, x65_98, x65_101, x65_102, x65_105, x65_106, x65_109, x65_110, x65_112, x65_114, x65_115, x65_118, x65_120, x65_123, x65_125, x65_126, x65_128, x65_131, x65_133, x65_136, x65_138, x65_141, x65_143, x65_146, x65_148, x65_149, x65_151, x65_152, x65_154, x65_156, x65_158, x65_161, ldI_3, ldI_4, ldI_5, ldI_6, ldI_9, ldR_7, ldR_8, stI_9i, stI_9n, stI_9r, stR_8i, stR_8n, stR_8r, e67, x67_0, x67_1, x67_4, x67_5, x67_8, x67_11, x67_12, x67_15, ldI_1, ldR_0, e68, x68_0, x68_1, x68_2, x68_5, x68_7, x68_9, x68_12, x68_15, x68_16, x68_17, x68_20, x68_23, x68_24, x68_27, x68_30, x68_31, x68_34, x68_37, x68_40, ldI_1, ldR_0, ldR_5, stR_5i, stR_5n, stR_5r, I_pI, R_pI, c_pI, n_pI, u_pI, t_pI, l_pI, I_pR, R_pR, c_pR, n_pR, u_pR, t_pR, l_pR, get_s, Option.toList, List.nil_append, List.cons_append, List.length_nil, List.length_cons, gi_B, true_and, and_true, false_and, and_false, not_true_eq_false, not_false_eq_true, true_implies, false_implies, implies_true, Classical.not_not, ite_true, ite_false, Option.some.injEq, Sum.inl.injEq, exists_eq', eq_self, true_or, or_true, false_or, or_false, Nat.reduceEqDiff, Nat.reduceLeDiff, Nat.reduceAdd, Nat.zero_le, one_ne0, if_neg one_ne0', lt_102_103, lt_102_104, lt_102_105, lt_102_106, lt_99_107, lt_100_107, lt_101_107, lt_103_107, lt_104_107, lt_105_107, lt_106_107, lt_98_99, lt_98_100, lt_98_101, lt_98_106, t0, u1, e, so_ne, hc25, w1, w2, w4, g9, hw]
          refine hQ _ _ hS (fun _ _ _ _ => rfl) ?_
          simp only [x127_78, x127_79, x127_82, x127_83, x127_84, x127_85, x127_86, x127_87, x127_90, x127_91, x127_92, x127_93, x127_95, x127_97, x127_99, x127_100, x127_102, x127_104, x127_105, x127_106, x127_108, x127_109, x127_111, x127_113, x127_116, x127_117, x127_120, x127_122, x127_123, x127_126, x127_128, x127_129, x127_130, x127_133, x127_135, x127_136, x127_137, x127_138, x127_141, x127_143, x127_144, x127_145, x127_146, x127_147, x127_148, x127_149, x127_152, x127_154, x127_155, x127_158, x127_159, x127_160, x127_162, x127_165, x127_168, x127_169, x127_172, x127_173, x127_176, x127_177, x127_178, x127_181, x127_182, x127_183, x127_185, x127_186, x127_187, x127_190, x127_192, x127_193, x127_194, x127_195, x127_196, x127_197, x127_198, x127_201, x127_203, x127_204, x127_205, x127_206, x127_209, x127_211, x127_212, x127_215, x127_216, x127_219, x127_221, x127_222, x127_224, x127_227, x127_229, x127_230, x127_231, x127_234, x127_236, x127_237, x127_240, x127_241, x127_244, x127_246, x127_247, x127_250, x127_251, x127_252, x127_253, x127_254, x127_256, x127_257, x127_258, x127_259, x127_262, x127_264, x127_265, x127_268, x127_269, x127_270, x127_272, x127_273, x127_275, x127_276, x127_277, x127_278, x127_281, x127_283, x127_284, x127_287, x127_288, x127_289, x127_291, x127_292, x127_293, x127_294, x127_297, x127_299, x127_300, x127_303, x127_305, x127_306, x127_309, x127_310, x127_313, x127_315, x127_316, x127_317, x127_318, x127_321, x127_322, x127_325, x127_327, x127_328, x127_329, x127_330, x127_333, x127_335, x127_337, x127_338, x127_339, x127_340, x127_342, x127_345, x127_346, x127_349, x127_351, x127_352, ldI_2, ldI_3, ldI_4, ldI_5, ldI_6, ldI_7, ldI_8, ldR_0, stI_7i, stI_7n, stI_7r, stI_8i, stI_8n, stI_8r, I_pI, R_pI, c_pI, n_pI, u_pI, t_pI, l_pI, I_pR, R_pR, c_pR, n_pR, u_pR, t_pR, l_pR, get_s, Option.toList, List.nil_append, List.cons_append, List.length_nil, List.length_cons, gi_B, tg_1 hS, tg_2 hS, tg_3 hS, tg_4 hS, tg_5 hS, tg_6 hS, tg_7 hS, tg_8 hS, tg_9 hS, tg_10 hS, tg_75 hS, tg_79 hS, tg_80 hS, tg_81 hS, tg_82 hS, tg_83 hS, tg_84 hS, tg_85 hS, tg_86 hS, tg_87 hS, tg_88 hS, tg_89 hS, tg_90 hS, tg_91 hS, tg_92 hS, tg_93 hS, tg_94 hS, tg_95 hS, tg_96 hS, tg_97 hS, tg_98 hS, tg_99 hS, tg_100 hS, tg_101 hS, tg_102 hS, tg_103 hS, tg_104 hS, tg_105 hS, tg_106 hS, tg_107 hS, tg_108 hS, ln_2 hS, ln_3 hS, ln_4 hS, ln_5 hS, ln_7 hS, ln_9 hS, ln_10 hS, ln_75 hS, ln_80 hS, ln_81 hS, ln_82 hS, ln_83 hS, ln_84 hS, ln_85 hS, ln_86 hS, ln_87 hS, ln_88 hS, ln_89 hS, ln_90 hS, ln_91 hS, ln_92 hS, ln_93 hS, ln_94 hS, ln_95 hS, ln_96 hS, ln_97 hS, ln_98 hS, ln_99 hS, ln_100 hS, ln_101 hS, ln_102 hS, ln_103 hS, ln_104 hS, ln_105 hS, ln_106 hS, ln_107 hS, ln_108 hS, rf_1_0 hS, rf_1_1 hS, rf_1_2 hS, rf_1_3 hS, rf_1_4 hS, rf_1_5 hS, rf_1_6 hS, rf_6_0 hS, rf_8_1 hS, rf_8_2 hS, rf_79_1 hS, rf_79_2 hS, rf_79_3 hS, rf_79_4 hS, rf_79_5 hS, rf_79_6 hS, rf_79_7 hS, rf_79_8 hS, rf_79_9 hS, rf_79_10 hS, rf_79_11 hS, rf_79_12 hS, rf_79_13 hS, rf_79_14 hS, rf_79_15 hS, rf_79_16 hS, rf_79_17 hS, rf_79_18 hS, rf_79_19 hS, rf_79_20 hS, rf_79_21 hS, rf_79_22 hS, rf_79_24 hS, rf_79_25 hS, rf_79_26 hS, rf_79_27 hS, rf_79_28 hS, rf_79_29 hS, rf_79_30 hS, true_and, and_true, false_and, and_false, not_true_eq_false, not_false_eq_true, true_implies, false_implies, implies_true, Classical.not_not, ite_true, ite_false, Option.some.injEq, Sum.inl.injEq, exists_eq', eq_self, true_or, or_true, false_or, or_false, Nat.reduceEqDiff, Nat.reduceLeDiff, Nat.reduceAdd, Nat.zero_le, one_ne0, if_neg one_ne0', lt_102_103, lt_102_104, lt_102_105, lt_102_106, lt_99_107, lt_100_107, lt_101_107, lt_103_107, lt_104_107, lt_105_107, lt_106_107, lt_98_99, lt_98_100, lt_98_101, lt_98_106, ix2, ix, a1, a2, b1, b2', v0, e0, hw, w1, w2, w3]
          first | exact jH_up J | exact ⟨rfl, jH_up J⟩
        · have s8 : s + 1 < 8 := Nat.lt_of_not_le (fun z => of_eq_false w3 (by rw [ets, show s + 1 = 8 by omega]; rfl))
          have w4 : (gi_I h 93 (2 * n) < 8) = True := eq_true (by rw [ets, i32_lt, ti_8, nI_toInt (by omega)]; omega)
          simp only [x65_79, x65_81, x65_82, x65_85, x65_87, x65_89, x65_92, x65_94, x65_96, x65_98, x65_101, x65_102, x65_105, x65_106, x65_109, x65_110, x65_112, x65_114, x65_115, x65_118, x65_120, x65_123, x65_125, x65_126, x65_128, x65_131, x65_133, x65_136, x65_138, x65_141, x65_143, x65_146, x65_148, x65_149, x65_151, x65_152, x65_154, x65_156, x65_158, x65_161, ldI_3, ldI_4, ldI_5, ldI_6, ldI_9, ldR_7, ldR_8, stI_9i, stI_9n, stI_9r, stR_8i, stR_8n, stR_8r, e67, x67_0, x67_1, x67_4, x67_5, x67_8, x67_11, x67_12, x67_15, ldI_1, ldR_0, e68, x68_0, x68_1, x68_2, x68_5, x68_7, x68_9, x68_12, x68_15, x68_16, x68_17, x68_20, x68_23, x68_24, x68_27, x68_30, x68_31, x68_34, x68_37, x68_40, ldI_1, ldR_0, ldR_5, stR_5i, stR_5n, stR_5r, I_pI, R_pI, c_pI, n_pI, u_pI, t_pI, l_pI, I_pR, R_pR, c_pR, n_pR, u_pR, t_pR, l_pR, get_s, Option.toList, List.nil_append, List.cons_append, List.length_nil, List.length_cons, gi_B, true_and, and_true, false_and, and_false, not_true_eq_false, not_false_eq_true, true_implies, false_implies, implies_true, Classical.not_not, ite_true, ite_false, Option.some.injEq, Sum.inl.injEq, exists_eq', eq_self, true_or, or_true, false_or, or_false, Nat.reduceEqDiff, Nat.reduceLeDiff, Nat.reduceAdd, Nat.zero_le, one_ne0, if_neg one_ne0', lt_102_103, lt_102_104, lt_102_105, lt_102_106, lt_99_107, lt_100_107, lt_101_107, lt_103_107, lt_104_107, lt_105_107, lt_106_107, lt_98_99, lt_98_100, lt_98_101, lt_98_106, t0, u1, e, so_ne, hc25, w1, w2, w4, g9, hw]
          refine t68_0 (m := gi_I h 93 (2 * n) + 1) (S := S1 (gi_I h) (2 * n) (16 * k + i) v (gi_I h 95 (2 * n))) (l := 2 * n) hw t0 u1 u2 u3 g5 hq ab ab1 ?_ ?_ a6' ?_
          · rw [g9, g11 _ hq]
            rw [if_neg (of_eq_false w1), if_pos (of_eq_true w2)]; rfl
          · rw [g7]; unfold S1; rw [if_neg (by omega), if_pos ⟨rfl, rfl⟩]
          · simp only [x65_161, R_pI, c_pI, n_pI, u_pI, t_pI, l_pI, R_pR, c_pR, n_pR, u_pR, t_pR, l_pR, get_s, Option.toList, List.nil_append, List.cons_append, List.length_nil, List.length_cons, gi_B]
            rw [k4]
            have rows : ∀ b' y, 79 ≤ b' → b' < 109 → gi_I (gi_pI (gi_pR (gi_pI (gi_pI (h) b 3 (gi_I h 93 (2 * n) + 1)) (b + 1) (16 * k + i) v) a 9 (if (gi_I h 93 (2 * n) + 1) ≤ 0 then none else some b)) a 4 ((gi_I h 87 n &&& (-57 : Int32)) ||| (al_ (S1 (gi_I h) (2 * n) (16 * k + i) v (gi_I h 95 (2 * n))) (2 * n) <<< ((3 : Int32) &&& 31)))) b' y = gi_I h b' y := fun b' y p1 p2 => by
              unfold dy at d1 g1 g2
              rw [I_pI, if_neg (by omega), I_pR, I_pI, if_neg (by omega), I_pI, if_neg (by omega)]
            refine hQ _ (gi_pI (gi_pR (gi_pI (gi_pI (h) b 3 (gi_I h 93 (2 * n) + 1)) (b + 1) (16 * k + i) v) a 9 (if (gi_I h 93 (2 * n) + 1) ≤ 0 then none else some b)) a 4 ((gi_I h 87 n &&& (-57 : Int32)) ||| (al_ (S1 (gi_I h) (2 * n) (16 * k + i) v (gi_I h 95 (2 * n))) (2 * n) <<< ((3 : Int32) &&& 31)))) (S_pR (h := gi_pI (gi_pI h b 3 _) (b + 1) _ v) hS (by unfold dy at d1; omega)) rows ?_
            have hA5 : al_ (gi_I (gi_pI (gi_pI (gi_pI (gi_pR (gi_pI (gi_pI (h) b 3 (gi_I h 93 (2 * n) + 1)) (b + 1) (16 * k + i) v) a 9 (if (gi_I h 93 (2 * n) + 1) ≤ 0 then none else some b)) a 4 ((gi_I h 87 n &&& (-57 : Int32)) ||| (al_ (S1 (gi_I h) (2 * n) (16 * k + i) v (gi_I h 95 (2 * n))) (2 * n) <<< ((3 : Int32) &&& 31)))) 93 (2 * n) (gi_I h 93 (2 * n) + 1)) 98 (32 * (2 * n) + (16 * k + i)) v)) (2 * n) = al_ (S1 (gi_I h) (2 * n) (16 * k + i) v (gi_I h 95 (2 * n))) (2 * n) := by
              refine al_at ?_ (fun j hj => ?_)
              · rw [S1_95, I_pI, if_neg (by omega), I_pI, if_neg (by omega)]
                exact rows _ _ (by omega) (by omega)
              · by_cases p : j = (16 * k + i)
                · rw [p, S1_q, I_pI, if_pos ⟨rfl, rfl⟩]
                · rw [S1_n p, I_pI, if_neg (by omega), I_pI, if_neg (by omega)]
                  exact rows _ _ (by omega) (by omega)
            refine mE_0 (m := gi_I h 93 (2 * n) + 1) (A := al_ (S1 (gi_I h) (2 * n) (16 * k + i) v (gi_I h 95 (2 * n))) (2 * n)) (S_pR (h := gi_pI (gi_pI h b 3 _) (b + 1) _ v) hS (by unfold dy at d1; omega)) hn hk hi rfl hw hv (fun j hj => by rw [rows _ _ (by omega) (by omega)]; exact (q3 j hj).1) (by rw [rows _ _ (by omega) (by omega)]; exact ln0) ?_ w1 hA5 ?_
            · rw [rows _ _ (by omega) (by omega), rows _ _ (by omega) (by omega)]
              exact Or.inl ⟨w2, w3, rfl⟩
            · refine ⟨rfl, ?_⟩
              rw [rows 87 n (by omega) (by omega)]
              refine acl_fin (kC := gi_pI (gi_pR (gi_pI (gi_pI (h) b 3 (gi_I h 93 (2 * n) + 1)) (b + 1) (16 * k + i) v) a 9 (if (gi_I h 93 (2 * n) + 1) ≤ 0 then none else some b)) a 4 ((gi_I h 87 n &&& (-57 : Int32)) ||| (al_ (S1 (gi_I h) (2 * n) (16 * k + i) v (gi_I h 95 (2 * n))) (2 * n) <<< ((3 : Int32) &&& 31)))) (m := (gi_I h 93 (2 * n) + 1)) (G := gi_I h 95 (2 * n)) (O := gi_I h 96 (2 * n)) (T := gi_I h 97 (2 * n)) (M := (gi_I h 87 n &&& (-57 : Int32)) ||| (al_ (S1 (gi_I h) (2 * n) (16 * k + i) v (gi_I h 95 (2 * n))) (2 * n) <<< ((3 : Int32) &&& 31))) (X := al_ (S1 (gi_I h) (2 * n) (16 * k + i) v (gi_I h 95 (2 * n))) (2 * n)) (r := b) (l := 2 * n) (x9 := 9) (f := 0) J hn hr hN (Or.inl rfl) hq rfl rfl (Or.inl e) ?n1 ?n2 ?n3 ?cF ?cc ?cR ?cRa ?cI ?dr ?dr1 ?l1 ?l2 ?l3 ?l4 ?l5 ?l6 ?l7 ?l8 ?a4 ?e87 ?e93 ?e94 ?e95 ?e96 ?e97 ?e98 ?ek (fun _ _ => rfl) (fun _ => rfl) rfl rfl (fun _ => rfl) (fun _ => rfl) (fun e => absurd e (by decide)) hv q2.1 q2.2.1 q2.2.2 (by rw [if_neg (by rw [e0]; exact fun z => z (of_eq_true w2)), if_pos (by rw [v0]; exact of_eq_false w1), ets, nI_il, nI_toInt (by omega), nI_toInt (by omega)]; omega) (by rw [ets, nI_il, nI_toInt (by omega)]; omega) (by rw [ets, nI_il, nI_toInt (by omega)]; omega)
              case n1 => show gi_n h ≤ gi_n h; omega
              case n2 => show gi_n h ≤ gi_n h + 16; omega
              case n3 => show gi_u h ≤ gi_u h + 1000; omega
              case cF => exact jF
              case cc => exact fun _ _ => rfl
              case cR =>
                intro x y w1 w2
                simp only [R_pI, R_pR, if_neg w2]
              case cRa => simp only [R_pI, R_pR, and_self, ite_true]
              case cI =>
                intro x y w1 w2 w3 w4
                rw [I_pI, if_neg w2, I_pR, I_pI, if_neg (by omega), I_pI, if_neg (by omega)]
              case dr => exact g1
              case dr1 => exact g2
              case l1 => exact g3
              case l2 => exact g4
              case l3 => simp only [R_pI, R_pR]; rw [if_neg (by omega)]; exact g5
              case l4 => rw [I_pI, if_neg (by omega), I_pR, I_pI, if_neg (by omega), I_pI, if_neg (by omega)]; exact g6'
              case l5 => rw [I_pI, if_neg (by omega), I_pR, I_pI, if_neg (by omega), I_pI, if_neg (by omega)]; exact g7
              case l6 => rw [I_pI, if_neg (by omega), I_pR, I_pI, if_neg (by omega), I_pI, if_neg (by omega)]; exact g8
              case l7 => rw [I_pI, if_neg (by omega), I_pR, I_pI, if_neg (by omega), I_pI, if_pos ⟨rfl, rfl⟩]
              case l8 =>
                intro k' hk'
                rw [I_pI, if_neg (by omega), I_pR, I_pI]
                by_cases p : k' = (16 * k + i)
                · rw [if_pos ⟨rfl, p⟩, if_pos p]
                · rw [if_neg (fun z => p z.2), if_neg p, I_pI, if_neg (by omega), g11 k' hk']
              case a4 => rw [I_pI, if_pos ⟨rfl, rfl⟩]
              case e87 =>
                rw [I_pI, if_pos ⟨rfl, rfl⟩]
              case e93 => simp only [I_pI, I_pR, Nat.reduceEqDiff, false_and, and_false, ite_false, ite_true, eq_self, true_and, and_true, and_self]
              case e94 => simp only [I_pI, I_pR, Nat.reduceEqDiff, false_and, and_false, ite_false, ite_true, eq_self, true_and, and_true, and_self]
              case e95 => rw [I_pI, if_neg (by omega), I_pI, if_neg (by omega), I_pI, if_neg (by omega), I_pI, if_neg (by omega)]; exact rows _ _ (by omega) (by omega)
              case e96 => rw [I_pI, if_neg (by omega), I_pI, if_neg (by omega), I_pI, if_neg (by omega), I_pI, if_neg (by omega)]; exact rows _ _ (by omega) (by omega)
              case e97 => rw [I_pI, if_neg (by omega), I_pI, if_neg (by omega), I_pI, if_neg (by omega), I_pI, if_neg (by omega)]; exact rows _ _ (by omega) (by omega)
              case e98 => simp only [I_pI, I_pR, Nat.reduceEqDiff, false_and, and_false, ite_false, ite_true, eq_self, true_and, and_true, and_self]
              case ek =>
                intro x y w1 w2 w3
                rw [I_pI, if_neg (by omega), I_pI, if_neg (by omega), I_pI, if_neg (by omega), I_pI, if_neg (by omega)]

      · simp only [x65_79, x65_81, x65_82, x65_85, x65_87, x65_89, x65_92, x65_94, x65_96, x65_98, x65_101, x65_102, x65_105, x65_106, x65_109, x65_110, x65_112, x65_114, x65_115, x65_118, x65_120, x65_123, x65_125, x65_126, x65_128, x65_131, x65_133, x65_136, x65_138, x65_141, x65_143, x65_146, x65_148, x65_149, x65_151, x65_152, x65_154, x65_156, x65_158, x65_161, ldI_3, ldI_4, ldI_5, ldI_6, ldI_9, ldR_7, ldR_8, stI_9i, stI_9n, stI_9r, stR_8i, stR_8n, stR_8r, e67, x67_0, x67_1, x67_4, x67_5, x67_8, x67_11, x67_12, x67_15, ldI_1, ldR_0, e68, x68_0, x68_1, x68_2, x68_5, x68_7, x68_9, x68_12, x68_15, x68_16, x68_17, x68_20, x68_23, x68_24, x68_27, x68_30, x68_31, x68_34, x68_37, x68_40, ldI_1, ldR_0, ldR_5, stR_5i, stR_5n, stR_5r, I_pI, R_pI, c_pI, n_pI, u_pI, t_pI, l_pI, I_pR, R_pR, c_pR, n_pR, u_pR, t_pR, l_pR, get_s, Option.toList, List.nil_append, List.cons_append, List.length_nil, List.length_cons, gi_B, true_and, and_true, false_and, and_false, not_true_eq_false, not_false_eq_true, true_implies, false_implies, implies_true, Classical.not_not, ite_true, ite_false, Option.some.injEq, Sum.inl.injEq, exists_eq', eq_self, true_or, or_true, false_or, or_false, Nat.reduceEqDiff, Nat.reduceLeDiff, Nat.reduceAdd, Nat.zero_le, one_ne0, if_neg one_ne0', lt_102_103, lt_102_104, lt_102_105, lt_102_106, lt_99_107, lt_100_107, lt_101_107, lt_103_107, lt_104_107, lt_105_107, lt_106_107, lt_98_99, lt_98_100, lt_98_101, lt_98_106, t0, u1, e, so_ne, hc25, w1, w2, g9, hw]
        refine t68_0 (m := gi_I h 93 (2 * n)) (S := S1 (gi_I h) (2 * n) (16 * k + i) v (gi_I h 95 (2 * n))) (l := 2 * n) hw t0 u1 u2 u3 g5 hq ab ab1 ?_ ?_ a6' ?_
        · rw [g9, g11 _ hq]
          rw [if_neg (of_eq_false w1), if_neg (of_eq_false w2), show (1 : Int32) - 1 = 0 from rfl, Int32.add_zero]
        · rw [g7]; unfold S1; rw [if_neg (by omega), if_pos ⟨rfl, rfl⟩]
        · simp only [x65_161, R_pI, c_pI, n_pI, u_pI, t_pI, l_pI, R_pR, c_pR, n_pR, u_pR, t_pR, l_pR, get_s, Option.toList, List.nil_append, List.cons_append, List.length_nil, List.length_cons, gi_B]
          rw [k4]
          have rows : ∀ b' y, 79 ≤ b' → b' < 109 → gi_I (gi_pI (gi_pR (gi_pI (gi_pI (h) b 3 (gi_I h 93 (2 * n))) (b + 1) (16 * k + i) v) a 9 (if (gi_I h 93 (2 * n)) ≤ 0 then none else some b)) a 4 ((gi_I h 87 n &&& (-57 : Int32)) ||| (al_ (S1 (gi_I h) (2 * n) (16 * k + i) v (gi_I h 95 (2 * n))) (2 * n) <<< ((3 : Int32) &&& 31)))) b' y = gi_I h b' y := fun b' y p1 p2 => by
            unfold dy at d1 g1 g2
            rw [I_pI, if_neg (by omega), I_pR, I_pI, if_neg (by omega), I_pI, if_neg (by omega)]
          refine hQ _ (gi_pI (gi_pR (gi_pI (gi_pI (h) b 3 (gi_I h 93 (2 * n))) (b + 1) (16 * k + i) v) a 9 (if (gi_I h 93 (2 * n)) ≤ 0 then none else some b)) a 4 ((gi_I h 87 n &&& (-57 : Int32)) ||| (al_ (S1 (gi_I h) (2 * n) (16 * k + i) v (gi_I h 95 (2 * n))) (2 * n) <<< ((3 : Int32) &&& 31)))) (S_pR (h := gi_pI (gi_pI h b 3 _) (b + 1) _ v) hS (by unfold dy at d1; omega)) rows ?_
          have hA5 : al_ (gi_I (gi_pI (gi_pI (gi_pI (gi_pR (gi_pI (gi_pI (h) b 3 (gi_I h 93 (2 * n))) (b + 1) (16 * k + i) v) a 9 (if (gi_I h 93 (2 * n)) ≤ 0 then none else some b)) a 4 ((gi_I h 87 n &&& (-57 : Int32)) ||| (al_ (S1 (gi_I h) (2 * n) (16 * k + i) v (gi_I h 95 (2 * n))) (2 * n) <<< ((3 : Int32) &&& 31)))) 93 (2 * n) (gi_I h 93 (2 * n))) 98 (32 * (2 * n) + (16 * k + i)) v)) (2 * n) = al_ (S1 (gi_I h) (2 * n) (16 * k + i) v (gi_I h 95 (2 * n))) (2 * n) := by
            refine al_at ?_ (fun j hj => ?_)
            · rw [S1_95, I_pI, if_neg (by omega), I_pI, if_neg (by omega)]
              exact rows _ _ (by omega) (by omega)
            · by_cases p : j = (16 * k + i)
              · rw [p, S1_q, I_pI, if_pos ⟨rfl, rfl⟩]
              · rw [S1_n p, I_pI, if_neg (by omega), I_pI, if_neg (by omega)]
                exact rows _ _ (by omega) (by omega)
          refine mE_0 (m := gi_I h 93 (2 * n)) (A := al_ (S1 (gi_I h) (2 * n) (16 * k + i) v (gi_I h 95 (2 * n))) (2 * n)) (S_pR (h := gi_pI (gi_pI h b 3 _) (b + 1) _ v) hS (by unfold dy at d1; omega)) hn hk hi rfl hw hv (fun j hj => by rw [rows _ _ (by omega) (by omega)]; exact (q3 j hj).1) (by rw [rows _ _ (by omega) (by omega)]; exact ln0) ?_ w1 hA5 ?_
          · rw [rows _ _ (by omega) (by omega), rows _ _ (by omega) (by omega)]
            exact Or.inr ⟨w2, rfl⟩
          · refine ⟨rfl, ?_⟩
            rw [rows 87 n (by omega) (by omega)]
            refine acl_fin (kC := gi_pI (gi_pR (gi_pI (gi_pI (h) b 3 (gi_I h 93 (2 * n))) (b + 1) (16 * k + i) v) a 9 (if (gi_I h 93 (2 * n)) ≤ 0 then none else some b)) a 4 ((gi_I h 87 n &&& (-57 : Int32)) ||| (al_ (S1 (gi_I h) (2 * n) (16 * k + i) v (gi_I h 95 (2 * n))) (2 * n) <<< ((3 : Int32) &&& 31)))) (m := (gi_I h 93 (2 * n))) (G := gi_I h 95 (2 * n)) (O := gi_I h 96 (2 * n)) (T := gi_I h 97 (2 * n)) (M := (gi_I h 87 n &&& (-57 : Int32)) ||| (al_ (S1 (gi_I h) (2 * n) (16 * k + i) v (gi_I h 95 (2 * n))) (2 * n) <<< ((3 : Int32) &&& 31))) (X := al_ (S1 (gi_I h) (2 * n) (16 * k + i) v (gi_I h 95 (2 * n))) (2 * n)) (r := b) (l := 2 * n) (x9 := 9) (f := 0) J hn hr hN (Or.inl rfl) hq rfl rfl (Or.inl e) ?n1 ?n2 ?n3 ?cF ?cc ?cR ?cRa ?cI ?dr ?dr1 ?l1 ?l2 ?l3 ?l4 ?l5 ?l6 ?l7 ?l8 ?a4 ?e87 ?e93 ?e94 ?e95 ?e96 ?e97 ?e98 ?ek (fun _ _ => rfl) (fun _ => rfl) rfl rfl (fun _ => rfl) (fun _ => rfl) (fun e => absurd e (by decide)) hv q2.1 q2.2.1 q2.2.2 (by rw [if_pos (by rw [e0]; exact of_eq_false w2), if_pos (by rw [v0]; exact of_eq_false w1)]) (by rw [ets, nI_toInt (by omega)]; omega) (by rw [ets, nI_toInt (by omega)]; omega)
            case n1 => show gi_n h ≤ gi_n h; omega
            case n2 => show gi_n h ≤ gi_n h + 16; omega
            case n3 => show gi_u h ≤ gi_u h + 1000; omega
            case cF => exact jF
            case cc => exact fun _ _ => rfl
            case cR =>
              intro x y w1 w2
              simp only [R_pI, R_pR, if_neg w2]
            case cRa => simp only [R_pI, R_pR, and_self, ite_true]
            case cI =>
              intro x y w1 w2 w3 w4
              rw [I_pI, if_neg w2, I_pR, I_pI, if_neg (by omega), I_pI, if_neg (by omega)]
            case dr => exact g1
            case dr1 => exact g2
            case l1 => exact g3
            case l2 => exact g4
            case l3 => simp only [R_pI, R_pR]; rw [if_neg (by omega)]; exact g5
            case l4 => rw [I_pI, if_neg (by omega), I_pR, I_pI, if_neg (by omega), I_pI, if_neg (by omega)]; exact g6'
            case l5 => rw [I_pI, if_neg (by omega), I_pR, I_pI, if_neg (by omega), I_pI, if_neg (by omega)]; exact g7
            case l6 => rw [I_pI, if_neg (by omega), I_pR, I_pI, if_neg (by omega), I_pI, if_neg (by omega)]; exact g8
            case l7 => rw [I_pI, if_neg (by omega), I_pR, I_pI, if_neg (by omega), I_pI, if_pos ⟨rfl, rfl⟩]
            case l8 =>
              intro k' hk'
              rw [I_pI, if_neg (by omega), I_pR, I_pI]
              by_cases p : k' = (16 * k + i)
              · rw [if_pos ⟨rfl, p⟩, if_pos p]
              · rw [if_neg (fun z => p z.2), if_neg p, I_pI, if_neg (by omega), g11 k' hk']
            case a4 => rw [I_pI, if_pos ⟨rfl, rfl⟩]
            case e87 =>
              rw [I_pI, if_pos ⟨rfl, rfl⟩]
            case e93 => simp only [I_pI, I_pR, Nat.reduceEqDiff, false_and, and_false, ite_false, ite_true, eq_self, true_and, and_true, and_self]
            case e94 => simp only [I_pI, I_pR, Nat.reduceEqDiff, false_and, and_false, ite_false, ite_true, eq_self, true_and, and_true, and_self]
            case e95 => rw [I_pI, if_neg (by omega), I_pI, if_neg (by omega), I_pI, if_neg (by omega), I_pI, if_neg (by omega)]; exact rows _ _ (by omega) (by omega)
            case e96 => rw [I_pI, if_neg (by omega), I_pI, if_neg (by omega), I_pI, if_neg (by omega), I_pI, if_neg (by omega)]; exact rows _ _ (by omega) (by omega)
            case e97 => rw [I_pI, if_neg (by omega), I_pI, if_neg (by omega), I_pI, if_neg (by omega), I_pI, if_neg (by omega)]; exact rows _ _ (by omega) (by omega)
            case e98 => simp only [I_pI, I_pR, Nat.reduceEqDiff, false_and, and_false, ite_false, ite_true, eq_self, true_and, and_true, and_self]
            case ek =>
              intro x y w1 w2 w3
              rw [I_pI, if_neg (by omega), I_pI, if_neg (by omega), I_pI, if_neg (by omega), I_pI, if_neg (by omega)]


theorem acl_1 {L : Nat} {xs : Nat → Int32} {c d n a u k i : Nat} {w v : Int32} {h : gi_H} {Q : gi_P} (J : jH L xs c h) (hn : n < 64) (hr : gi_R h 5 n = some a) (hN : rN h (gi_I h) n a) (hk : k < 2) (hi : i < 16) (hw : (w = 0) = False) (hv : -1 ≤ v.toInt ∧ v.toInt ≤ 7)
    (hQ : ∀ x kC, gi_S kC → (∀ b y, 79 ≤ b → b < 109 → gi_I kC b y = gi_I h b y) → gi_ex (gi_cx (d + 5)) 127 (fun r' k2 => r' = some (.inl x) ∧ jH L xs (c + 1) k2) 78 [some (.inr (.inr (some 79))), some (.inl (nI u)), some (.inl (nI n)), some (.inl w), some (.inl (nI k)), some (.inl (nI i)), some (.inl v), none, none] [] kC → Q (some (.inl x)) kC) : gi_ex (gi_cx (d + 5)) 65 Q 79 [some (.inr (.inr (some 1))), some (.inl (nI u)), some (.inl (nI n)), some (.inl w), some (.inl (nI k)), some (.inl (nI i)), some (.inl v), some (.inr (.inr (some a))), none, none] [] h := by
  have hS := J.1
  have h109 := hS.1
  have jF := J.2.1
  obtain ⟨t0, t1, t2, t3, t4⟩ := rN_t hN
  obtain ⟨d1, d2, d3, c1, c2, c3, f7, f8, k0, k1, k2, k3, k4, k5, k6, kp, kl, kf, kt⟩ := id hN
  have sl := J.2.2.2.2.2.2.2.2.2.2.2.1.2.1
  have sn := J.2.2.2.2.2.2.2.2.2.2.2.1.1
  have g6 := (sn.2 n hn).2.2.2.2.2.1
  have hz0 := ((J.2.2.2.2.2.2.1 n hn).2 a hr).1
  obtain ⟨q1, q2, q3, q4⟩ := sl (2 * n + 1) (by omega)
  have dv : (2 * n + 1) / 2 = n := by omega
  rw [dv] at q4
  have ev : vp_in (nI n) 64 := vp_in_nI hn (by omega)
  have ec : (nI n).toNatClampNeg = n := nI_clamp (by omega)
  have a1 : vp_in (nI (2 * n + 1)) 128 := vp_in_nI (by omega) (by omega)
  have a2 : (nI (2 * n + 1)).toNatClampNeg = 2 * n + 1 := nI_clamp (by omega)
  have hq : 16 * k + i < 32 := by omega
  have ix : (32 : Int32) * nI (2 * n + 1) + 16 * nI k + nI i = nI (32 * (2 * n + 1) + (16 * k + i)) := by
    rw [show (32 : Int32) = nI 32 from rfl, show (16 : Int32) = nI 16 from rfl, pk_mul, pk_mul, nI_add, nI_add]; congr 1; omega
  have b1 : vp_in (nI (32 * (2 * n + 1) + (16 * k + i))) 4096 := vp_in_nI (by omega) (by omega)
  have b2' : (nI (32 * (2 * n + 1) + (16 * k + i))).toNatClampNeg = 32 * (2 * n + 1) + (16 * k + i) := nI_clamp (by omega)
  have lt : ∀ x t m, gi_c h x = (t, m) → t ≠ 0 → x < gi_n h := fun x t m e ht => Nat.lt_of_not_le (fun w => by rw [jF x w] at e; cases e; exact ht rfl)
  have la := lt a _ _ c1 (by decide)
  have i97 := (an7 g6).2.2
  have i96 := (an7 g6).1
  have i95 := (an7 g6).2.1
  have v0 := ge_m1 hv.1
  have e0 := ge_m1 (q3 (16 * k + i) hq).1
  cases e : gi_R h a 10 with
  | none =>
    rw [e] at kf
    have z := kf.1 rfl
    have z' := eq_true z
    have all : ∀ j, j < 32 → gi_I h 98 (32 * (2 * n + 1) + j) = -1 := fun j hj => by
      have q5 := (q4 hz0).1
      rw [z, show (0 : Int32).toNatClampNeg = 0 from rfl] at q5
      have q6 := ct_0 32 0 q5.symm j (by omega) (by omega)
      have q7 := q3 j hj
      rw [decide_eq_false_iff_not, i32_le, ti_0] at q6
      rw [i32_eq, ti_m1]
      omega
    have aq := eq_true (all (16 * k + i) hq)
    rcases em_ (v = -1) with w1 | w1
    · simp only [x65_79, x65_81, x65_82, x65_85, x65_87, x65_89, x65_92, x65_94, x65_96, x65_98, x65_101, x65_102, x65_105, x65_106, x65_109, x65_110, x65_112, x65_114, x65_115, x65_118, x65_120, x65_123, x65_125, x65_126, x65_128, x65_131, x65_133, x65_136, x65_138, x65_141, x65_143, x65_146, x65_148, x65_149, x65_151, x65_152, x65_154, x65_156, x65_158, x65_161, ldI_3, ldI_4, ldI_5, ldI_6, ldI_9, ldR_7, ldR_8, stI_9i, stI_9n, stI_9r, stR_8i, stR_8n, stR_8r, e67, x67_0, x67_1, x67_4, x67_5, x67_8, x67_11, x67_12, x67_15, ldI_1, ldR_0, e68, x68_0, x68_1, x68_2, x68_5, x68_7, x68_9, x68_12, x68_15, x68_16, x68_17, x68_20, x68_23, x68_24, x68_27, x68_30, x68_31, x68_34, x68_37, x68_40, ldI_1, ldR_0, ldR_5, stR_5i, stR_5n, stR_5r, I_pI, R_pI, c_pI, n_pI, u_pI, t_pI, l_pI, I_pR, R_pR, c_pR, n_pR, u_pR, t_pR, l_pR, get_s, Option.toList, List.nil_append, List.cons_append, List.length_nil, List.length_cons, gi_B, true_and, and_true, false_and, and_false, not_true_eq_false, not_false_eq_true, true_implies, false_implies, implies_true, Classical.not_not, ite_true, ite_false, Option.some.injEq, Sum.inl.injEq, exists_eq', eq_self, true_or, or_true, false_or, or_false, Nat.reduceEqDiff, Nat.reduceLeDiff, Nat.reduceAdd, Nat.zero_le, one_ne0, if_neg one_ne0', lt_102_103, lt_102_104, lt_102_105, lt_102_106, lt_99_107, lt_100_107, lt_101_107, lt_103_107, lt_104_107, lt_105_107, lt_106_107, lt_98_99, lt_98_100, lt_98_101, lt_98_106, t0, e, w1, hw]
      refine hQ _ _ hS (fun _ _ _ _ => rfl) ?_
      simp only [x127_78, x127_79, x127_82, x127_83, x127_84, x127_85, x127_86, x127_87, x127_90, x127_91, x127_92, x127_93, x127_95, x127_97, x127_99, x127_100, x127_102, x127_104, x127_105, x127_106, x127_108, x127_109, x127_111, x127_113, x127_116, x127_117, x127_120, x127_122, x127_123, x127_126, x127_128, x127_129, x127_130, x127_133, x127_135, x127_136, x127_137, x127_138, x127_141, x127_143, x127_144, x127_145, x127_146, x127_147, x127_148, x127_149, x127_152, x127_154, x127_155, x127_158, x127_159, x127_160, x127_162, x127_165, x127_168, x127_169, x127_172, x127_173, x127_176, x127_177, x127_178, x127_181, x127_182, x127_183, x127_185, x127_186, x127_187, x127_190, x127_192, x127_193, x127_194, x127_195, x127_196, x127_197, x127_198, x127_201, x127_203, x127_204, x127_205, x127_206, x127_209, x127_211, x127_212, x127_215, x127_216, x127_219, x127_221, x127_222, x127_224, x127_227, x127_229, x127_230, x127_231, x127_234, x127_236, x127_237, x127_240, x127_241, x127_244, x127_246, x127_247, x127_250, x127_251, x127_252, x127_253, x127_254, x127_256, x127_257, x127_258, x127_259, x127_262, x127_264, x127_265, x127_268, x127_269, x127_270, x127_272, x127_273, x127_275, x127_276, x127_277, x127_278, x127_281, x127_283, x127_284, x127_287, x127_288, x127_289, x127_291, x127_292, x127_293, x127_294, x127_297, x127_299, x127_300, x127_303, x127_305, x127_306, x127_309, x127_310, x127_313, x127_315, x127_316, x127_317, x127_318, x127_321, x127_322, x127_325, x127_327, x127_328, x127_329, x127_330, x127_333, x127_335, x127_337, x127_338, x127_339, x127_340, x127_342, x127_345, x127_346, x127_349, x127_351, x127_352, ldI_2, ldI_3, ldI_4, ldI_5, ldI_6, ldI_7, ldI_8, ldR_0, stI_7i, stI_7n, stI_7r, stI_8i, stI_8n, stI_8r, I_pI, R_pI, c_pI, n_pI, u_pI, t_pI, l_pI, I_pR, R_pR, c_pR, n_pR, u_pR, t_pR, l_pR, get_s, Option.toList, List.nil_append, List.cons_append, List.length_nil, List.length_cons, gi_B, tg_1 hS, tg_2 hS, tg_3 hS, tg_4 hS, tg_5 hS, tg_6 hS, tg_7 hS, tg_8 hS, tg_9 hS, tg_10 hS, tg_75 hS, tg_79 hS, tg_80 hS, tg_81 hS, tg_82 hS, tg_83 hS, tg_84 hS, tg_85 hS, tg_86 hS, tg_87 hS, tg_88 hS, tg_89 hS, tg_90 hS, tg_91 hS, tg_92 hS, tg_93 hS, tg_94 hS, tg_95 hS, tg_96 hS, tg_97 hS, tg_98 hS, tg_99 hS, tg_100 hS, tg_101 hS, tg_102 hS, tg_103 hS, tg_104 hS, tg_105 hS, tg_106 hS, tg_107 hS, tg_108 hS, ln_2 hS, ln_3 hS, ln_4 hS, ln_5 hS, ln_7 hS, ln_9 hS, ln_10 hS, ln_75 hS, ln_80 hS, ln_81 hS, ln_82 hS, ln_83 hS, ln_84 hS, ln_85 hS, ln_86 hS, ln_87 hS, ln_88 hS, ln_89 hS, ln_90 hS, ln_91 hS, ln_92 hS, ln_93 hS, ln_94 hS, ln_95 hS, ln_96 hS, ln_97 hS, ln_98 hS, ln_99 hS, ln_100 hS, ln_101 hS, ln_102 hS, ln_103 hS, ln_104 hS, ln_105 hS, ln_106 hS, ln_107 hS, ln_108 hS, rf_1_0 hS, rf_1_1 hS, rf_1_2 hS, rf_1_3 hS, rf_1_4 hS, rf_1_5 hS, rf_1_6 hS, rf_6_0 hS, rf_8_1 hS, rf_8_2 hS, rf_79_1 hS, rf_79_2 hS, rf_79_3 hS, rf_79_4 hS, rf_79_5 hS, rf_79_6 hS, rf_79_7 hS, rf_79_8 hS, rf_79_9 hS, rf_79_10 hS, rf_79_11 hS, rf_79_12 hS, rf_79_13 hS, rf_79_14 hS, rf_79_15 hS, rf_79_16 hS, rf_79_17 hS, rf_79_18 hS, rf_79_19 hS, rf_79_20 hS, rf_79_21 hS, rf_79_22 hS, rf_79_24 hS, rf_79_25 hS, rf_79_26 hS, rf_79_27 hS, rf_79_28 hS, rf_79_29 hS, rf_79_30 hS, true_and, and_true, false_and, and_false, not_true_eq_false, not_false_eq_true, true_implies, false_implies, implies_true, Classical.not_not, ite_true, ite_false, Option.some.injEq, Sum.inl.injEq, exists_eq', eq_self, true_or, or_true, false_or, or_false, Nat.reduceEqDiff, Nat.reduceLeDiff, Nat.reduceAdd, Nat.zero_le, one_ne0, if_neg one_ne0', lt_102_103, lt_102_104, lt_102_105, lt_102_106, lt_99_107, lt_100_107, lt_101_107, lt_103_107, lt_104_107, lt_105_107, lt_106_107, lt_98_99, lt_98_100, lt_98_101, lt_98_106, ix21, ix, a1, a2, b1, b2', v0, e0, hw, w1, aq]
      first | exact jH_up J | exact ⟨rfl, jH_up J⟩
    · simp only [x65_79, x65_81, x65_82, x65_85, x65_87, x65_89, x65_92, x65_94, x65_96, x65_98, x65_101, x65_102, x65_105, x65_106, x65_109, x65_110, x65_112, x65_114, x65_115, x65_118, x65_120, x65_123, x65_125, x65_126, x65_128, x65_131, x65_133, x65_136, x65_138, x65_141, x65_143, x65_146, x65_148, x65_149, x65_151, x65_152, x65_154, x65_156, x65_158, x65_161, ldI_3, ldI_4, ldI_5, ldI_6, ldI_9, ldR_7, ldR_8, stI_9i, stI_9n, stI_9r, stR_8i, stR_8n, stR_8r, e67, x67_0, x67_1, x67_4, x67_5, x67_8, x67_11, x67_12, x67_15, ldI_1, ldR_0, e68, x68_0, x68_1, x68_2, x68_5, x68_7, x68_9, x68_12, x68_15, x68_16, x68_17, x68_20, x68_23, x68_24, x68_27, x68_30, x68_31, x68_34, x68_37, x68_40, ldI_1, ldR_0, ldR_5, stR_5i, stR_5n, stR_5r, I_pI, R_pI, c_pI, n_pI, u_pI, t_pI, l_pI, I_pR, R_pR, c_pR, n_pR, u_pR, t_pR, l_pR, get_s, Option.toList, List.nil_append, List.cons_append, List.length_nil, List.length_cons, gi_B, true_and, and_true, false_and, and_false, not_true_eq_false, not_false_eq_true, true_implies, false_implies, implies_true, Classical.not_not, ite_true, ite_false, Option.some.injEq, Sum.inl.injEq, exists_eq', eq_self, true_or, or_true, false_or, or_false, Nat.reduceEqDiff, Nat.reduceLeDiff, Nat.reduceAdd, Nat.zero_le, one_ne0, if_neg one_ne0', lt_102_103, lt_102_104, lt_102_105, lt_102_106, lt_99_107, lt_100_107, lt_101_107, lt_103_107, lt_104_107, lt_105_107, lt_106_107, lt_98_99, lt_98_100, lt_98_101, lt_98_106, t0, e, w1, hw, k4, c_19, c_22, c_23, t_new, if_neg (show a ≠ gi_n h by omega), I_new, c_36]
      refine t68_1 (h := nl h (((gi_I h 87 n) >>> (6 &&& 31)) &&& 7) (((gi_I h 87 n) >>> (3 &&& 31)) &&& 7) ((gi_I h 87 n) &&& 7)) (m := 0 + 1) (S := S1 (gi_I h) (2 * n + 1) (16 * k + i) v (((gi_I h 87 n) >>> (3 &&& 31)) &&& 7)) (l := 2 * n + 1) hw ?_ ?_ ?_ ?_ ?_ (by omega) (by omega) (by omega) ?_ ?_ ?_ ?_
      · rw [t_nl, if_neg (by omega), if_neg (by omega)]; exact t0
      · rw [t_nl, if_pos rfl]
      · rw [t_nl, if_neg (by omega), if_pos rfl]
      · rw [l_nl, if_neg (by omega), if_pos rfl]
      · rw [R_nl, if_pos rfl, if_pos rfl]
      · simp only [I_nl, s_n1, ite_true, ite_false, Nat.reduceEqDiff, w1, hq]; rfl
      · simp only [I_nl, ite_true, ite_false, Nat.reduceEqDiff]; unfold S1; rw [if_neg (by omega), if_pos ⟨rfl, rfl⟩]
      · intro k' hk'
        unfold S1
        by_cases p : k' = (16 * k + i)
        · rw [if_pos p, if_pos ⟨rfl, by omega⟩]
        · rw [if_neg p, if_neg (by omega), if_neg (by omega), I_nl, if_neg (by omega), if_pos rfl, if_pos hk', all k' hk']
      · simp only [x65_161, R_pI, c_pI, n_pI, u_pI, t_pI, l_pI, R_pR, c_pR, n_pR, u_pR, t_pR, l_pR, get_s, Option.toList, List.nil_append, List.cons_append, List.length_nil, List.length_cons, gi_B]
        have rows : ∀ b y, 79 ≤ b → b < 109 → gi_I (gi_pR (gi_pI (gi_pI (nl h (((gi_I h 87 n) >>> (6 &&& 31)) &&& 7) (((gi_I h 87 n) >>> (3 &&& 31)) &&& 7) ((gi_I h 87 n) &&& 7)) (gi_n h) 3 (0 + 1 : Int32)) ((gi_n h) + 1) (16 * k + i) v) a 10 (if (0 + 1 : Int32) ≤ 0 then none else some (gi_n h))) b y = gi_I h b y := fun b y p1 p2 => by
          unfold dy at d1
          rw [I_pR, I_pI, if_neg (by omega), I_pI, if_neg (by omega), I_nl, if_neg (by omega), if_neg (by omega)]
        have hSn : gi_S (nl h (((gi_I h 87 n) >>> (6 &&& 31)) &&& 7) (((gi_I h 87 n) >>> (3 &&& 31)) &&& 7) ((gi_I h 87 n) &&& 7)) := S_nl hS
        refine hQ _ (gi_pR (gi_pI (gi_pI (nl h (((gi_I h 87 n) >>> (6 &&& 31)) &&& 7) (((gi_I h 87 n) >>> (3 &&& 31)) &&& 7) ((gi_I h 87 n) &&& 7)) (gi_n h) 3 (0 + 1 : Int32)) ((gi_n h) + 1) (16 * k + i) v) a 10 (if (0 + 1 : Int32) ≤ 0 then none else some (gi_n h))) (S_pR (h := gi_pI (gi_pI (nl h (((gi_I h 87 n) >>> (6 &&& 31)) &&& 7) (((gi_I h 87 n) >>> (3 &&& 31)) &&& 7) ((gi_I h 87 n) &&& 7)) (gi_n h) 3 _) (gi_n h + 1) _ v) hSn (by unfold dy at d1; omega)) rows ?_
        have hA5 : al_ (gi_I (gi_pI (gi_pI (gi_pI (gi_pI (gi_pI (gi_pR (gi_pI (gi_pI (nl h (((gi_I h 87 n) >>> (6 &&& 31)) &&& 7) (((gi_I h 87 n) >>> (3 &&& 31)) &&& 7) ((gi_I h 87 n) &&& 7)) (gi_n h) 3 (0 + 1 : Int32)) ((gi_n h) + 1) (16 * k + i) v) a 10 (if (0 + 1 : Int32) ≤ 0 then none else some (gi_n h))) 95 (2 * n + 1) (((gi_I h 87 n) >>> (3 &&& 31)) &&& 7)) 96 (2 * n + 1) (((gi_I h 87 n) >>> (6 &&& 31)) &&& 7)) 97 (2 * n + 1) ((gi_I h 87 n) &&& 7)) 93 (2 * n + 1) (0 + 1)) 98 (32 * (2 * n + 1) + (16 * k + i)) v)) (2 * n + 1) = al_ (S1 (gi_I h) (2 * n + 1) (16 * k + i) v (((gi_I h 87 n) >>> (3 &&& 31)) &&& 7)) (2 * n + 1) := by
          refine al_at ?_ (fun j hj => ?_)
          · rw [S1_95, I_pI, if_neg (by omega), I_pI, if_neg (by omega), I_pI, if_neg (by omega), I_pI, if_neg (by omega), I_pI, if_pos ⟨rfl, rfl⟩]
          · by_cases p : j = (16 * k + i)
            · rw [p, S1_q, I_pI, if_pos ⟨rfl, rfl⟩]
            · rw [S1_n p, I_pI, if_neg (by omega), I_pI, if_neg (by omega), I_pI, if_neg (by omega), I_pI, if_neg (by omega), I_pI, if_neg (by omega)]
              exact rows _ _ (by omega) (by omega)
        have r87 : gi_I (gi_pR (gi_pI (gi_pI (nl h (((gi_I h 87 n) >>> (6 &&& 31)) &&& 7) (((gi_I h 87 n) >>> (3 &&& 31)) &&& 7) ((gi_I h 87 n) &&& 7)) (gi_n h) 3 (0 + 1 : Int32)) ((gi_n h) + 1) (16 * k + i) v) a 10 (if (0 + 1 : Int32) ≤ 0 then none else some (gi_n h))) 87 n = gi_I h 87 n := rows _ _ (by omega) (by omega)
        refine mN_1 (A := al_ (S1 (gi_I h) (2 * n + 1) (16 * k + i) v (((gi_I h 87 n) >>> (3 &&& 31)) &&& 7)) (2 * n + 1)) (S_pR (h := gi_pI (gi_pI (nl h (((gi_I h 87 n) >>> (6 &&& 31)) &&& 7) (((gi_I h 87 n) >>> (3 &&& 31)) &&& 7) ((gi_I h 87 n) &&& 7)) (gi_n h) 3 _) (gi_n h + 1) _ v) hSn (by unfold dy at d1; omega)) hn hk hi rfl hw hv (fun j hj => by rw [rows _ _ (by omega) (by omega)]; exact (q3 j hj).1) (by rw [rows _ _ (by omega) (by omega)]; exact z') (by rw [rows _ _ (by omega) (by omega)]; exact aq) w1 ?_ ?_
        · rw [r87]; exact hA5
        rw [r87]
        refine ⟨rfl, ?_⟩
        refine acl_fin (kC := gi_pR (gi_pI (gi_pI (nl h (((gi_I h 87 n) >>> (6 &&& 31)) &&& 7) (((gi_I h 87 n) >>> (3 &&& 31)) &&& 7) ((gi_I h 87 n) &&& 7)) (gi_n h) 3 (0 + 1 : Int32)) ((gi_n h) + 1) (16 * k + i) v) a 10 (if (0 + 1 : Int32) ≤ 0 then none else some (gi_n h))) (m := (0 + 1 : Int32)) (G := ((gi_I h 87 n) >>> (3 &&& 31)) &&& 7) (O := ((gi_I h 87 n) >>> (6 &&& 31)) &&& 7) (T := (gi_I h 87 n) &&& 7) (M := gi_I h 87 n) (X := al_ (S1 (gi_I h) (2 * n + 1) (16 * k + i) v (((gi_I h 87 n) >>> (3 &&& 31)) &&& 7)) (2 * n + 1)) (r := (gi_n h)) (l := 2 * n + 1) (x9 := 10) (f := 1) J hn hr hN (Or.inr rfl) hq rfl rfl (Or.inr ⟨e, rfl⟩) ?n1 ?n2 ?n3 ?cF ?cc ?cR ?cRa ?cI ?dr ?dr1 ?l1 ?l2 ?l3 ?l4 ?l5 ?l6 ?l7 ?l8 ?a4 ?e87 ?e93 ?e94 ?e95 ?e96 ?e97 ?e98 ?ek (fun _ _ => rfl) (fun _ => rfl) rfl rfl (fun _ => rfl) (fun e => absurd e (by decide)) (fun _ => rfl) hv i95 i96 i97 (by rw [if_neg (by rw [e0]; exact fun z => z (all _ hq)), z, if_pos (by rw [v0]; exact of_eq_false w1)]; decide) (by decide) (by decide)
        case n1 => show gi_n h ≤ gi_n h + 2; omega
        case n2 => show gi_n h + 2 ≤ gi_n h + 16; omega
        case n3 => show gi_u h + 37 ≤ gi_u h + 1000; omega
        case cF =>
          intro x hx
          have hx : gi_n h + 2 ≤ x := hx
          show gi_c (nl h (((gi_I h 87 n) >>> (6 &&& 31)) &&& 7) (((gi_I h 87 n) >>> (3 &&& 31)) &&& 7) ((gi_I h 87 n) &&& 7)) x = (0, 0)
          rw [c_nl, if_neg (by omega), if_neg (by omega)]
          exact jF x (by omega)
        case cc =>
          intro x hx
          show gi_c (nl h (((gi_I h 87 n) >>> (6 &&& 31)) &&& 7) (((gi_I h 87 n) >>> (3 &&& 31)) &&& 7) ((gi_I h 87 n) &&& 7)) x = _
          rw [c_nl, if_neg (by omega), if_neg (by omega)]
        case cR =>
          intro x y w1 w2
          simp only [R_pI, R_pR, if_neg w2]
          rw [R_nl, if_neg (by omega), if_neg (by omega)]
        case cRa => simp only [R_pI, R_pR, and_self, ite_true]
        case cI =>
          intro x y w1 w2 w3 w4
          rw [I_pR, I_pI, if_neg (by omega), I_pI, if_neg (by omega), I_nl, if_neg (by omega), if_neg (by omega)]
        case dr => unfold dy; omega
        case dr1 => unfold dy; omega
        case l1 => show gi_c (nl h (((gi_I h 87 n) >>> (6 &&& 31)) &&& 7) (((gi_I h 87 n) >>> (3 &&& 31)) &&& 7) ((gi_I h 87 n) &&& 7)) _ = _; rw [c_nl, if_pos rfl]
        case l2 => show gi_c (nl h (((gi_I h 87 n) >>> (6 &&& 31)) &&& 7) (((gi_I h 87 n) >>> (3 &&& 31)) &&& 7) ((gi_I h 87 n) &&& 7)) _ = _; rw [c_nl, if_neg (by omega), if_pos rfl]
        case l3 => simp only [R_pI, R_pR]; rw [if_neg (by omega), R_nl, if_pos rfl, if_pos rfl]
        case l4 => rw [I_pR, I_pI, if_neg (by omega), I_pI, if_neg (by omega), I_nl, if_pos rfl]; rfl
        case l5 => rw [I_pR, I_pI, if_neg (by omega), I_pI, if_neg (by omega), I_nl, if_pos rfl]; rfl
        case l6 => rw [I_pR, I_pI, if_neg (by omega), I_pI, if_neg (by omega), I_nl, if_pos rfl]; rfl
        case l7 => rw [I_pR, I_pI, if_neg (by omega), I_pI, if_pos ⟨rfl, rfl⟩]
        case l8 =>
          intro k' hk'
          rw [I_pR, I_pI]
          by_cases p : k' = (16 * k + i)
          · rw [if_pos ⟨rfl, p⟩, if_pos p]
          · rw [if_neg (fun z => p z.2), if_neg p, I_pI, if_neg (by omega), I_nl, if_neg (by omega), if_pos rfl, if_pos hk', all k' hk']
        case a4 => rw [I_pR, I_pI, if_neg (by omega), I_pI, if_neg (by omega), I_nl, if_neg (by omega), if_neg (by omega)]; exact k4
        case e87 =>
          rw [I_pI, if_neg (by omega), I_pI, if_neg (by omega), I_pI, if_neg (by omega), I_pI, if_neg (by omega), I_pI, if_neg (by omega), I_pI, if_neg (by omega)]; exact rows _ _ (by omega) (by omega)
        case e93 => simp only [I_pI, I_pR, Nat.reduceEqDiff, false_and, and_false, ite_false, ite_true, eq_self, true_and, and_true, and_self]
        case e94 => simp only [I_pI, I_pR, Nat.reduceEqDiff, false_and, and_false, ite_false, ite_true, eq_self, true_and, and_true, and_self]
        case e95 => simp only [I_pI, I_pR, Nat.reduceEqDiff, false_and, and_false, ite_false, ite_true, eq_self, true_and, and_true, and_self]
        case e96 => simp only [I_pI, I_pR, Nat.reduceEqDiff, false_and, and_false, ite_false, ite_true, eq_self, true_and, and_true, and_self]
        case e97 => simp only [I_pI, I_pR, Nat.reduceEqDiff, false_and, and_false, ite_false, ite_true, eq_self, true_and, and_true, and_self]
        case e98 => simp only [I_pI, I_pR, Nat.reduceEqDiff, false_and, and_false, ite_false, ite_true, eq_self, true_and, and_true, and_self]
        case ek =>
          intro x y w1 w2 w3
          rw [I_pI, if_neg (by omega), I_pI, if_neg (by omega), I_pI, if_neg (by omega), I_pI, if_neg (by omega), I_pI, if_neg (by omega), I_pI, if_neg (by omega)]
  | some b =>
    rw [e] at kf
    obtain ⟨g1, g2, g3, g4, g5, g6', g7, g8, g9, g10, g11⟩ := kf.2 b rfl
    obtain ⟨u1, u2, u3, -⟩ := rL_t kf
    have lb := lt b _ _ g3 (by decide)
    have lb1 := lt (b + 1) _ _ g4 (by decide)
    have ab : a ≠ b := ne_c (by rw [c1, g3]; decide)
    have ab1 : a ≠ b + 1 := ne_c (by rw [c1, g4]; decide)
    have ln0 : (gi_I h 93 (2 * n + 1) = 0) = False := eq_false (fun z => by rw [z] at g10; exact absurd g10 (by decide))
    obtain ⟨t, ht, ets⟩ := nI_of (x := gi_I h 93 (2 * n + 1)) (by rw [i32_lt, ti_0]; omega)
    have tr : t ≤ 8 ∧ 0 < t := by rw [ets, nI_toInt ht] at q1 g10; omega
    obtain ⟨s, rfl⟩ : ∃ s, t = s + 1 := ⟨t - 1, by omega⟩
    have es : gi_I h 93 (2 * n + 1) - 1 = nI s := by rw [ets, ← nI_il, Int32.add_sub_cancel]
    have a6' : ∀ k', k' < 32 → (if k' = (16 * k + i) then v else gi_I h (b + 1) k') = S1 (gi_I h) (2 * n + 1) (16 * k + i) v (gi_I h 95 (2 * n + 1)) 98 (32 * (2 * n + 1) + k') := fun k' hk' => by
      unfold S1
      by_cases p : k' = (16 * k + i)
      · rw [if_pos p, if_pos ⟨rfl, by omega⟩]
      · rw [if_neg p, if_neg (by omega), if_neg (by omega)]; exact g11 k' hk'
    have hc25 := fun {d : Nat} {Q : gi_P} => c_25 (d := d) (Q := Q) u1 u2 u3 g5 hq
    rw [g11 _ hq] at hc25
    rcases em_ (v = -1) with w1 | w1
    · rcases em_ (gi_I h 98 (32 * (2 * n + 1) + (16 * k + i)) = -1) with w2 | w2
      · simp only [x65_79, x65_81, x65_82, x65_85, x65_87, x65_89, x65_92, x65_94, x65_96, x65_98, x65_101, x65_102, x65_105, x65_106, x65_109, x65_110, x65_112, x65_114, x65_115, x65_118, x65_120, x65_123, x65_125, x65_126, x65_128, x65_131, x65_133, x65_136, x65_138, x65_141, x65_143, x65_146, x65_148, x65_149, x65_151, x65_152, x65_154, x65_156, x65_158, x65_161, ldI_3, ldI_4, ldI_5, ldI_6, ldI_9, ldR_7, ldR_8, stI_9i, stI_9n, stI_9r, stR_8i, stR_8n, stR_8r, e67, x67_0, x67_1, x67_4, x67_5, x67_8, x67_11, x67_12, x67_15, ldI_1, ldR_0, e68, x68_0, x68_1, x68_2, x68_5, x68_7, x68_9, x68_12, x68_15, x68_16, x68_17, x68_20, x68_23, x68_24, x68_27, x68_30, x68_31, x68_34, x68_37, x68_40, ldI_1, ldR_0, ldR_5, stR_5i, stR_5n, stR_5r, I_pI, R_pI, c_pI, n_pI, u_pI, t_pI, l_pI, I_pR, R_pR, c_pR, n_pR, u_pR, t_pR, l_pR, get_s, Option.toList, List.nil_append, List.cons_append, List.length_nil, List.length_cons, gi_B, true_and, and_true, false_and, and_false, not_true_eq_false, not_false_eq_true, true_implies, false_implies, implies_true, Classical.not_not, ite_true, ite_false, Option.some.injEq, Sum.inl.injEq, exists_eq', eq_self, true_or, or_true, false_or, or_false, Nat.reduceEqDiff, Nat.reduceLeDiff, Nat.reduceAdd, Nat.zero_le, one_ne0, if_neg one_ne0', lt_102_103, lt_102_104, lt_102_105, lt_102_106, lt_99_107, lt_100_107, lt_101_107, lt_103_107, lt_104_107, lt_105_107, lt_106_107, lt_98_99, lt_98_100, lt_98_101, lt_98_106, t0, u1, e, so_ne, hc25, w1, w2, hw]
        refine hQ _ _ hS (fun _ _ _ _ => rfl) ?_
        simp only [x127_78, x127_79, x127_82, x127_83, x127_84, x127_85, x127_86, x127_87, x127_90, x127_91, x127_92, x127_93, x127_95, x127_97, x127_99, x127_100, x127_102, x127_104, x127_105, x127_106, x127_108, x127_109, x127_111, x127_113, x127_116, x127_117, x127_120, x127_122, x127_123, x127_126, x127_128, x127_129, x127_130, x127_133, x127_135, x127_136, x127_137, x127_138, x127_141, x127_143, x127_144, x127_145, x127_146, x127_147, x127_148, x127_149, x127_152, x127_154, x127_155, x127_158, x127_159, x127_160, x127_162, x127_165, x127_168, x127_169, x127_172, x127_173, x127_176, x127_177, x127_178, x127_181, x127_182, x127_183, x127_185, x127_186, x127_187, x127_190, x127_192, x127_193, x127_194, x127_195, x127_196, x127_197, x127_198, x127_201, x127_203, x127_204, x127_205, x127_206, x127_209, x127_211, x127_212, x127_215, x127_216, x127_219, x127_221, x127_222, x127_224, x127_227, x127_229, x127_230, x127_231, x127_234, x127_236, x127_237, x127_240, x127_241, x127_244, x127_246, x127_247, x127_250, x127_251, x127_252, x127_253, x127_254, x127_256, x127_257, x127_258, x127_259, x127_262, x127_264, x127_265, x127_268, x127_269, x127_270, x127_272, x127_273, x127_275, x127_276, x127_277, x127_278, x127_281, x127_283, x127_284, x127_287, x127_288, x127_289, x127_291, x127_292, x127_293, x127_294, x127_297, x127_299, x127_300, x127_303, x127_305, x127_306, x127_309, x127_310, x127_313, x127_315, x127_316, x127_317, x127_318, x127_321, x127_322, x127_325, x127_327, x127_328, x127_329, x127_330, x127_333, x127_335, x127_337, x127_338, x127_339, x127_340, x127_342, x127_345, x127_346, x127_349, x127_351, x127_352, ldI_2, ldI_3, ldI_4, ldI_5, ldI_6, ldI_7, ldI_8, ldR_0, stI_7i, stI_7n, stI_7r, stI_8i, stI_8n, stI_8r, I_pI, R_pI, c_pI, n_pI, u_pI, t_pI, l_pI, I_pR, R_pR, c_pR, n_pR, u_pR, t_pR, l_pR, get_s, Option.toList, List.nil_append, List.cons_append, List.length_nil, List.length_cons, gi_B, tg_1 hS, tg_2 hS, tg_3 hS, tg_4 hS, tg_5 hS, tg_6 hS, tg_7 hS, tg_8 hS, tg_9 hS, tg_10 hS, tg_75 hS, tg_79 hS, tg_80 hS, tg_81 hS, tg_82 hS, tg_83 hS, tg_84 hS, tg_85 hS, tg_86 hS, tg_87 hS, tg_88 hS, tg_89 hS, tg_90 hS, tg_91 hS, tg_92 hS, tg_93 hS, tg_94 hS, tg_95 hS, tg_96 hS, tg_97 hS, tg_98 hS, tg_99 hS, tg_100 hS, tg_101 hS, tg_102 hS, tg_103 hS, tg_104 hS, tg_105 hS, tg_106 hS, tg_107 hS, tg_108 hS, ln_2 hS, ln_3 hS, ln_4 hS, ln_5 hS, ln_7 hS, ln_9 hS, ln_10 hS, ln_75 hS, ln_80 hS, ln_81 hS, ln_82 hS, ln_83 hS, ln_84 hS, ln_85 hS, ln_86 hS, ln_87 hS, ln_88 hS, ln_89 hS, ln_90 hS, ln_91 hS, ln_92 hS, ln_93 hS, ln_94 hS, ln_95 hS, ln_96 hS, ln_97 hS, ln_98 hS, ln_99 hS, ln_100 hS, ln_101 hS, ln_102 hS, ln_103 hS, ln_104 hS, ln_105 hS, ln_106 hS, ln_107 hS, ln_108 hS, rf_1_0 hS, rf_1_1 hS, rf_1_2 hS, rf_1_3 hS, rf_1_4 hS, rf_1_5 hS, rf_1_6 hS, rf_6_0 hS, rf_8_1 hS, rf_8_2 hS, rf_79_1 hS, rf_79_2 hS, rf_79_3 hS, rf_79_4 hS, rf_79_5 hS, rf_79_6 hS, rf_79_7 hS, rf_79_8 hS, rf_79_9 hS, rf_79_10 hS, rf_79_11 hS, rf_79_12 hS, rf_79_13 hS, rf_79_14 hS, rf_79_15 hS, rf_79_16 hS, rf_79_17 hS, rf_79_18 hS, rf_79_19 hS, rf_79_20 hS, rf_79_21 hS, rf_79_22 hS, rf_79_24 hS, rf_79_25 hS, rf_79_26 hS, rf_79_27 hS, rf_79_28 hS, rf_79_29 hS, rf_79_30 hS, true_and, and_true, false_and, and_false, not_true_eq_false, not_false_eq_true, true_implies, false_implies, implies_true, Classical.not_not, ite_true, ite_false, Option.some.injEq, Sum.inl.injEq, exists_eq', eq_self, true_or, or_true, false_or, or_false, Nat.reduceEqDiff, Nat.reduceLeDiff, Nat.reduceAdd, Nat.zero_le, one_ne0, if_neg one_ne0', lt_102_103, lt_102_104, lt_102_105, lt_102_106, lt_99_107, lt_100_107, lt_101_107, lt_103_107, lt_104_107, lt_105_107, lt_106_107, lt_98_99, lt_98_100, lt_98_101, lt_98_106, ix21, ix, a1, a2, b1, b2', v0, e0, hw, w1, w2]
        first | exact jH_up J | exact ⟨rfl, jH_up J⟩
      · simp only [x65_79, x65_81, x65_82, x65_85, x65_87, x65_89, x65_92, x65_94, x65_96, x65_98, x65_101, x65_102, x65_105, x65_106, x65_109, x65_110, x65_112, x65_114, x65_115, x65_118, x65_120, x65_123, x65_125, x65_126, x65_128, x65_131, x65_133, x65_136, x65_138, x65_141, x65_143, x65_146, x65_148, x65_149, x65_151, x65_152, x65_154, x65_156, x65_158, x65_161, ldI_3, ldI_4, ldI_5, ldI_6, ldI_9, ldR_7, ldR_8, stI_9i, stI_9n, stI_9r, stR_8i, stR_8n, stR_8r, e67, x67_0, x67_1, x67_4, x67_5, x67_8, x67_11, x67_12, x67_15, ldI_1, ldR_0, e68, x68_0, x68_1, x68_2, x68_5, x68_7, x68_9, x68_12, x68_15, x68_16, x68_17, x68_20, x68_23, x68_24, x68_27, x68_30, x68_31, x68_34, x68_37, x68_40, ldI_1, ldR_0, ldR_5, stR_5i, stR_5n, stR_5r, I_pI, R_pI, c_pI, n_pI, u_pI, t_pI, l_pI, I_pR, R_pR, c_pR, n_pR, u_pR, t_pR, l_pR, get_s, Option.toList, List.nil_append, List.cons_append, List.length_nil, List.length_cons, gi_B, true_and, and_true, false_and, and_false, not_true_eq_false, not_false_eq_true, true_implies, false_implies, implies_true, Classical.not_not, ite_true, ite_false, Option.some.injEq, Sum.inl.injEq, exists_eq', eq_self, true_or, or_true, false_or, or_false, Nat.reduceEqDiff, Nat.reduceLeDiff, Nat.reduceAdd, Nat.zero_le, one_ne0, if_neg one_ne0', lt_102_103, lt_102_104, lt_102_105, lt_102_106, lt_99_107, lt_100_107, lt_101_107, lt_103_107, lt_104_107, lt_105_107, lt_106_107, lt_98_99, lt_98_100, lt_98_101, lt_98_106, t0, u1, e, so_ne, hc25, w1, w2, hw]
        refine t68_1 (m := gi_I h 93 (2 * n + 1) - 1) (S := S1 (gi_I h) (2 * n + 1) (16 * k + i) v (gi_I h 95 (2 * n + 1))) (l := 2 * n + 1) hw t0 u1 u2 u3 g5 hq ab ab1 ?_ ?_ a6' ?_
        · rw [g9, g11 _ hq, if_pos (of_eq_true w1), if_neg (of_eq_false w2)]
          rw [show (0 : Int32) - 1 = -1 from rfl, ← Int32.sub_eq_add_neg]
        · rw [g7]; unfold S1; rw [if_neg (by omega), if_pos ⟨rfl, rfl⟩]
        · simp only [x65_161, R_pI, c_pI, n_pI, u_pI, t_pI, l_pI, R_pR, c_pR, n_pR, u_pR, t_pR, l_pR, get_s, Option.toList, List.nil_append, List.cons_append, List.length_nil, List.length_cons, gi_B]
          have rows : ∀ b' y, 79 ≤ b' → b' < 109 → gi_I (gi_pR (gi_pI (gi_pI (h) b 3 (gi_I h 93 (2 * n + 1) - 1)) (b + 1) (16 * k + i) v) a 10 (if (gi_I h 93 (2 * n + 1) - 1) ≤ 0 then none else some b)) b' y = gi_I h b' y := fun b' y p1 p2 => by
            unfold dy at d1 g1 g2
            rw [I_pR, I_pI, if_neg (by omega), I_pI, if_neg (by omega)]
          refine hQ _ (gi_pR (gi_pI (gi_pI (h) b 3 (gi_I h 93 (2 * n + 1) - 1)) (b + 1) (16 * k + i) v) a 10 (if (gi_I h 93 (2 * n + 1) - 1) ≤ 0 then none else some b)) (S_pR (h := gi_pI (gi_pI h b 3 _) (b + 1) _ v) hS (by unfold dy at d1; omega)) rows ?_
          have hv1 : v = -1 := of_eq_true w1
          have hA5 : al_ (gi_I (gi_pI (gi_pI (gi_pR (gi_pI (gi_pI (h) b 3 (gi_I h 93 (2 * n + 1) - 1)) (b + 1) (16 * k + i) v) a 10 (if (gi_I h 93 (2 * n + 1) - 1) ≤ 0 then none else some b)) 98 (32 * (2 * n + 1) + (16 * k + i)) (-1)) 93 (2 * n + 1) (gi_I h 93 (2 * n + 1) - 1))) (2 * n + 1) = al_ (S1 (gi_I h) (2 * n + 1) (16 * k + i) v (gi_I h 95 (2 * n + 1))) (2 * n + 1) := by
            refine al_at ?_ (fun j hj => ?_)
            · rw [S1_95, I_pI, if_neg (by omega), I_pI, if_neg (by omega)]
              exact rows _ _ (by omega) (by omega)
            · by_cases p : j = (16 * k + i)
              · rw [p, S1_q, I_pI, if_neg (by omega), I_pI, if_pos ⟨rfl, rfl⟩, hv1]
              · rw [S1_n p, I_pI, if_neg (by omega), I_pI, if_neg (by omega)]
                exact rows _ _ (by omega) (by omega)
          have m93 : gi_I (gi_pR (gi_pI (gi_pI (h) b 3 (gi_I h 93 (2 * n + 1) - 1)) (b + 1) (16 * k + i) v) a 10 (if (gi_I h 93 (2 * n + 1) - 1) ≤ 0 then none else some b)) 93 (2 * n + 1) = gi_I h 93 (2 * n + 1) := rows _ _ (by omega) (by omega)
          refine mR_1 (A := al_ (S1 (gi_I h) (2 * n + 1) (16 * k + i) v (gi_I h 95 (2 * n + 1))) (2 * n + 1)) (S_pR (h := gi_pI (gi_pI h b 3 _) (b + 1) _ v) hS (by unfold dy at d1; omega)) hn hk hi rfl hw hv (fun j hj => by rw [rows _ _ (by omega) (by omega)]; exact (q3 j hj).1) (by rw [rows _ _ (by omega) (by omega)]; exact w2) w1 ?_ ?_ ?_
          · rw [m93]; exact hA5
          · intro p
            rw [m93]
            refine ⟨rfl, ?_⟩
            skip
            refine acl_fin (kC := gi_pR (gi_pI (gi_pI (h) b 3 (gi_I h 93 (2 * n + 1) - 1)) (b + 1) (16 * k + i) v) a 10 (if (gi_I h 93 (2 * n + 1) - 1) ≤ 0 then none else some b)) (m := (gi_I h 93 (2 * n + 1) - 1)) (G := gi_I h 95 (2 * n + 1)) (O := gi_I h 96 (2 * n + 1)) (T := gi_I h 97 (2 * n + 1)) (M := gi_I h 87 n) (X := al_ (S1 (gi_I h) (2 * n + 1) (16 * k + i) v (gi_I h 95 (2 * n + 1))) (2 * n + 1)) (r := b) (l := 2 * n + 1) (x9 := 10) (f := 1) J hn hr hN (Or.inr rfl) hq rfl rfl (Or.inl e) ?n1 ?n2 ?n3 ?cF ?cc ?cR ?cRa ?cI ?dr ?dr1 ?l1 ?l2 ?l3 ?l4 ?l5 ?l6 ?l7 ?l8 ?a4 ?e87 ?e93 ?e94 ?e95 ?e96 ?e97 ?e98 ?ek (fun _ _ => rfl) (fun _ => rfl) rfl rfl (fun _ => rfl) (fun e => absurd e (by decide)) (fun _ => rfl) hv q2.1 q2.2.1 q2.2.2 (by rw [if_pos (by rw [e0]; exact of_eq_false w2), if_neg (by rw [v0]; exact fun z => z hv1), es, ets, nI_toInt (by omega), nI_toInt (by omega)]; omega) (by rw [es, nI_toInt (by omega)]; omega) (by rw [es, nI_toInt (by omega)]; omega)
            case n1 => show gi_n h ≤ gi_n h; omega
            case n2 => show gi_n h ≤ gi_n h + 16; omega
            case n3 => show gi_u h ≤ gi_u h + 1000; omega
            case cF => exact jF
            case cc => exact fun _ _ => rfl
            case cR =>
              intro x y w1 w2
              simp only [R_pI, R_pR, if_neg w2]
            case cRa => simp only [R_pI, R_pR, and_self, ite_true]
            case cI =>
              intro x y w1 w2 w3 w4
              rw [I_pR, I_pI, if_neg (by omega), I_pI, if_neg (by omega)]
            case dr => exact g1
            case dr1 => exact g2
            case l1 => exact g3
            case l2 => exact g4
            case l3 => simp only [R_pI, R_pR]; rw [if_neg (by omega)]; exact g5
            case l4 => rw [I_pR, I_pI, if_neg (by omega), I_pI, if_neg (by omega)]; exact g6'
            case l5 => rw [I_pR, I_pI, if_neg (by omega), I_pI, if_neg (by omega)]; exact g7
            case l6 => rw [I_pR, I_pI, if_neg (by omega), I_pI, if_neg (by omega)]; exact g8
            case l7 => rw [I_pR, I_pI, if_neg (by omega), I_pI, if_pos ⟨rfl, rfl⟩]
            case l8 =>
              intro k' hk'
              rw [I_pR, I_pI]
              by_cases p : k' = (16 * k + i)
              · rw [if_pos ⟨rfl, p⟩, if_pos p]
              · rw [if_neg (fun z => p z.2), if_neg p, I_pI, if_neg (by omega), g11 k' hk']
            case a4 => rw [I_pR, I_pI, if_neg (by omega), I_pI, if_neg (by omega)]; exact k4
            case e87 =>
              rw [I_pI, if_neg (by omega), I_pI, if_neg (by omega), I_pI, if_neg (by omega)]; exact rows _ _ (by omega) (by omega)
            case e93 => simp only [I_pI, I_pR, Nat.reduceEqDiff, false_and, and_false, ite_false, ite_true, eq_self, true_and, and_true, and_self]
            case e94 => simp only [I_pI, I_pR, Nat.reduceEqDiff, false_and, and_false, ite_false, ite_true, eq_self, true_and, and_true, and_self]
            case e95 => rw [I_pI, if_neg (by omega), I_pI, if_neg (by omega), I_pI, if_neg (by omega)]; exact rows _ _ (by omega) (by omega)
            case e96 => rw [I_pI, if_neg (by omega), I_pI, if_neg (by omega), I_pI, if_neg (by omega)]; exact rows _ _ (by omega) (by omega)
            case e97 => rw [I_pI, if_neg (by omega), I_pI, if_neg (by omega), I_pI, if_neg (by omega)]; exact rows _ _ (by omega) (by omega)
            case e98 => rw [hv1]; simp only [I_pI, I_pR, Nat.reduceEqDiff, false_and, and_false, ite_false, ite_true, eq_self, true_and, and_true, and_self]
            case ek =>
              intro x y w1 w2 w3
              rw [I_pI, if_neg (by omega), I_pI, if_neg (by omega), I_pI, if_neg (by omega)]
          · intro p
            rw [m93] at p ⊢
            refine ⟨rfl, ?_⟩
            have mz : gi_I h 93 (2 * n + 1) - 1 = 0 := by
              have := of_eq_true p
              rw [es, i32_le, nI_toInt (by omega), ti_0] at this
              rw [es, show s = 0 by omega]; rfl
            have s0 : s = 0 := by
              have := of_eq_true p
              rw [es, i32_le, nI_toInt (by omega), ti_0] at this
              omega
            refine acl_fin (kC := gi_pR (gi_pI (gi_pI (h) b 3 (gi_I h 93 (2 * n + 1) - 1)) (b + 1) (16 * k + i) v) a 10 (if (gi_I h 93 (2 * n + 1) - 1) ≤ 0 then none else some b)) (m := (gi_I h 93 (2 * n + 1) - 1)) (G := gi_I h 95 (2 * n + 1)) (O := gi_I h 96 (2 * n + 1)) (T := gi_I h 97 (2 * n + 1)) (M := gi_I h 87 n) (X := gi_I h 94 (2 * n + 1)) (r := b) (l := 2 * n + 1) (x9 := 10) (f := 1) J hn hr hN (Or.inr rfl) hq rfl rfl (Or.inl e) ?n1 ?n2 ?n3 ?cF ?cc ?cR ?cRa ?cI ?dr ?dr1 ?l1 ?l2 ?l3 ?l4 ?l5 ?l6 ?l7 ?l8 ?a4 ?e87 ?e93 ?e94 ?e95 ?e96 ?e97 ?e98 ?ek (fun _ _ => rfl) (fun _ => rfl) rfl rfl (fun z => absurd mz z) (fun e => absurd e (by decide)) (fun _ => rfl) hv q2.1 q2.2.1 q2.2.2 (by rw [if_pos (by rw [e0]; exact of_eq_false w2), if_neg (by rw [v0]; exact fun z => z hv1), es, ets, nI_toInt (by omega), nI_toInt (by omega)]; omega) (by rw [es, nI_toInt (by omega)]; omega) (by rw [es, nI_toInt (by omega)]; omega)
            case n1 => show gi_n h ≤ gi_n h; omega
            case n2 => show gi_n h ≤ gi_n h + 16; omega
            case n3 => show gi_u h ≤ gi_u h + 1000; omega
            case cF => exact jF
            case cc => exact fun _ _ => rfl
            case cR =>
              intro x y w1 w2
              simp only [R_pI, R_pR, if_neg w2]
            case cRa => simp only [R_pI, R_pR, and_self, ite_true]
            case cI =>
              intro x y w1 w2 w3 w4
              rw [I_pR, I_pI, if_neg (by omega), I_pI, if_neg (by omega)]
            case dr => exact g1
            case dr1 => exact g2
            case l1 => exact g3
            case l2 => exact g4
            case l3 => simp only [R_pI, R_pR]; rw [if_neg (by omega)]; exact g5
            case l4 => rw [I_pR, I_pI, if_neg (by omega), I_pI, if_neg (by omega)]; exact g6'
            case l5 => rw [I_pR, I_pI, if_neg (by omega), I_pI, if_neg (by omega)]; exact g7
            case l6 => rw [I_pR, I_pI, if_neg (by omega), I_pI, if_neg (by omega)]; exact g8
            case l7 => rw [I_pR, I_pI, if_neg (by omega), I_pI, if_pos ⟨rfl, rfl⟩]
            case l8 =>
              intro k' hk'
              rw [I_pR, I_pI]
              by_cases p : k' = (16 * k + i)
              · rw [if_pos ⟨rfl, p⟩, if_pos p]
              · rw [if_neg (fun z => p z.2), if_neg p, I_pI, if_neg (by omega), g11 k' hk']
            case a4 => rw [I_pR, I_pI, if_neg (by omega), I_pI, if_neg (by omega)]; exact k4
            case e87 =>
              rw [I_pI, if_neg (by omega), I_pI, if_neg (by omega)]; exact rows _ _ (by omega) (by omega)
            case e93 => simp only [I_pI, I_pR, Nat.reduceEqDiff, false_and, and_false, ite_false, ite_true, eq_self, true_and, and_true, and_self]
            case e94 => rw [I_pI, if_neg (by omega), I_pI, if_neg (by omega)]; exact rows _ _ (by omega) (by omega)
            case e95 => rw [I_pI, if_neg (by omega), I_pI, if_neg (by omega)]; exact rows _ _ (by omega) (by omega)
            case e96 => rw [I_pI, if_neg (by omega), I_pI, if_neg (by omega)]; exact rows _ _ (by omega) (by omega)
            case e97 => rw [I_pI, if_neg (by omega), I_pI, if_neg (by omega)]; exact rows _ _ (by omega) (by omega)
            case e98 => rw [hv1]; simp only [I_pI, I_pR, Nat.reduceEqDiff, false_and, and_false, ite_false, ite_true, eq_self, true_and, and_true, and_self]
            case ek =>
              intro x y w1 w2 w3
              rw [I_pI, if_neg (by omega), I_pI, if_neg (by omega)]

    · rcases em_ (gi_I h 98 (32 * (2 * n + 1) + (16 * k + i)) = -1) with w2 | w2
      · rcases em_ (gi_I h 93 (2 * n + 1) = 8) with w3 | w3
        · have w4 : (gi_I h 93 (2 * n + 1) < 8) = False := by rw [of_eq_true w3]; decide
          simp only [x65_79, x65_81, x65_82, x65_85, x65_87, x65_89, x65_92, x65_94, x65_96, x65_98, x65_101, x65_102, x65_105, x65_106, x65_109, x65_110, x65_112, x65_114, x65_115, x65_118, x65_120, x65_123, x65_125, x65_126, x65_128, x65_131, x65_133, x65_136, x65_138, x65_141, x65_143, x65_146, x65_148, x65_149, x65_151, x65_152, x65_154, x65_156, x65_158, x65_161, ldI_3, ldI_4, ldI_5, ldI_6, ldI_9, ldR_7, ldR_8, stI_9i, stI_9n, stI_9r, stR_8i, stR_8n, stR_8r, e67, x67_0, x67_1, x67_4, x67_5, x67_8, x67_11, x67_12, x67_15, ldI_1, ldR_0, e68, x68_0, x68_1, x68_2, x68_5, x68_7, x68_9, x68_12, x68_15, x68_16, x68_17, x68_20, x68_23, x68_24, x68_27, x68_30, x68_31, x68_34, x68_37, x68_40, ldI_1, ldR_0, ldR_5, stR_5i, stR_5n, stR_5r, I_pI, R_pI, c_pI, n_pI, u_pI, t_pI, l_pI, I_pR, R_pR, c_pR, n_pR, u_pR, t_pR, l_pR, get_s, Option.toList, List.nil_append, List.cons_append, List.length_nil, List.length_cons, gi_B, true_and, and_true, false_and, and_false, not_true_eq_false, not_false_eq_true, true_implies, false_implies, implies_true, Classical.not_not, ite_true, ite_false, Option.some.injEq, Sum.inl.injEq, exists_eq', eq_self, true_or, or_true, false_or, or_false, Nat.reduceEqDiff, Nat.reduceLeDiff, Nat.reduceAdd, Nat.zero_le, one_ne0, if_neg one_ne0', lt_102_103, lt_102_104, lt_102_105, lt_102_106, lt_99_107, lt_100_107, lt_101_107, lt_103_107, lt_104_107, lt_105_107, lt_106_107, lt_98_99, lt_98_100, lt_98_101, lt_98_106, t0, u1, e, so_ne, hc25, w1, w2, w4, g9, hw]
          refine hQ _ _ hS (fun _ _ _ _ => rfl) ?_
          simp only [x127_78, x127_79, x127_82, x127_83, x127_84, x127_85, x127_86, x127_87, x127_90, x127_91, x127_92, x127_93, x127_95, x127_97, x127_99, x127_100, x127_102, x127_104, x127_105, x127_106, x127_108, x127_109, x127_111, x127_113, x127_116, x127_117, x127_120, x127_122, x127_123, x127_126, x127_128, x127_129, x127_130, x127_133, x127_135, x127_136, x127_137, x127_138, x127_141, x127_143, x127_144, x127_145, x127_146, x127_147, x127_148, x127_149, x127_152, x127_154, x127_155, x127_158, x127_159, x127_160, x127_162, x127_165, x127_168, x127_169, x127_172, x127_173, x127_176, x127_177, x127_178, x127_181, x127_182, x127_183, x127_185, x127_186, x127_187, x127_190, x127_192, x127_193, x127_194, x127_195, x127_196, x127_197, x127_198, x127_201, x127_203, x127_204, x127_205, x127_206, x127_209, x127_211, x127_212, x127_215, x127_216, x127_219, x127_221, x127_222, x127_224, x127_227, x127_229, x127_230, x127_231, x127_234, x127_236, x127_237, x127_240, x127_241, x127_244, x127_246, x127_247, x127_250, x127_251, x127_252, x127_253, x127_254, x127_256, x127_257, x127_258, x127_259, x127_262, x127_264, x127_265, x127_268, x127_269, x127_270, x127_272, x127_273, x127_275, x127_276, x127_277, x127_278, x127_281, x127_283, x127_284, x127_287, x127_288, x127_289, x127_291, x127_292, x127_293, x127_294, x127_297, x127_299, x127_300, x127_303, x127_305, x127_306, x127_309, x127_310, x127_313, x127_315, x127_316, x127_317, x127_318, x127_321, x127_322, x127_325, x127_327, x127_328, x127_329, x127_330, x127_333, x127_335, x127_337, x127_338, x127_339, x127_340, x127_342, x127_345, x127_346, x127_349, x127_351, x127_352, ldI_2, ldI_3, ldI_4, ldI_5, ldI_6, ldI_7, ldI_8, ldR_0, stI_7i, stI_7n, stI_7r, stI_8i, stI_8n, stI_8r, I_pI, R_pI, c_pI, n_pI, u_pI, t_pI, l_pI, I_pR, R_pR, c_pR, n_pR, u_pR, t_pR, l_pR, get_s, Option.toList, List.nil_append, List.cons_append, List.length_nil, List.length_cons, gi_B, tg_1 hS, tg_2 hS, tg_3 hS, tg_4 hS, tg_5 hS, tg_6 hS, tg_7 hS, tg_8 hS, tg_9 hS, tg_10 hS, tg_75 hS, tg_79 hS, tg_80 hS, tg_81 hS, tg_82 hS, tg_83 hS, tg_84 hS, tg_85 hS, tg_86 hS, tg_87 hS, tg_88 hS, tg_89 hS, tg_90 hS, tg_91 hS, tg_92 hS, tg_93 hS, tg_94 hS, tg_95 hS, tg_96 hS, tg_97 hS, tg_98 hS, tg_99 hS, tg_100 hS, tg_101 hS, tg_102 hS, tg_103 hS, tg_104 hS, tg_105 hS, tg_106 hS, tg_107 hS, tg_108 hS, ln_2 hS, ln_3 hS, ln_4 hS, ln_5 hS, ln_7 hS, ln_9 hS, ln_10 hS, ln_75 hS, ln_80 hS, ln_81 hS, ln_82 hS, ln_83 hS, ln_84 hS, ln_85 hS, ln_86 hS, ln_87 hS, ln_88 hS, ln_89 hS, ln_90 hS, ln_91 hS, ln_92 hS, ln_93 hS, ln_94 hS, ln_95 hS, ln_96 hS, ln_97 hS, ln_98 hS, ln_99 hS, ln_100 hS, ln_101 hS, ln_102 hS, ln_103 hS, ln_104 hS, ln_105 hS, ln_106 hS, ln_107 hS, ln_108 hS, rf_1_0 hS, rf_1_1 hS, rf_1_2 hS, rf_1_3 hS, rf_1_4 hS, rf_1_5 hS, rf_1_6 hS, rf_6_0 hS, rf_8_1 hS, rf_8_2 hS, rf_79_1 hS, rf_79_2 hS, rf_79_3 hS, rf_79_4 hS, rf_79_5 hS, rf_79_6 hS, rf_79_7 hS, rf_79_8 hS, rf_79_9 hS, rf_79_10 hS, rf_79_11 hS, rf_79_12 hS, rf_79_13 hS, rf_79_14 hS, rf_79_15 hS, rf_79_16 hS, rf_79_17 hS, rf_79_18 hS, rf_79_19 hS, rf_79_20 hS, rf_79_21 hS, rf_79_22 hS, rf_79_24 hS, rf_79_25 hS, rf_79_26 hS, rf_79_27 hS, rf_79_28 hS, rf_79_29 hS, rf_79_30 hS, true_and, and_true, false_and, and_false, not_true_eq_false, not_false_eq_true, true_implies, false_implies, implies_true, Classical.not_not, ite_true, ite_false, Option.some.injEq, Sum.inl.injEq, exists_eq', eq_self, true_or, or_true, false_or, or_false, Nat.reduceEqDiff, Nat.reduceLeDiff, Nat.reduceAdd, Nat.zero_le, one_ne0, if_neg one_ne0', lt_102_103, lt_102_104, lt_102_105, lt_102_106, lt_99_107, lt_100_107, lt_101_107, lt_103_107, lt_104_107, lt_105_107, lt_106_107, lt_98_99, lt_98_100, lt_98_101, lt_98_106, ix21, ix, a1, a2, b1, b2', v0, e0, hw, w1, w2, w3]
          first | exact jH_up J | exact ⟨rfl, jH_up J⟩
        · have s8 : s + 1 < 8 := Nat.lt_of_not_le (fun z => of_eq_false w3 (by rw [ets, show s + 1 = 8 by omega]; rfl))
          have w4 : (gi_I h 93 (2 * n + 1) < 8) = True := eq_true (by rw [ets, i32_lt, ti_8, nI_toInt (by omega)]; omega)
          simp only [x65_79, x65_81, x65_82, x65_85, x65_87, x65_89, x65_92, x65_94, x65_96, x65_98, x65_101, x65_102, x65_105, x65_106, x65_109, x65_110, x65_112, x65_114, x65_115, x65_118, x65_120, x65_123, x65_125, x65_126, x65_128, x65_131, x65_133, x65_136, x65_138, x65_141, x65_143, x65_146, x65_148, x65_149, x65_151, x65_152, x65_154, x65_156, x65_158, x65_161, ldI_3, ldI_4, ldI_5, ldI_6, ldI_9, ldR_7, ldR_8, stI_9i, stI_9n, stI_9r, stR_8i, stR_8n, stR_8r, e67, x67_0, x67_1, x67_4, x67_5, x67_8, x67_11, x67_12, x67_15, ldI_1, ldR_0, e68, x68_0, x68_1, x68_2, x68_5, x68_7, x68_9, x68_12, x68_15, x68_16, x68_17, x68_20, x68_23, x68_24, x68_27, x68_30, x68_31, x68_34, x68_37, x68_40, ldI_1, ldR_0, ldR_5, stR_5i, stR_5n, stR_5r, I_pI, R_pI, c_pI, n_pI, u_pI, t_pI, l_pI, I_pR, R_pR, c_pR, n_pR, u_pR, t_pR, l_pR, get_s, Option.toList, List.nil_append, List.cons_append, List.length_nil, List.length_cons, gi_B, true_and, and_true, false_and, and_false, not_true_eq_false, not_false_eq_true, true_implies, false_implies, implies_true, Classical.not_not, ite_true, ite_false, Option.some.injEq, Sum.inl.injEq, exists_eq', eq_self, true_or, or_true, false_or, or_false, Nat.reduceEqDiff, Nat.reduceLeDiff, Nat.reduceAdd, Nat.zero_le, one_ne0, if_neg one_ne0', lt_102_103, lt_102_104, lt_102_105, lt_102_106, lt_99_107, lt_100_107, lt_101_107, lt_103_107, lt_104_107, lt_105_107, lt_106_107, lt_98_99, lt_98_100, lt_98_101, lt_98_106, t0, u1, e, so_ne, hc25, w1, w2, w4, g9, hw]
          refine t68_1 (m := gi_I h 93 (2 * n + 1) + 1) (S := S1 (gi_I h) (2 * n + 1) (16 * k + i) v (gi_I h 95 (2 * n + 1))) (l := 2 * n + 1) hw t0 u1 u2 u3 g5 hq ab ab1 ?_ ?_ a6' ?_
          · rw [g9, g11 _ hq]
            rw [if_neg (of_eq_false w1), if_pos (of_eq_true w2)]; rfl
          · rw [g7]; unfold S1; rw [if_neg (by omega), if_pos ⟨rfl, rfl⟩]
          · simp only [x65_161, R_pI, c_pI, n_pI, u_pI, t_pI, l_pI, R_pR, c_pR, n_pR, u_pR, t_pR, l_pR, get_s, Option.toList, List.nil_append, List.cons_append, List.length_nil, List.length_cons, gi_B]
            have rows : ∀ b' y, 79 ≤ b' → b' < 109 → gi_I (gi_pR (gi_pI (gi_pI (h) b 3 (gi_I h 93 (2 * n + 1) + 1)) (b + 1) (16 * k + i) v) a 10 (if (gi_I h 93 (2 * n + 1) + 1) ≤ 0 then none else some b)) b' y = gi_I h b' y := fun b' y p1 p2 => by
              unfold dy at d1 g1 g2
              rw [I_pR, I_pI, if_neg (by omega), I_pI, if_neg (by omega)]
            refine hQ _ (gi_pR (gi_pI (gi_pI (h) b 3 (gi_I h 93 (2 * n + 1) + 1)) (b + 1) (16 * k + i) v) a 10 (if (gi_I h 93 (2 * n + 1) + 1) ≤ 0 then none else some b)) (S_pR (h := gi_pI (gi_pI h b 3 _) (b + 1) _ v) hS (by unfold dy at d1; omega)) rows ?_
            have hA5 : al_ (gi_I (gi_pI (gi_pI (gi_pR (gi_pI (gi_pI (h) b 3 (gi_I h 93 (2 * n + 1) + 1)) (b + 1) (16 * k + i) v) a 10 (if (gi_I h 93 (2 * n + 1) + 1) ≤ 0 then none else some b)) 93 (2 * n + 1) (gi_I h 93 (2 * n + 1) + 1)) 98 (32 * (2 * n + 1) + (16 * k + i)) v)) (2 * n + 1) = al_ (S1 (gi_I h) (2 * n + 1) (16 * k + i) v (gi_I h 95 (2 * n + 1))) (2 * n + 1) := by
              refine al_at ?_ (fun j hj => ?_)
              · rw [S1_95, I_pI, if_neg (by omega), I_pI, if_neg (by omega)]
                exact rows _ _ (by omega) (by omega)
              · by_cases p : j = (16 * k + i)
                · rw [p, S1_q, I_pI, if_pos ⟨rfl, rfl⟩]
                · rw [S1_n p, I_pI, if_neg (by omega), I_pI, if_neg (by omega)]
                  exact rows _ _ (by omega) (by omega)
            refine mE_1 (m := gi_I h 93 (2 * n + 1) + 1) (A := al_ (S1 (gi_I h) (2 * n + 1) (16 * k + i) v (gi_I h 95 (2 * n + 1))) (2 * n + 1)) (S_pR (h := gi_pI (gi_pI h b 3 _) (b + 1) _ v) hS (by unfold dy at d1; omega)) hn hk hi rfl hw hv (fun j hj => by rw [rows _ _ (by omega) (by omega)]; exact (q3 j hj).1) (by rw [rows _ _ (by omega) (by omega)]; exact ln0) ?_ w1 hA5 ?_
            · rw [rows _ _ (by omega) (by omega), rows _ _ (by omega) (by omega)]
              exact Or.inl ⟨w2, w3, rfl⟩
            · refine ⟨rfl, ?_⟩
              skip
              refine acl_fin (kC := gi_pR (gi_pI (gi_pI (h) b 3 (gi_I h 93 (2 * n + 1) + 1)) (b + 1) (16 * k + i) v) a 10 (if (gi_I h 93 (2 * n + 1) + 1) ≤ 0 then none else some b)) (m := (gi_I h 93 (2 * n + 1) + 1)) (G := gi_I h 95 (2 * n + 1)) (O := gi_I h 96 (2 * n + 1)) (T := gi_I h 97 (2 * n + 1)) (M := gi_I h 87 n) (X := al_ (S1 (gi_I h) (2 * n + 1) (16 * k + i) v (gi_I h 95 (2 * n + 1))) (2 * n + 1)) (r := b) (l := 2 * n + 1) (x9 := 10) (f := 1) J hn hr hN (Or.inr rfl) hq rfl rfl (Or.inl e) ?n1 ?n2 ?n3 ?cF ?cc ?cR ?cRa ?cI ?dr ?dr1 ?l1 ?l2 ?l3 ?l4 ?l5 ?l6 ?l7 ?l8 ?a4 ?e87 ?e93 ?e94 ?e95 ?e96 ?e97 ?e98 ?ek (fun _ _ => rfl) (fun _ => rfl) rfl rfl (fun _ => rfl) (fun e => absurd e (by decide)) (fun _ => rfl) hv q2.1 q2.2.1 q2.2.2 (by rw [if_neg (by rw [e0]; exact fun z => z (of_eq_true w2)), if_pos (by rw [v0]; exact of_eq_false w1), ets, nI_il, nI_toInt (by omega), nI_toInt (by omega)]; omega) (by rw [ets, nI_il, nI_toInt (by omega)]; omega) (by rw [ets, nI_il, nI_toInt (by omega)]; omega)
              case n1 => show gi_n h ≤ gi_n h; omega
              case n2 => show gi_n h ≤ gi_n h + 16; omega
              case n3 => show gi_u h ≤ gi_u h + 1000; omega
              case cF => exact jF
              case cc => exact fun _ _ => rfl
              case cR =>
                intro x y w1 w2
                simp only [R_pI, R_pR, if_neg w2]
              case cRa => simp only [R_pI, R_pR, and_self, ite_true]
              case cI =>
                intro x y w1 w2 w3 w4
                rw [I_pR, I_pI, if_neg (by omega), I_pI, if_neg (by omega)]
              case dr => exact g1
              case dr1 => exact g2
              case l1 => exact g3
              case l2 => exact g4
              case l3 => simp only [R_pI, R_pR]; rw [if_neg (by omega)]; exact g5
              case l4 => rw [I_pR, I_pI, if_neg (by omega), I_pI, if_neg (by omega)]; exact g6'
              case l5 => rw [I_pR, I_pI, if_neg (by omega), I_pI, if_neg (by omega)]; exact g7
              case l6 => rw [I_pR, I_pI, if_neg (by omega), I_pI, if_neg (by omega)]; exact g8
              case l7 => rw [I_pR, I_pI, if_neg (by omega), I_pI, if_pos ⟨rfl, rfl⟩]
              case l8 =>
                intro k' hk'
                rw [I_pR, I_pI]
                by_cases p : k' = (16 * k + i)
                · rw [if_pos ⟨rfl, p⟩, if_pos p]
                · rw [if_neg (fun z => p z.2), if_neg p, I_pI, if_neg (by omega), g11 k' hk']
              case a4 => rw [I_pR, I_pI, if_neg (by omega), I_pI, if_neg (by omega)]; exact k4
              case e87 =>
                rw [I_pI, if_neg (by omega), I_pI, if_neg (by omega), I_pI, if_neg (by omega)]; exact rows _ _ (by omega) (by omega)
              case e93 => simp only [I_pI, I_pR, Nat.reduceEqDiff, false_and, and_false, ite_false, ite_true, eq_self, true_and, and_true, and_self]
              case e94 => simp only [I_pI, I_pR, Nat.reduceEqDiff, false_and, and_false, ite_false, ite_true, eq_self, true_and, and_true, and_self]
              case e95 => rw [I_pI, if_neg (by omega), I_pI, if_neg (by omega), I_pI, if_neg (by omega)]; exact rows _ _ (by omega) (by omega)
              case e96 => rw [I_pI, if_neg (by omega), I_pI, if_neg (by omega), I_pI, if_neg (by omega)]; exact rows _ _ (by omega) (by omega)
              case e97 => rw [I_pI, if_neg (by omega), I_pI, if_neg (by omega), I_pI, if_neg (by omega)]; exact rows _ _ (by omega) (by omega)
              case e98 => simp only [I_pI, I_pR, Nat.reduceEqDiff, false_and, and_false, ite_false, ite_true, eq_self, true_and, and_true, and_self]
              case ek =>
                intro x y w1 w2 w3
                rw [I_pI, if_neg (by omega), I_pI, if_neg (by omega), I_pI, if_neg (by omega)]

      · simp only [x65_79, x65_81, x65_82, x65_85, x65_87, x65_89, x65_92, x65_94, x65_96, x65_98, x65_101, x65_102, x65_105, x65_106, x65_109, x65_110, x65_112, x65_114, x65_115, x65_118, x65_120, x65_123, x65_125, x65_126, x65_128, x65_131, x65_133, x65_136, x65_138, x65_141, x65_143, x65_146, x65_148, x65_149, x65_151, x65_152, x65_154, x65_156, x65_158, x65_161, ldI_3, ldI_4, ldI_5, ldI_6, ldI_9, ldR_7, ldR_8, stI_9i, stI_9n, stI_9r, stR_8i, stR_8n, stR_8r, e67, x67_0, x67_1, x67_4, x67_5, x67_8, x67_11, x67_12, x67_15, ldI_1, ldR_0, e68, x68_0, x68_1, x68_2, x68_5, x68_7, x68_9, x68_12, x68_15, x68_16, x68_17, x68_20, x68_23, x68_24, x68_27, x68_30, x68_31, x68_34, x68_37, x68_40, ldI_1, ldR_0, ldR_5, stR_5i, stR_5n, stR_5r, I_pI, R_pI, c_pI, n_pI, u_pI, t_pI, l_pI, I_pR, R_pR, c_pR, n_pR, u_pR, t_pR, l_pR, get_s, Option.toList, List.nil_append, List.cons_append, List.length_nil, List.length_cons, gi_B, true_and, and_true, false_and, and_false, not_true_eq_false, not_false_eq_true, true_implies, false_implies, implies_true, Classical.not_not, ite_true, ite_false, Option.some.injEq, Sum.inl.injEq, exists_eq', eq_self, true_or, or_true, false_or, or_false, Nat.reduceEqDiff, Nat.reduceLeDiff, Nat.reduceAdd, Nat.zero_le, one_ne0, if_neg one_ne0', lt_102_103, lt_102_104, lt_102_105, lt_102_106, lt_99_107, lt_100_107, lt_101_107, lt_103_107, lt_104_107, lt_105_107, lt_106_107, lt_98_99, lt_98_100, lt_98_101, lt_98_106, t0, u1, e, so_ne, hc25, w1, w2, g9, hw]
        refine t68_1 (m := gi_I h 93 (2 * n + 1)) (S := S1 (gi_I h) (2 * n + 1) (16 * k + i) v (gi_I h 95 (2 * n + 1))) (l := 2 * n + 1) hw t0 u1 u2 u3 g5 hq ab ab1 ?_ ?_ a6' ?_
        · rw [g9, g11 _ hq]
          rw [if_neg (of_eq_false w1), if_neg (of_eq_false w2), show (1 : Int32) - 1 = 0 from rfl, Int32.add_zero]
        · rw [g7]; unfold S1; rw [if_neg (by omega), if_pos ⟨rfl, rfl⟩]
        · simp only [x65_161, R_pI, c_pI, n_pI, u_pI, t_pI, l_pI, R_pR, c_pR, n_pR, u_pR, t_pR, l_pR, get_s, Option.toList, List.nil_append, List.cons_append, List.length_nil, List.length_cons, gi_B]
          have rows : ∀ b' y, 79 ≤ b' → b' < 109 → gi_I (gi_pR (gi_pI (gi_pI (h) b 3 (gi_I h 93 (2 * n + 1))) (b + 1) (16 * k + i) v) a 10 (if (gi_I h 93 (2 * n + 1)) ≤ 0 then none else some b)) b' y = gi_I h b' y := fun b' y p1 p2 => by
            unfold dy at d1 g1 g2
            rw [I_pR, I_pI, if_neg (by omega), I_pI, if_neg (by omega)]
          refine hQ _ (gi_pR (gi_pI (gi_pI (h) b 3 (gi_I h 93 (2 * n + 1))) (b + 1) (16 * k + i) v) a 10 (if (gi_I h 93 (2 * n + 1)) ≤ 0 then none else some b)) (S_pR (h := gi_pI (gi_pI h b 3 _) (b + 1) _ v) hS (by unfold dy at d1; omega)) rows ?_
          have hA5 : al_ (gi_I (gi_pI (gi_pI (gi_pR (gi_pI (gi_pI (h) b 3 (gi_I h 93 (2 * n + 1))) (b + 1) (16 * k + i) v) a 10 (if (gi_I h 93 (2 * n + 1)) ≤ 0 then none else some b)) 93 (2 * n + 1) (gi_I h 93 (2 * n + 1))) 98 (32 * (2 * n + 1) + (16 * k + i)) v)) (2 * n + 1) = al_ (S1 (gi_I h) (2 * n + 1) (16 * k + i) v (gi_I h 95 (2 * n + 1))) (2 * n + 1) := by
            refine al_at ?_ (fun j hj => ?_)
            · rw [S1_95, I_pI, if_neg (by omega), I_pI, if_neg (by omega)]
              exact rows _ _ (by omega) (by omega)
            · by_cases p : j = (16 * k + i)
              · rw [p, S1_q, I_pI, if_pos ⟨rfl, rfl⟩]
              · rw [S1_n p, I_pI, if_neg (by omega), I_pI, if_neg (by omega)]
                exact rows _ _ (by omega) (by omega)
          refine mE_1 (m := gi_I h 93 (2 * n + 1)) (A := al_ (S1 (gi_I h) (2 * n + 1) (16 * k + i) v (gi_I h 95 (2 * n + 1))) (2 * n + 1)) (S_pR (h := gi_pI (gi_pI h b 3 _) (b + 1) _ v) hS (by unfold dy at d1; omega)) hn hk hi rfl hw hv (fun j hj => by rw [rows _ _ (by omega) (by omega)]; exact (q3 j hj).1) (by rw [rows _ _ (by omega) (by omega)]; exact ln0) ?_ w1 hA5 ?_
          · rw [rows _ _ (by omega) (by omega), rows _ _ (by omega) (by omega)]
            exact Or.inr ⟨w2, rfl⟩
          · refine ⟨rfl, ?_⟩
            skip
            refine acl_fin (kC := gi_pR (gi_pI (gi_pI (h) b 3 (gi_I h 93 (2 * n + 1))) (b + 1) (16 * k + i) v) a 10 (if (gi_I h 93 (2 * n + 1)) ≤ 0 then none else some b)) (m := (gi_I h 93 (2 * n + 1))) (G := gi_I h 95 (2 * n + 1)) (O := gi_I h 96 (2 * n + 1)) (T := gi_I h 97 (2 * n + 1)) (M := gi_I h 87 n) (X := al_ (S1 (gi_I h) (2 * n + 1) (16 * k + i) v (gi_I h 95 (2 * n + 1))) (2 * n + 1)) (r := b) (l := 2 * n + 1) (x9 := 10) (f := 1) J hn hr hN (Or.inr rfl) hq rfl rfl (Or.inl e) ?n1 ?n2 ?n3 ?cF ?cc ?cR ?cRa ?cI ?dr ?dr1 ?l1 ?l2 ?l3 ?l4 ?l5 ?l6 ?l7 ?l8 ?a4 ?e87 ?e93 ?e94 ?e95 ?e96 ?e97 ?e98 ?ek (fun _ _ => rfl) (fun _ => rfl) rfl rfl (fun _ => rfl) (fun e => absurd e (by decide)) (fun _ => rfl) hv q2.1 q2.2.1 q2.2.2 (by rw [if_pos (by rw [e0]; exact of_eq_false w2), if_pos (by rw [v0]; exact of_eq_false w1)]) (by rw [ets, nI_toInt (by omega)]; omega) (by rw [ets, nI_toInt (by omega)]; omega)
            case n1 => show gi_n h ≤ gi_n h; omega
            case n2 => show gi_n h ≤ gi_n h + 16; omega
            case n3 => show gi_u h ≤ gi_u h + 1000; omega
            case cF => exact jF
            case cc => exact fun _ _ => rfl
            case cR =>
              intro x y w1 w2
              simp only [R_pI, R_pR, if_neg w2]
            case cRa => simp only [R_pI, R_pR, and_self, ite_true]
            case cI =>
              intro x y w1 w2 w3 w4
              rw [I_pR, I_pI, if_neg (by omega), I_pI, if_neg (by omega)]
            case dr => exact g1
            case dr1 => exact g2
            case l1 => exact g3
            case l2 => exact g4
            case l3 => simp only [R_pI, R_pR]; rw [if_neg (by omega)]; exact g5
            case l4 => rw [I_pR, I_pI, if_neg (by omega), I_pI, if_neg (by omega)]; exact g6'
            case l5 => rw [I_pR, I_pI, if_neg (by omega), I_pI, if_neg (by omega)]; exact g7
            case l6 => rw [I_pR, I_pI, if_neg (by omega), I_pI, if_neg (by omega)]; exact g8
            case l7 => rw [I_pR, I_pI, if_neg (by omega), I_pI, if_pos ⟨rfl, rfl⟩]
            case l8 =>
              intro k' hk'
              rw [I_pR, I_pI]
              by_cases p : k' = (16 * k + i)
              · rw [if_pos ⟨rfl, p⟩, if_pos p]
              · rw [if_neg (fun z => p z.2), if_neg p, I_pI, if_neg (by omega), g11 k' hk']
            case a4 => rw [I_pR, I_pI, if_neg (by omega), I_pI, if_neg (by omega)]; exact k4
            case e87 =>
              rw [I_pI, if_neg (by omega), I_pI, if_neg (by omega), I_pI, if_neg (by omega)]; exact rows _ _ (by omega) (by omega)
            case e93 => simp only [I_pI, I_pR, Nat.reduceEqDiff, false_and, and_false, ite_false, ite_true, eq_self, true_and, and_true, and_self]
            case e94 => simp only [I_pI, I_pR, Nat.reduceEqDiff, false_and, and_false, ite_false, ite_true, eq_self, true_and, and_true, and_self]
            case e95 => rw [I_pI, if_neg (by omega), I_pI, if_neg (by omega), I_pI, if_neg (by omega)]; exact rows _ _ (by omega) (by omega)
            case e96 => rw [I_pI, if_neg (by omega), I_pI, if_neg (by omega), I_pI, if_neg (by omega)]; exact rows _ _ (by omega) (by omega)
            case e97 => rw [I_pI, if_neg (by omega), I_pI, if_neg (by omega), I_pI, if_neg (by omega)]; exact rows _ _ (by omega) (by omega)
            case e98 => simp only [I_pI, I_pR, Nat.reduceEqDiff, false_and, and_false, ite_false, ite_true, eq_self, true_and, and_true, and_self]
            case ek =>
              intro x y w1 w2 w3
              rw [I_pI, if_neg (by omega), I_pI, if_neg (by omega), I_pI, if_neg (by omega)]



/-! write: the model -/
set_option maxRecDepth 100000

theorem smod6 : ∀ t, t < 64 → (((nI t).toInt64 &&& 63).toBitVec.smod 64).toNat = t := by decide +kernel
theorem umod6 : ∀ t, t < 64 → (((nI t).toInt64.toUInt64 &&& Int64.toUInt64 63).toBitVec % 64#64).toNat = t := by decide +kernel
theorem vbm {w : Int64} {s : Nat} (hs : s ≤ 56) : (mv w s).toInt8.toInt32 = (cv w s).toInt8.toInt32 := by
  congr 1
  apply Int8.toBitVec_inj.mp
  unfold mv cv
  rw [Int32.toBitVec_toInt8, Int32.toBitVec_toInt8, Int64.toBitVec_toInt32, Int64.toBitVec_toInt32]
  apply BitVec.eq_of_getLsbD_eq
  intro i hi
  have e1 : (w >>> ((nI s).toInt64 &&& 63)).toBitVec = w.toBitVec.sshiftRight s := by
    rw [Int64.toBitVec_shiftRight, BitVec.sshiftRight', smod6 s (by omega)]
  have e2 : ((w.toUInt64 >>> ((nI s).toInt64.toUInt64 &&& Int64.toUInt64 63)).toInt64).toBitVec = w.toBitVec >>> s := by
    show (w.toUInt64 >>> ((nI s).toInt64.toUInt64 &&& Int64.toUInt64 63)).toBitVec = _
    rw [UInt64.toBitVec_shiftRight]
    show w.toBitVec >>> (((nI s).toInt64.toUInt64 &&& Int64.toUInt64 63).toBitVec % 64#64) = _
    rw [BitVec.ushiftRight_eq', umod6 s (by omega)]
  rw [e1, e2]
  have h1 : s + i < 64 := by omega
  have t1 : ∀ v : BitVec 64, ((v.signExtend 32).signExtend 8).getLsbD i = v.getLsbD i := fun v => by
    rw [BitVec.getLsbD_signExtend, BitVec.getLsbD_signExtend]
    simp [show i < 8 by omega, show i < 32 by omega, show i < 64 by omega]
  rw [t1, t1, BitVec.getLsbD_sshiftRight, BitVec.getLsbD_ushiftRight]
  simp [h1, show ¬ 64 ≤ i by omega]
def chc (S : gi_Z) (c ow gr : Nat) (T : gi_T) : gi_T := bo_ (fun p => it_ (CH S p) c) (2 * ow + 0) (32 + 2 * gr + 0) T
theorem chc_0 {S : gi_Z} {ow gr : Nat} {T : gi_T} : chc S 0 ow gr T = T := by
  funext p
  unfold chc
  rw [bo_v]
  split <;> rfl
theorem chc_s {S : gi_Z} {c ow gr : Nat} {T : gi_T} : bo_ (CH S) (2 * ow + 0) (32 + 2 * gr + 0) (chc S c ow gr T) = chc S (c + 1) ow gr T := by
  funext p
  unfold chc
  rw [bo_v, bo_v, bo_v]
  by_cases w : p = 2 * ow + 0 ∨ p = 32 + 2 * gr + 0
  · rw [if_pos w, if_pos w, if_pos w]; rfl
  · rw [if_neg w, if_neg w, if_neg w]
theorem chc_a {S : gi_Z} {c ow gr p : Nat} {T : gi_T} (h : p = 2 * ow + 0 ∨ p = 32 + 2 * gr + 0) : chc S c ow gr T p = it_ (CH S p) c (T p) := by
  unfold chc
  rw [bo_v, if_pos h]
/-- the charges -/
theorem lp_119a {d u n q0 N lk ow gr : Nat} {w : Int64} {k : gi_H} {T : gi_T} {Q : gi_P} {S : gi_Z} (hS : gi_S k) (hq : QS k S) (hn : n < 64) (h0 : 0 < n) (ho : ow < 16) (hg : gr < 16) (e1 : gi_I k 85 n = nI ow) (e2 : gi_I k 86 n = nI gr) (hl : lk ≤ 2) : ∀ m j, j + m = lk → gi_ex (gi_cx (d + 4)) 119 Q 189 [some (.inr (.inr (some 79))), some (.inl (nI u)), some (.inl (nI n)), some (.inl (nI q0)), some (.inl (nI N)), some (.inr (.inl w)), none, some (.inl (nI (q0 / 64))), some (.inl (nI ((q0 + N - 1) / 64))), some (.inl (nI lk)), some (.inl (b2 (!(rf_ S (2 * ow + 0) (j + m) (T (2 * ow + 0)) || rf_ S (32 + 2 * gr + 0) (j + m) (T (32 + 2 * gr + 0)))))), some (.inl (nI (j + m))), none] [] (rw2 k 107 108 (chc S (j + m) ow gr T)) → gi_ex (gi_cx (d + 4)) 119 Q 155 [some (.inr (.inr (some 79))), some (.inl (nI u)), some (.inl (nI n)), some (.inl (nI q0)), some (.inl (nI N)), some (.inr (.inl w)), none, some (.inl (nI (q0 / 64))), some (.inl (nI ((q0 + N - 1) / 64))), some (.inl (nI lk)), some (.inl (b2 (!(rf_ S (2 * ow + 0) j (T (2 * ow + 0)) || rf_ S (32 + 2 * gr + 0) j (T (32 + 2 * gr + 0)))))), some (.inl (nI j)), none] [] (rw2 k 107 108 (chc S j ow gr T)) := by
  intro m
  induction m with
  | zero =>
    intro j e h0'
    obtain rfl : j = lk := by omega
    rw [x119_155]
    simp only [x119_157, x119_159, ldI_9, ldI_11, I_pI, R_pI, c_pI, n_pI, u_pI, t_pI, l_pI, I_pR, R_pR, c_pR, n_pR, u_pR, t_pR, l_pR, get_s, Option.toList, List.nil_append, List.cons_append, List.length_nil, List.length_cons, gi_B, true_and, and_true, false_and, and_false, not_true_eq_false, not_false_eq_true, true_implies, false_implies, implies_true, Classical.not_not, ite_true, ite_false, Option.some.injEq, Sum.inl.injEq, exists_eq', eq_self, true_or, or_true, false_or, or_false, Nat.reduceEqDiff, Nat.reduceLeDiff, Nat.reduceAdd, Nat.zero_le, one_ne0, if_neg one_ne0', lt_102_103, lt_102_104, lt_102_105, lt_102_106, lt_99_107, lt_100_107, lt_101_107, lt_103_107, lt_104_107, lt_105_107, lt_106_107, lt_98_99, lt_98_100, lt_98_101, lt_98_106, lit_ge]
    exact h0'
  | succ m ih =>
    intro j e h0'
    have nx := ih (j + 1) (by omega) (by rw [show j + 1 + m = j + (m + 1) by omega]; exact h0')
    have z3 : (nI lk ≤ nI j) = False := lit_le (N := lk) (by omega) (by omega)
    have c108 := fun {d : Nat} {Q : gi_P} => c_108_0 (d := d) (h := k) (T := chc S j ow gr T) (Q := Q) (S := S) hS hq hn h0 ho hg e1 e2
    rw [chc_s, chc_a (Or.inl rfl), chc_a (Or.inr rfl)] at c108
    rw [rf_s, rf_s] at nx
    rw [x119_155]
    cases g1 : GD S (32 + 2 * gr + 0) (it_ (CH S (32 + 2 * gr + 0)) j (T (32 + 2 * gr + 0))) <;> cases g2 : GD S (2 * ow + 0) (it_ (CH S (2 * ow + 0)) j (T (2 * ow + 0))) <;> cases g3 : rf_ S (2 * ow + 0) j (T (2 * ow + 0)) <;> cases g4 : rf_ S (32 + 2 * gr + 0) j (T (32 + 2 * gr + 0)) <;>
      simp only [g1, g2, g3, g4, Bool.and_true, Bool.and_false, Bool.true_and, Bool.false_and, Bool.or_true, Bool.or_false, Bool.true_or, Bool.false_or, Bool.not_true, Bool.not_false, b2t, b2f] at nx c108 ⊢ <;>
      simp only [x119_157, x119_159, x119_162, x119_163, x119_164, x119_165, x119_168, x119_171, x119_173, x119_176, x119_177, x119_180, x119_181, x119_183, x119_186, inc_11i, inc_11n, inc_11r, ldI_10, ldI_2, ldI_9, ldR_0, stI_10i, stI_10n, stI_10r, ldI_11, I_pI, R_pI, c_pI, n_pI, u_pI, t_pI, l_pI, I_pR, R_pR, c_pR, n_pR, u_pR, t_pR, l_pR, get_s, Option.toList, List.nil_append, List.cons_append, List.length_nil, List.length_cons, gi_B, true_and, and_true, false_and, and_false, not_true_eq_false, not_false_eq_true, true_implies, false_implies, implies_true, Classical.not_not, ite_true, ite_false, Option.some.injEq, Sum.inl.injEq, exists_eq', eq_self, true_or, or_true, false_or, or_false, Nat.reduceEqDiff, Nat.reduceLeDiff, Nat.reduceAdd, Nat.zero_le, one_ne0, if_neg one_ne0', lt_102_103, lt_102_104, lt_102_105, lt_102_106, lt_99_107, lt_100_107, lt_101_107, lt_103_107, lt_104_107, lt_105_107, lt_106_107, lt_98_99, lt_98_100, lt_98_101, lt_98_106, t_rw2, tg_79 hS, z3, c108, nI_i1] <;> exact nx
/-- the model's bytes of one part that is there -/
theorem lp_119b {d u n q0 N lk b p : Nat} {w : Int64} {l10 : Int32} {k : gi_H} {Q : gi_P} (hS : gi_S k) (hn : n < 64) (hN : N ≤ 8) (hq : q0 + N ≤ 768) (hb : b < 256) : ∀ m i (F : gi_Z) (i0 m0 : Nat) (l12 : Option gi_V), i + m ≤ N → (∀ j, i ≤ j → j < i + m → (q0 + j) / 64 = p) → i0 + m0 = i → F 89 (12 * n + p) = nI b → (l12 = none ∨ ∃ x, l12 = some (.inl x)) → (∀ l12, (l12 = none ∨ ∃ x, l12 = some (.inl x)) → gi_ex (gi_cx d) 119 Q 256 [some (.inr (.inr (some 79))), some (.inl (nI u)), some (.inl (nI n)), some (.inl (nI q0)), some (.inl (nI N)), some (.inr (.inl w)), none, some (.inl (nI (q0 / 64))), some (.inl (nI ((q0 + N - 1) / 64))), some (.inl (nI lk)), some (.inl l10), some (.inl (nI (i + m))), l12] [] (wI k (Wb w N q0 b F i0 (m0 + m)))) → gi_ex (gi_cx d) 119 Q 256 [some (.inr (.inr (some 79))), some (.inl (nI u)), some (.inl (nI n)), some (.inl (nI q0)), some (.inl (nI N)), some (.inr (.inl w)), none, some (.inl (nI (q0 / 64))), some (.inl (nI ((q0 + N - 1) / 64))), some (.inl (nI lk)), some (.inl l10), some (.inl (nI i)), l12] [] (wI k (Wb w N q0 b F i0 m0)) := by
  intro m
  induction m with
  | zero =>
    intro i F i0 m0 l12 _ _ _ _ h12 k'
    exact k' l12 h12
  | succ m ih =>
    intro i F i0 m0 l12 him hp e0 e9 h12 k'
    have hpi := hp i (by omega) (by omega)
    have nx := ih (i + 1) F i0 (m0 + 1) (some (.inl (nI (q0 + i)))) (by omega) (fun j w1 w2 => hp j (by omega) (by omega)) (by omega) e9 (Or.inr ⟨_, rfl⟩) (fun l12 h12 => by
      rw [show i + 1 + m = i + (m + 1) by omega, show m0 + 1 + m = m0 + (m + 1) by omega]
      exact k' l12 h12)
    have st : wI k (Wb w N q0 b F i0 (m0 + 1)) = gi_pI (wI k (Wb w N q0 b F i0 m0)) 92 (64 * b + (q0 + i) % 64) (vb w N i) := by
      simp only [Wb]
      rw [e0]
      rfl
    rw [st] at nx
    have z1 : vp_in (nI (12 * n + p)) 768 := vp_in_nI (by omega) (by omega)
    have z2 : (nI (12 * n + p)).toNatClampNeg = 12 * n + p := nI_clamp (by omega)
    have z3 : (nI N ≤ nI i) = False := lit_le (N := N) (by omega) (by omega)
    have y1 : vp_in (nI (64 * b + (q0 + i) % 64)) 16384 := vp_in_nI (by omega) (by omega)
    have y2 : (nI (64 * b + (q0 + i) % 64)).toNatClampNeg = 64 * b + (q0 + i) % 64 := nI_clamp (by omega)
    have rd : Wb w N q0 b F i0 m0 89 (12 * n + p) = nI b := by rw [Wb_o (by omega)]; exact e9
    have D1 := dv64 (q := q0 + i) (by omega)
    have D2 := rm64 (q := q0 + i) (by omega)
    rw [hpi] at D1
    rw [hpi, ix64] at D2
    have sh := sh8 hN (show i < N by omega)
    have mvd : (w >>> ((nI (8 * (N - 1 - i))).toInt64 &&& 63)).toInt32.toInt8.toInt32.toInt8.toInt32 = vb w N i := by
      rw [i2b2]
      exact vbm (by omega)
    have hSz : gi_S (wI k (Wb w N q0 b F i0 m0)) := hS
    rw [x119_256]
    rcases h12 with rfl | ⟨x, rfl⟩ <;> simp only [x119_258, x119_260, x119_263, x119_264, x119_266, x119_267, x119_269, x119_270, x119_273, x119_275, x119_276, x119_279, x119_281, x119_282, x119_283, x119_285, x119_287, x119_288, x119_289, x119_290, x119_291, x119_293, x119_295, x119_296, x119_297, x119_299, x119_301, x119_303, x119_304, x119_305, x119_307, x119_308, x119_309, x119_310, x119_311, x119_312, x119_313, x119_316, inc_11i, inc_11n, inc_11r, ldI_11, ldI_12, ldI_2, ldI_3, ldI_4, ldL_5, ldR_0, stI_12i, stI_12n, stI_12r, I_pI, R_pI, c_pI, n_pI, u_pI, t_pI, l_pI, I_pR, R_pR, c_pR, n_pR, u_pR, t_pR, l_pR, get_s, Option.toList, List.nil_append, List.cons_append, List.length_nil, List.length_cons, gi_B, tg_1 hSz, tg_2 hSz, tg_3 hSz, tg_4 hSz, tg_5 hSz, tg_6 hSz, tg_7 hSz, tg_8 hSz, tg_9 hSz, tg_10 hSz, tg_75 hSz, tg_79 hSz, tg_80 hSz, tg_81 hSz, tg_82 hSz, tg_83 hSz, tg_84 hSz, tg_85 hSz, tg_86 hSz, tg_87 hSz, tg_88 hSz, tg_89 hSz, tg_90 hSz, tg_91 hSz, tg_92 hSz, tg_93 hSz, tg_94 hSz, tg_95 hSz, tg_96 hSz, tg_97 hSz, tg_98 hSz, tg_99 hSz, tg_100 hSz, tg_101 hSz, tg_102 hSz, tg_103 hSz, tg_104 hSz, tg_105 hSz, tg_106 hSz, tg_107 hSz, tg_108 hSz, ln_2 hSz, ln_3 hSz, ln_4 hSz, ln_5 hSz, ln_7 hSz, ln_9 hSz, ln_10 hSz, ln_75 hSz, ln_80 hSz, ln_81 hSz, ln_82 hSz, ln_83 hSz, ln_84 hSz, ln_85 hSz, ln_86 hSz, ln_87 hSz, ln_88 hSz, ln_89 hSz, ln_90 hSz, ln_91 hSz, ln_92 hSz, ln_93 hSz, ln_94 hSz, ln_95 hSz, ln_96 hSz, ln_97 hSz, ln_98 hSz, ln_99 hSz, ln_100 hSz, ln_101 hSz, ln_102 hSz, ln_103 hSz, ln_104 hSz, ln_105 hSz, ln_106 hSz, ln_107 hSz, ln_108 hSz, rf_1_0 hSz, rf_1_1 hSz, rf_1_2 hSz, rf_1_3 hSz, rf_1_4 hSz, rf_1_5 hSz, rf_1_6 hSz, rf_6_0 hSz, rf_8_1 hSz, rf_8_2 hSz, rf_79_1 hSz, rf_79_2 hSz, rf_79_3 hSz, rf_79_4 hSz, rf_79_5 hSz, rf_79_6 hSz, rf_79_7 hSz, rf_79_8 hSz, rf_79_9 hSz, rf_79_10 hSz, rf_79_11 hSz, rf_79_12 hSz, rf_79_13 hSz, rf_79_14 hSz, rf_79_15 hSz, rf_79_16 hSz, rf_79_17 hSz, rf_79_18 hSz, rf_79_19 hSz, rf_79_20 hSz, rf_79_21 hSz, rf_79_22 hSz, rf_79_24 hSz, rf_79_25 hSz, rf_79_26 hSz, rf_79_27 hSz, rf_79_28 hSz, rf_79_29 hSz, rf_79_30 hSz, true_and, and_true, false_and, and_false, not_true_eq_false, not_false_eq_true, true_implies, false_implies, implies_true, Classical.not_not, ite_true, ite_false, Option.some.injEq, Sum.inl.injEq, exists_eq', eq_self, true_or, or_true, false_or, or_false, Nat.reduceEqDiff, Nat.reduceLeDiff, Nat.reduceAdd, Nat.zero_le, one_ne0, if_neg one_ne0', lt_102_103, lt_102_104, lt_102_105, lt_102_106, lt_99_107, lt_100_107, lt_101_107, lt_103_107, lt_104_107, lt_105_107, lt_106_107, lt_98_99, lt_98_100, lt_98_101, lt_98_106, I_wI, R_wI, c_wI, n_wI, u_wI, t_wI, l_wI, z3, nI_add, D1, D2, z64, ix64, ix12, z1, z2, rd, ix64b, ix64c, y1, y2, sh, mvd, nI_i1, Nat.reduceEqDiff] <;> exact nx

/-! quotas: charges of both, refusals, what the class adds -/
set_option maxRecDepth 100000
def CH (S : gi_Z) (k : Nat) (x : Int32 × Int32) : Int32 × Int32 := ch1 (S 103 k) (S 79 0) (gr_ S k) x
def DS (S : gi_Z) (k : Nat) (x : Int32 × Int32) : Int32 × Int32 := ds1 (S 103 k) x
def AD (S : gi_Z) (m : Int32) (k : Nat) (x : Int32 × Int32) : Int32 × Int32 := ad1 (S 103 k) (S 79 0) (gr_ S k) m x
def GD (S : gi_Z) (k : Nat) (x : Int32 × Int32) : Bool := gd1 (S 103 k) (S 104 k) (S 79 0) x
def bo_ (F : Nat → Int32 × Int32 → Int32 × Int32) (p q : Nat) (T : gi_T) : gi_T := fun k => if k = p ∨ k = q then F k (T k) else T k
theorem bo_u {F : Nat → Int32 × Int32 → Int32 × Int32} {p q : Nat} {T : gi_T} (h : q ≠ p) : upq (upq T p (F p (T p))) q (F q (upq T p (F p (T p)) q)) = bo_ F p q T := by
  funext k
  unfold upq bo_
  by_cases e1 : k = p
  · subst e1
    have : ¬ k = q := fun z => h z.symm
    simp [this]
  · by_cases e2 : k = q
    · subst e2; simp [h]
    · simp [e1, e2]
def QS (h : gi_H) (S : gi_Z) : Prop := (∀ p, p < 64 → gi_I h 103 p = S 103 p ∧ gi_I h 104 p = S 104 p) ∧ gi_I h 79 0 = S 79 0 ∧ ∀ k, k < 4 → gi_I h 106 k = S 106 k
def QC (h : gi_H) (S : gi_Z) : Prop := (∀ p, p < 64 → gi_I h (11 + p) 2 = S 103 p ∧ gi_I h (11 + p) 3 = S 104 p) ∧ gi_I h 8 0 = S 79 0 ∧ ∀ k, k < 4 → gi_I h 10 k = S 106 k
theorem grx_0 {S : gi_Z} {i w : Nat} (hi : i < 16) (hw : w < 2) : gr_ S (2 * i + w) = S 106 w := by
  unfold gr_
  rw [show 2 * ((2 * i + w) / 32) + (2 * i + w) % 2 = w by omega]
theorem grx_1 {S : gi_Z} {i w : Nat} (hi : i < 16) (hw : w < 2) : gr_ S (32 + 2 * i + w) = S 106 (2 + w) := by
  unfold gr_
  rw [show 2 * ((32 + 2 * i + w) / 32) + (32 + 2 * i + w) % 2 = 2 + w by omega]

theorem c_109_00 {d i : Nat} {h : gi_H} {T : gi_T} {Q : gi_P} {S : gi_Z} (hS : gi_S h) (hq : QS h S) (hi : i < 16) : gi_cx (d + 2) 109 [.inr (.inr (some 79)), .inl 0, .inl (nI i), .inl 0] (rw2 h 107 108 T) Q ↔ Q (some (.inl (b2 (GD S (2 * i + 0) (T (2 * i + 0)))))) (rw2 h 107 108 (upq T (2 * i + 0) (CH S (2 * i + 0) (T (2 * i + 0))))) := by
  have := c_109 (d := d) (k := 0) (i := i) (w := 0) (Q := Q) (T := T) hS (by omega) hi (by omega)
  rw [show 2 * (16 * 0 + i) + 0 = 2 * i + 0 by omega] at this
  rw [(hq.1 (2 * i + 0) (by omega)).1, (hq.1 (2 * i + 0) (by omega)).2, hq.2.1, hq.2.2 (2 * 0 + 0) (by omega)] at this
  unfold GD CH
  rw [grx_0 hi (by omega)]
  exact this
theorem c_117_00 {d i : Nat} {h : gi_H} {T : gi_T} {Q : gi_P} {S : gi_Z} (hS : gi_S h) (hq : QS h S) (hi : i < 16) : gi_cx (d + 2) 117 [.inr (.inr (some 79)), .inl 0, .inl (nI i), .inl 0] (rw2 h 107 108 T) Q ↔ Q none (rw2 h 107 108 (upq T (2 * i + 0) (DS S (2 * i + 0) (T (2 * i + 0))))) := by
  have := c_117 (d := d) (k := 0) (i := i) (w := 0) (Q := Q) (T := T) hS (by omega) hi (by omega)
  rw [show 2 * (16 * 0 + i) + 0 = 2 * i + 0 by omega] at this
  rw [(hq.1 (2 * i + 0) (by omega)).1] at this
  unfold DS
  exact this
theorem c_109_10 {d i : Nat} {h : gi_H} {T : gi_T} {Q : gi_P} {S : gi_Z} (hS : gi_S h) (hq : QS h S) (hi : i < 16) : gi_cx (d + 2) 109 [.inr (.inr (some 79)), .inl 1, .inl (nI i), .inl 0] (rw2 h 107 108 T) Q ↔ Q (some (.inl (b2 (GD S (32 + 2 * i + 0) (T (32 + 2 * i + 0)))))) (rw2 h 107 108 (upq T (32 + 2 * i + 0) (CH S (32 + 2 * i + 0) (T (32 + 2 * i + 0))))) := by
  have := c_109 (d := d) (k := 1) (i := i) (w := 0) (Q := Q) (T := T) hS (by omega) hi (by omega)
  rw [show 2 * (16 * 1 + i) + 0 = 32 + 2 * i + 0 by omega] at this
  rw [(hq.1 (32 + 2 * i + 0) (by omega)).1, (hq.1 (32 + 2 * i + 0) (by omega)).2, hq.2.1, hq.2.2 (2 * 1 + 0) (by omega)] at this
  unfold GD CH
  rw [grx_1 hi (by omega)]
  exact this
theorem c_117_10 {d i : Nat} {h : gi_H} {T : gi_T} {Q : gi_P} {S : gi_Z} (hS : gi_S h) (hq : QS h S) (hi : i < 16) : gi_cx (d + 2) 117 [.inr (.inr (some 79)), .inl 1, .inl (nI i), .inl 0] (rw2 h 107 108 T) Q ↔ Q none (rw2 h 107 108 (upq T (32 + 2 * i + 0) (DS S (32 + 2 * i + 0) (T (32 + 2 * i + 0))))) := by
  have := c_117 (d := d) (k := 1) (i := i) (w := 0) (Q := Q) (T := T) hS (by omega) hi (by omega)
  rw [show 2 * (16 * 1 + i) + 0 = 32 + 2 * i + 0 by omega] at this
  rw [(hq.1 (32 + 2 * i + 0) (by omega)).1] at this
  unfold DS
  exact this
theorem c_109_01 {d i : Nat} {h : gi_H} {T : gi_T} {Q : gi_P} {S : gi_Z} (hS : gi_S h) (hq : QS h S) (hi : i < 16) : gi_cx (d + 2) 109 [.inr (.inr (some 79)), .inl 0, .inl (nI i), .inl 1] (rw2 h 107 108 T) Q ↔ Q (some (.inl (b2 (GD S (2 * i + 1) (T (2 * i + 1)))))) (rw2 h 107 108 (upq T (2 * i + 1) (CH S (2 * i + 1) (T (2 * i + 1))))) := by
  have := c_109 (d := d) (k := 0) (i := i) (w := 1) (Q := Q) (T := T) hS (by omega) hi (by omega)
  rw [show 2 * (16 * 0 + i) + 1 = 2 * i + 1 by omega] at this
  rw [(hq.1 (2 * i + 1) (by omega)).1, (hq.1 (2 * i + 1) (by omega)).2, hq.2.1, hq.2.2 (2 * 0 + 1) (by omega)] at this
  unfold GD CH
  rw [grx_0 hi (by omega)]
  exact this
theorem c_117_01 {d i : Nat} {h : gi_H} {T : gi_T} {Q : gi_P} {S : gi_Z} (hS : gi_S h) (hq : QS h S) (hi : i < 16) : gi_cx (d + 2) 117 [.inr (.inr (some 79)), .inl 0, .inl (nI i), .inl 1] (rw2 h 107 108 T) Q ↔ Q none (rw2 h 107 108 (upq T (2 * i + 1) (DS S (2 * i + 1) (T (2 * i + 1))))) := by
  have := c_117 (d := d) (k := 0) (i := i) (w := 1) (Q := Q) (T := T) hS (by omega) hi (by omega)
  rw [show 2 * (16 * 0 + i) + 1 = 2 * i + 1 by omega] at this
  rw [(hq.1 (2 * i + 1) (by omega)).1] at this
  unfold DS
  exact this
theorem c_109_11 {d i : Nat} {h : gi_H} {T : gi_T} {Q : gi_P} {S : gi_Z} (hS : gi_S h) (hq : QS h S) (hi : i < 16) : gi_cx (d + 2) 109 [.inr (.inr (some 79)), .inl 1, .inl (nI i), .inl 1] (rw2 h 107 108 T) Q ↔ Q (some (.inl (b2 (GD S (32 + 2 * i + 1) (T (32 + 2 * i + 1)))))) (rw2 h 107 108 (upq T (32 + 2 * i + 1) (CH S (32 + 2 * i + 1) (T (32 + 2 * i + 1))))) := by
  have := c_109 (d := d) (k := 1) (i := i) (w := 1) (Q := Q) (T := T) hS (by omega) hi (by omega)
  rw [show 2 * (16 * 1 + i) + 1 = 32 + 2 * i + 1 by omega] at this
  rw [(hq.1 (32 + 2 * i + 1) (by omega)).1, (hq.1 (32 + 2 * i + 1) (by omega)).2, hq.2.1, hq.2.2 (2 * 1 + 1) (by omega)] at this
  unfold GD CH
  rw [grx_1 hi (by omega)]
  exact this
theorem c_117_11 {d i : Nat} {h : gi_H} {T : gi_T} {Q : gi_P} {S : gi_Z} (hS : gi_S h) (hq : QS h S) (hi : i < 16) : gi_cx (d + 2) 117 [.inr (.inr (some 79)), .inl 1, .inl (nI i), .inl 1] (rw2 h 107 108 T) Q ↔ Q none (rw2 h 107 108 (upq T (32 + 2 * i + 1) (DS S (32 + 2 * i + 1) (T (32 + 2 * i + 1))))) := by
  have := c_117 (d := d) (k := 1) (i := i) (w := 1) (Q := Q) (T := T) hS (by omega) hi (by omega)
  rw [show 2 * (16 * 1 + i) + 1 = 32 + 2 * i + 1 by omega] at this
  rw [(hq.1 (32 + 2 * i + 1) (by omega)).1] at this
  unfold DS
  exact this
theorem c_108_0 {d i ow gr : Nat} {h : gi_H} {T : gi_T} {Q : gi_P} {S : gi_Z} (hS : gi_S h) (hq : QS h S) (hi : i < 64) (h0 : 0 < i) (ho : ow < 16) (hg : gr < 16) (e1 : gi_I h 85 i = nI ow) (e2 : gi_I h 86 i = nI gr) : gi_cx (d + 3) 108 [.inr (.inr (some 79)), .inl (nI i), .inl 0] (rw2 h 107 108 T) Q ↔ Q (some (.inl (b2 (GD S (32 + 2 * gr + 0) (T (32 + 2 * gr + 0)) && GD S (2 * ow + 0) (T (2 * ow + 0)))))) (rw2 h 107 108 (bo_ (CH S) (2 * ow + 0) (32 + 2 * gr + 0) T)) := by
  refine gi_cx_iff ?_ Q
  have z0 : (nI i = 0) = False := eq_false (nI_ne0 h0 (by omega))
  have z1 : vp_in (nI i) 64 := vp_in_nI hi (by omega)
  have z2 : (nI i).toNatClampNeg = i := nI_clamp (by omega)
  have z3 : upq T (2 * ow + 0) (CH S (2 * ow + 0) (T (2 * ow + 0))) (32 + 2 * gr + 0) = T (32 + 2 * gr + 0) := upq_ne (by omega)
  have z4 := bo_u (F := CH S) (T := T) (p := 2 * ow + 0) (q := 32 + 2 * gr + 0) (by omega)
  rw [z3] at z4
  cases g1 : GD S (2 * ow + 0) (T (2 * ow + 0)) <;> cases g2 : GD S (32 + 2 * gr + 0) (T (32 + 2 * gr + 0)) <;> simp only [e108, x108_0, x108_1, x108_4, x108_5, x108_6, x108_7, x108_8, x108_9, x108_12, x108_13, x108_14, x108_15, x108_18, x108_19, x108_20, x108_21, x108_22, x108_25, x108_26, x108_27, x108_28, x108_31, x108_34, x108_35, x108_38, x108_39, x108_42, x108_43, ldI_1, ldI_2, ldI_3, ldR_0, stI_3i, stI_3n, stI_3r, I_pI, R_pI, c_pI, n_pI, u_pI, t_pI, l_pI, I_pR, R_pR, c_pR, n_pR, u_pR, t_pR, l_pR, get_s, Option.toList, List.nil_append, List.cons_append, List.length_nil, List.length_cons, gi_B, tg_1 hS, tg_2 hS, tg_3 hS, tg_4 hS, tg_5 hS, tg_6 hS, tg_7 hS, tg_8 hS, tg_9 hS, tg_10 hS, tg_75 hS, tg_79 hS, tg_80 hS, tg_81 hS, tg_82 hS, tg_83 hS, tg_84 hS, tg_85 hS, tg_86 hS, tg_87 hS, tg_88 hS, tg_89 hS, tg_90 hS, tg_91 hS, tg_92 hS, tg_93 hS, tg_94 hS, tg_95 hS, tg_96 hS, tg_97 hS, tg_98 hS, tg_99 hS, tg_100 hS, tg_101 hS, tg_102 hS, tg_103 hS, tg_104 hS, tg_105 hS, tg_106 hS, tg_107 hS, tg_108 hS, ln_2 hS, ln_3 hS, ln_4 hS, ln_5 hS, ln_7 hS, ln_9 hS, ln_10 hS, ln_75 hS, ln_80 hS, ln_81 hS, ln_82 hS, ln_83 hS, ln_84 hS, ln_85 hS, ln_86 hS, ln_87 hS, ln_88 hS, ln_89 hS, ln_90 hS, ln_91 hS, ln_92 hS, ln_93 hS, ln_94 hS, ln_95 hS, ln_96 hS, ln_97 hS, ln_98 hS, ln_99 hS, ln_100 hS, ln_101 hS, ln_102 hS, ln_103 hS, ln_104 hS, ln_105 hS, ln_106 hS, ln_107 hS, ln_108 hS, rf_1_0 hS, rf_1_1 hS, rf_1_2 hS, rf_1_3 hS, rf_1_4 hS, rf_1_5 hS, rf_1_6 hS, rf_6_0 hS, rf_8_1 hS, rf_8_2 hS, rf_79_1 hS, rf_79_2 hS, rf_79_3 hS, rf_79_4 hS, rf_79_5 hS, rf_79_6 hS, rf_79_7 hS, rf_79_8 hS, rf_79_9 hS, rf_79_10 hS, rf_79_11 hS, rf_79_12 hS, rf_79_13 hS, rf_79_14 hS, rf_79_15 hS, rf_79_16 hS, rf_79_17 hS, rf_79_18 hS, rf_79_19 hS, rf_79_20 hS, rf_79_21 hS, rf_79_22 hS, rf_79_24 hS, rf_79_25 hS, rf_79_26 hS, rf_79_27 hS, rf_79_28 hS, rf_79_29 hS, rf_79_30 hS, true_and, and_true, false_and, and_false, not_true_eq_false, not_false_eq_true, true_implies, false_implies, implies_true, Classical.not_not, ite_true, ite_false, Option.some.injEq, Sum.inl.injEq, exists_eq', eq_self, true_or, or_true, false_or, or_false, Nat.reduceEqDiff, Nat.reduceLeDiff, Nat.reduceAdd, Nat.zero_le, one_ne0, if_neg one_ne0', lt_102_103, lt_102_104, lt_102_105, lt_102_106, lt_99_107, lt_100_107, lt_101_107, lt_103_107, lt_104_107, lt_105_107, lt_106_107, lt_98_99, lt_98_100, lt_98_101, lt_98_106, I_rw2, R_rw2, c_rw2, n_rw2, u_rw2, t_rw2, l_rw2, upq_eq, upq_upq, z0, z1, z2, e1, e2, c_109_00 hS hq ho, c_109_10 hS hq hg, z3, g1, g2, b2t, b2f, decide_true, decide_false, Bool.not_true, Bool.not_false, Bool.true_and, Bool.false_and, Bool.and_true, Bool.and_false, cond_true, cond_false, Bool.and_self, z4]
theorem c_116_0 {d i ow gr : Nat} {h : gi_H} {T : gi_T} {Q : gi_P} {S : gi_Z} (hS : gi_S h) (hq : QS h S) (hi : i < 64) (h0 : 0 < i) (ho : ow < 16) (hg : gr < 16) (e1 : gi_I h 85 i = nI ow) (e2 : gi_I h 86 i = nI gr) : gi_cx (d + 3) 116 [.inr (.inr (some 79)), .inl (nI i), .inl 0] (rw2 h 107 108 T) Q ↔ Q none (rw2 h 107 108 (bo_ (DS S) (2 * ow + 0) (32 + 2 * gr + 0) T)) := by
  refine gi_cx_iff ?_ Q
  have z0 : (nI i ≤ 0) = False := eq_false (nI_nle h0 (by omega))
  have z1 : vp_in (nI i) 64 := vp_in_nI hi (by omega)
  have z2 : (nI i).toNatClampNeg = i := nI_clamp (by omega)
  have z3 : upq T (2 * ow + 0) (DS S (2 * ow + 0) (T (2 * ow + 0))) (32 + 2 * gr + 0) = T (32 + 2 * gr + 0) := upq_ne (by omega)
  have z4 := bo_u (F := DS S) (T := T) (p := 2 * ow + 0) (q := 32 + 2 * gr + 0) (by omega)
  rw [z3] at z4
  simp only [e116, x116_0, x116_1, x116_4, x116_5, x116_6, x116_7, x116_10, x116_11, x116_12, x116_13, x116_16, x116_17, x116_18, x116_19, x116_22, x116_23, x116_24, x116_25, x116_28, ldI_1, ldI_2, ldR_0, I_pI, R_pI, c_pI, n_pI, u_pI, t_pI, l_pI, I_pR, R_pR, c_pR, n_pR, u_pR, t_pR, l_pR, get_s, Option.toList, List.nil_append, List.cons_append, List.length_nil, List.length_cons, gi_B, tg_1 hS, tg_2 hS, tg_3 hS, tg_4 hS, tg_5 hS, tg_6 hS, tg_7 hS, tg_8 hS, tg_9 hS, tg_10 hS, tg_75 hS, tg_79 hS, tg_80 hS, tg_81 hS, tg_82 hS, tg_83 hS, tg_84 hS, tg_85 hS, tg_86 hS, tg_87 hS, tg_88 hS, tg_89 hS, tg_90 hS, tg_91 hS, tg_92 hS, tg_93 hS, tg_94 hS, tg_95 hS, tg_96 hS, tg_97 hS, tg_98 hS, tg_99 hS, tg_100 hS, tg_101 hS, tg_102 hS, tg_103 hS, tg_104 hS, tg_105 hS, tg_106 hS, tg_107 hS, tg_108 hS, ln_2 hS, ln_3 hS, ln_4 hS, ln_5 hS, ln_7 hS, ln_9 hS, ln_10 hS, ln_75 hS, ln_80 hS, ln_81 hS, ln_82 hS, ln_83 hS, ln_84 hS, ln_85 hS, ln_86 hS, ln_87 hS, ln_88 hS, ln_89 hS, ln_90 hS, ln_91 hS, ln_92 hS, ln_93 hS, ln_94 hS, ln_95 hS, ln_96 hS, ln_97 hS, ln_98 hS, ln_99 hS, ln_100 hS, ln_101 hS, ln_102 hS, ln_103 hS, ln_104 hS, ln_105 hS, ln_106 hS, ln_107 hS, ln_108 hS, rf_1_0 hS, rf_1_1 hS, rf_1_2 hS, rf_1_3 hS, rf_1_4 hS, rf_1_5 hS, rf_1_6 hS, rf_6_0 hS, rf_8_1 hS, rf_8_2 hS, rf_79_1 hS, rf_79_2 hS, rf_79_3 hS, rf_79_4 hS, rf_79_5 hS, rf_79_6 hS, rf_79_7 hS, rf_79_8 hS, rf_79_9 hS, rf_79_10 hS, rf_79_11 hS, rf_79_12 hS, rf_79_13 hS, rf_79_14 hS, rf_79_15 hS, rf_79_16 hS, rf_79_17 hS, rf_79_18 hS, rf_79_19 hS, rf_79_20 hS, rf_79_21 hS, rf_79_22 hS, rf_79_24 hS, rf_79_25 hS, rf_79_26 hS, rf_79_27 hS, rf_79_28 hS, rf_79_29 hS, rf_79_30 hS, true_and, and_true, false_and, and_false, not_true_eq_false, not_false_eq_true, true_implies, false_implies, implies_true, Classical.not_not, ite_true, ite_false, Option.some.injEq, Sum.inl.injEq, exists_eq', eq_self, true_or, or_true, false_or, or_false, Nat.reduceEqDiff, Nat.reduceLeDiff, Nat.reduceAdd, Nat.zero_le, one_ne0, if_neg one_ne0', lt_102_103, lt_102_104, lt_102_105, lt_102_106, lt_99_107, lt_100_107, lt_101_107, lt_103_107, lt_104_107, lt_105_107, lt_106_107, lt_98_99, lt_98_100, lt_98_101, lt_98_106, I_rw2, R_rw2, c_rw2, n_rw2, u_rw2, t_rw2, l_rw2, upq_eq, upq_upq, z0, z1, z2, e1, e2, c_117_00 hS hq ho, c_117_10 hS hq hg, z3, z4]
theorem c_108_1 {d i ow gr : Nat} {h : gi_H} {T : gi_T} {Q : gi_P} {S : gi_Z} (hS : gi_S h) (hq : QS h S) (hi : i < 64) (h0 : 0 < i) (ho : ow < 16) (hg : gr < 16) (e1 : gi_I h 85 i = nI ow) (e2 : gi_I h 86 i = nI gr) : gi_cx (d + 3) 108 [.inr (.inr (some 79)), .inl (nI i), .inl 1] (rw2 h 107 108 T) Q ↔ Q (some (.inl (b2 (GD S (32 + 2 * gr + 1) (T (32 + 2 * gr + 1)) && GD S (2 * ow + 1) (T (2 * ow + 1)))))) (rw2 h 107 108 (bo_ (CH S) (2 * ow + 1) (32 + 2 * gr + 1) T)) := by
  refine gi_cx_iff ?_ Q
  have z0 : (nI i = 0) = False := eq_false (nI_ne0 h0 (by omega))
  have z1 : vp_in (nI i) 64 := vp_in_nI hi (by omega)
  have z2 : (nI i).toNatClampNeg = i := nI_clamp (by omega)
  have z3 : upq T (2 * ow + 1) (CH S (2 * ow + 1) (T (2 * ow + 1))) (32 + 2 * gr + 1) = T (32 + 2 * gr + 1) := upq_ne (by omega)
  have z4 := bo_u (F := CH S) (T := T) (p := 2 * ow + 1) (q := 32 + 2 * gr + 1) (by omega)
  rw [z3] at z4
  cases g1 : GD S (2 * ow + 1) (T (2 * ow + 1)) <;> cases g2 : GD S (32 + 2 * gr + 1) (T (32 + 2 * gr + 1)) <;> simp only [e108, x108_0, x108_1, x108_4, x108_5, x108_6, x108_7, x108_8, x108_9, x108_12, x108_13, x108_14, x108_15, x108_18, x108_19, x108_20, x108_21, x108_22, x108_25, x108_26, x108_27, x108_28, x108_31, x108_34, x108_35, x108_38, x108_39, x108_42, x108_43, ldI_1, ldI_2, ldI_3, ldR_0, stI_3i, stI_3n, stI_3r, I_pI, R_pI, c_pI, n_pI, u_pI, t_pI, l_pI, I_pR, R_pR, c_pR, n_pR, u_pR, t_pR, l_pR, get_s, Option.toList, List.nil_append, List.cons_append, List.length_nil, List.length_cons, gi_B, tg_1 hS, tg_2 hS, tg_3 hS, tg_4 hS, tg_5 hS, tg_6 hS, tg_7 hS, tg_8 hS, tg_9 hS, tg_10 hS, tg_75 hS, tg_79 hS, tg_80 hS, tg_81 hS, tg_82 hS, tg_83 hS, tg_84 hS, tg_85 hS, tg_86 hS, tg_87 hS, tg_88 hS, tg_89 hS, tg_90 hS, tg_91 hS, tg_92 hS, tg_93 hS, tg_94 hS, tg_95 hS, tg_96 hS, tg_97 hS, tg_98 hS, tg_99 hS, tg_100 hS, tg_101 hS, tg_102 hS, tg_103 hS, tg_104 hS, tg_105 hS, tg_106 hS, tg_107 hS, tg_108 hS, ln_2 hS, ln_3 hS, ln_4 hS, ln_5 hS, ln_7 hS, ln_9 hS, ln_10 hS, ln_75 hS, ln_80 hS, ln_81 hS, ln_82 hS, ln_83 hS, ln_84 hS, ln_85 hS, ln_86 hS, ln_87 hS, ln_88 hS, ln_89 hS, ln_90 hS, ln_91 hS, ln_92 hS, ln_93 hS, ln_94 hS, ln_95 hS, ln_96 hS, ln_97 hS, ln_98 hS, ln_99 hS, ln_100 hS, ln_101 hS, ln_102 hS, ln_103 hS, ln_104 hS, ln_105 hS, ln_106 hS, ln_107 hS, ln_108 hS, rf_1_0 hS, rf_1_1 hS, rf_1_2 hS, rf_1_3 hS, rf_1_4 hS, rf_1_5 hS, rf_1_6 hS, rf_6_0 hS, rf_8_1 hS, rf_8_2 hS, rf_79_1 hS, rf_79_2 hS, rf_79_3 hS, rf_79_4 hS, rf_79_5 hS, rf_79_6 hS, rf_79_7 hS, rf_79_8 hS, rf_79_9 hS, rf_79_10 hS, rf_79_11 hS, rf_79_12 hS, rf_79_13 hS, rf_79_14 hS, rf_79_15 hS, rf_79_16 hS, rf_79_17 hS, rf_79_18 hS, rf_79_19 hS, rf_79_20 hS, rf_79_21 hS, rf_79_22 hS, rf_79_24 hS, rf_79_25 hS, rf_79_26 hS, rf_79_27 hS, rf_79_28 hS, rf_79_29 hS, rf_79_30 hS, true_and, and_true, false_and, and_false, not_true_eq_false, not_false_eq_true, true_implies, false_implies, implies_true, Classical.not_not, ite_true, ite_false, Option.some.injEq, Sum.inl.injEq, exists_eq', eq_self, true_or, or_true, false_or, or_false, Nat.reduceEqDiff, Nat.reduceLeDiff, Nat.reduceAdd, Nat.zero_le, one_ne0, if_neg one_ne0', lt_102_103, lt_102_104, lt_102_105, lt_102_106, lt_99_107, lt_100_107, lt_101_107, lt_103_107, lt_104_107, lt_105_107, lt_106_107, lt_98_99, lt_98_100, lt_98_101, lt_98_106, I_rw2, R_rw2, c_rw2, n_rw2, u_rw2, t_rw2, l_rw2, upq_eq, upq_upq, z0, z1, z2, e1, e2, c_109_01 hS hq ho, c_109_11 hS hq hg, z3, g1, g2, b2t, b2f, decide_true, decide_false, Bool.not_true, Bool.not_false, Bool.true_and, Bool.false_and, Bool.and_true, Bool.and_false, cond_true, cond_false, Bool.and_self, z4]
theorem c_116_1 {d i ow gr : Nat} {h : gi_H} {T : gi_T} {Q : gi_P} {S : gi_Z} (hS : gi_S h) (hq : QS h S) (hi : i < 64) (h0 : 0 < i) (ho : ow < 16) (hg : gr < 16) (e1 : gi_I h 85 i = nI ow) (e2 : gi_I h 86 i = nI gr) : gi_cx (d + 3) 116 [.inr (.inr (some 79)), .inl (nI i), .inl 1] (rw2 h 107 108 T) Q ↔ Q none (rw2 h 107 108 (bo_ (DS S) (2 * ow + 1) (32 + 2 * gr + 1) T)) := by
  refine gi_cx_iff ?_ Q
  have z0 : (nI i ≤ 0) = False := eq_false (nI_nle h0 (by omega))
  have z1 : vp_in (nI i) 64 := vp_in_nI hi (by omega)
  have z2 : (nI i).toNatClampNeg = i := nI_clamp (by omega)
  have z3 : upq T (2 * ow + 1) (DS S (2 * ow + 1) (T (2 * ow + 1))) (32 + 2 * gr + 1) = T (32 + 2 * gr + 1) := upq_ne (by omega)
  have z4 := bo_u (F := DS S) (T := T) (p := 2 * ow + 1) (q := 32 + 2 * gr + 1) (by omega)
  rw [z3] at z4
  simp only [e116, x116_0, x116_1, x116_4, x116_5, x116_6, x116_7, x116_10, x116_11, x116_12, x116_13, x116_16, x116_17, x116_18, x116_19, x116_22, x116_23, x116_24, x116_25, x116_28, ldI_1, ldI_2, ldR_0, I_pI, R_pI, c_pI, n_pI, u_pI, t_pI, l_pI, I_pR, R_pR, c_pR, n_pR, u_pR, t_pR, l_pR, get_s, Option.toList, List.nil_append, List.cons_append, List.length_nil, List.length_cons, gi_B, tg_1 hS, tg_2 hS, tg_3 hS, tg_4 hS, tg_5 hS, tg_6 hS, tg_7 hS, tg_8 hS, tg_9 hS, tg_10 hS, tg_75 hS, tg_79 hS, tg_80 hS, tg_81 hS, tg_82 hS, tg_83 hS, tg_84 hS, tg_85 hS, tg_86 hS, tg_87 hS, tg_88 hS, tg_89 hS, tg_90 hS, tg_91 hS, tg_92 hS, tg_93 hS, tg_94 hS, tg_95 hS, tg_96 hS, tg_97 hS, tg_98 hS, tg_99 hS, tg_100 hS, tg_101 hS, tg_102 hS, tg_103 hS, tg_104 hS, tg_105 hS, tg_106 hS, tg_107 hS, tg_108 hS, ln_2 hS, ln_3 hS, ln_4 hS, ln_5 hS, ln_7 hS, ln_9 hS, ln_10 hS, ln_75 hS, ln_80 hS, ln_81 hS, ln_82 hS, ln_83 hS, ln_84 hS, ln_85 hS, ln_86 hS, ln_87 hS, ln_88 hS, ln_89 hS, ln_90 hS, ln_91 hS, ln_92 hS, ln_93 hS, ln_94 hS, ln_95 hS, ln_96 hS, ln_97 hS, ln_98 hS, ln_99 hS, ln_100 hS, ln_101 hS, ln_102 hS, ln_103 hS, ln_104 hS, ln_105 hS, ln_106 hS, ln_107 hS, ln_108 hS, rf_1_0 hS, rf_1_1 hS, rf_1_2 hS, rf_1_3 hS, rf_1_4 hS, rf_1_5 hS, rf_1_6 hS, rf_6_0 hS, rf_8_1 hS, rf_8_2 hS, rf_79_1 hS, rf_79_2 hS, rf_79_3 hS, rf_79_4 hS, rf_79_5 hS, rf_79_6 hS, rf_79_7 hS, rf_79_8 hS, rf_79_9 hS, rf_79_10 hS, rf_79_11 hS, rf_79_12 hS, rf_79_13 hS, rf_79_14 hS, rf_79_15 hS, rf_79_16 hS, rf_79_17 hS, rf_79_18 hS, rf_79_19 hS, rf_79_20 hS, rf_79_21 hS, rf_79_22 hS, rf_79_24 hS, rf_79_25 hS, rf_79_26 hS, rf_79_27 hS, rf_79_28 hS, rf_79_29 hS, rf_79_30 hS, true_and, and_true, false_and, and_false, not_true_eq_false, not_false_eq_true, true_implies, false_implies, implies_true, Classical.not_not, ite_true, ite_false, Option.some.injEq, Sum.inl.injEq, exists_eq', eq_self, true_or, or_true, false_or, or_false, Nat.reduceEqDiff, Nat.reduceLeDiff, Nat.reduceAdd, Nat.zero_le, one_ne0, if_neg one_ne0', lt_102_103, lt_102_104, lt_102_105, lt_102_106, lt_99_107, lt_100_107, lt_101_107, lt_103_107, lt_104_107, lt_105_107, lt_106_107, lt_98_99, lt_98_100, lt_98_101, lt_98_106, I_rw2, R_rw2, c_rw2, n_rw2, u_rw2, t_rw2, l_rw2, upq_eq, upq_upq, z0, z1, z2, e1, e2, c_117_01 hS hq ho, c_117_11 hS hq hg, z3, z4]
/-! the class's quotas -/
def qst (h : gi_H) (U : gi_T) : gi_H := (h.1, fun b j => if 11 ≤ b ∧ b < 75 ∧ j = 0 then (U (b - 11)).1 else if 11 ≤ b ∧ b < 75 ∧ j = 1 then (U (b - 11)).2 else h.2.1 b j, h.2.2.1, h.2.2.2.1, h.2.2.2.2)
theorem I_qst {h : gi_H} {U : gi_T} {b j : Nat} : gi_I (qst h U) b j = if 11 ≤ b ∧ b < 75 ∧ j = 0 then (U (b - 11)).1 else if 11 ≤ b ∧ b < 75 ∧ j = 1 then (U (b - 11)).2 else gi_I h b j := rfl
theorem R_qst {h : gi_H} {U : gi_T} {b j : Nat} : gi_R (qst h U) b j = gi_R h b j := rfl
theorem c_qst {h : gi_H} {U : gi_T} {b : Nat} : gi_c (qst h U) b = gi_c h b := rfl
theorem n_qst {h : gi_H} {U : gi_T} : gi_n (qst h U) = gi_n h := rfl
theorem u_qst {h : gi_H} {U : gi_T} : gi_u (qst h U) = gi_u h := rfl
theorem t_qst {h : gi_H} {U : gi_T} {x : Option Nat} : gi_tag (qst h U) x = gi_tag h x := rfl
theorem l_qst {h : gi_H} {U : gi_T} {x : Option Nat} : gi_len (qst h U) x = gi_len h x := rfl
theorem I_qst0 {h : gi_H} {U : gi_T} {p : Nat} (hp : p < 64) : gi_I (qst h U) (11 + p) 0 = (U p).1 := by
  rw [I_qst, if_pos ⟨by omega, by omega, rfl⟩, show 11 + p - 11 = p by omega]
theorem I_qst1 {h : gi_H} {U : gi_T} {p : Nat} (hp : p < 64) : gi_I (qst h U) (11 + p) 1 = (U p).2 := by
  rw [I_qst, if_neg (by omega), if_pos ⟨by omega, by omega, rfl⟩, show 11 + p - 11 = p by omega]
theorem I_qstj {h : gi_H} {U : gi_T} {b j : Nat} (hj : 2 ≤ j) : gi_I (qst h U) b j = gi_I h b j := by
  rw [I_qst, if_neg (by omega), if_neg (by omega)]
theorem I_qstb {h : gi_H} {U : gi_T} {b j : Nat} (hb : ¬ (11 ≤ b ∧ b < 75)) : gi_I (qst h U) b j = gi_I h b j := by
  rw [I_qst, if_neg (by omega), if_neg (by omega)]
def U0 (h : gi_H) : gi_T := fun p => (gi_I h (11 + p) 0, gi_I h (11 + p) 1)
theorem qst_self {h : gi_H} : qst h (U0 h) = h := gi_ext (fun _ => rfl) (fun x j => by
  rw [I_qst]
  unfold U0
  split
  · rename_i e; rw [show 11 + (x - 11) = x by omega, e.2.2]
  · split
    · rename_i e; rw [show 11 + (x - 11) = x by omega, e.2.2]
    · rfl) (fun _ _ => rfl) rfl rfl
theorem qst_1 {h : gi_H} {U : gi_T} {p : Nat} {v : Int32} (hp : p < 64) : gi_pI (qst h U) (11 + p) 0 v = qst h (upq U p (v, (U p).2)) := gi_ext (fun _ => rfl) (fun x j => by
  rw [I_pI, I_qst, I_qst]
  unfold upq
  by_cases e1 : x = 11 + p
  · subst e1
    rw [show 11 + p - 11 = p by omega, if_pos rfl]
    by_cases e2 : j = 0
    · simp [e2, hp, show 11 + p < 75 by omega]
    · by_cases e3 : j = 1
      · simp [e2, e3, hp, show 11 + p < 75 by omega]
      · simp [e2, e3]
  · by_cases e2 : 11 ≤ x ∧ x < 75
    · rw [if_neg (show ¬ x - 11 = p by omega)]
      simp [e1]
    · simp [e1, show ¬ (11 ≤ x ∧ x < 75 ∧ j = 0) by omega, show ¬ (11 ≤ x ∧ x < 75 ∧ j = 1) by omega]) (fun _ _ => rfl) rfl rfl
theorem qst_2 {h : gi_H} {U : gi_T} {p : Nat} {v : Int32} (hp : p < 64) : gi_pI (qst h U) (11 + p) 1 v = qst h (upq U p ((U p).1, v)) := gi_ext (fun _ => rfl) (fun x j => by
  rw [I_pI, I_qst, I_qst]
  unfold upq
  by_cases e1 : x = 11 + p
  · subst e1
    rw [show 11 + p - 11 = p by omega, if_pos rfl]
    by_cases e2 : j = 0
    · simp [e2, hp, show 11 + p < 75 by omega]
    · by_cases e3 : j = 1
      · simp [e2, e3, hp, show 11 + p < 75 by omega]
      · simp [e2, e3]
  · by_cases e2 : 11 ≤ x ∧ x < 75
    · rw [if_neg (show ¬ x - 11 = p by omega)]
      simp [e1]
    · simp [e1, show ¬ (11 ≤ x ∧ x < 75 ∧ j = 0) by omega, show ¬ (11 ≤ x ∧ x < 75 ∧ j = 1) by omega]) (fun _ _ => rfl) rfl rfl
theorem eq_ov {s n : Int32} (hs : -1 ≤ s.toInt) : (s = -1) = ¬ (0 ≤ s) := propext (by rw [i32_eq, i32_le, ti_m1, ti_0]; omega)
/-- a quota's own words -/
theorem c_39 {d p : Nat} {m now g : Int32} {h : gi_H} {U : gi_T} {Q : gi_P} (hS : gi_S h) (hp : p < 64) (hs : -1 ≤ (gi_I h (11 + p) 2).toInt) : gi_cx (d + 3) 39 [.inr (.inr (some (11 + p))), .inl m, .inl now, .inl g] (qst h U) Q ↔ Q none (qst h (upq U p (ad1 (gi_I h (11 + p) 2) now g m (U p)))) := by
  obtain ⟨q1, q2, q3, q4⟩ := quo hS hp
  refine gi_cx_iff ?_ Q
  unfold ad1 ov
  have e2 : ∀ U, gi_I (qst h U) (11 + p) 2 = gi_I h (11 + p) 2 := fun U => I_qstj (by omega)
  have e0 : ∀ U, gi_I (qst h U) (11 + p) 0 = (U p).1 := fun U => I_qst0 hp
  have e1 : ∀ U, gi_I (qst h U) (11 + p) 1 = (U p).2 := fun U => I_qst1 hp
  have f1 : ∀ U v, gi_pI (qst h U) (11 + p) 0 v = qst h (upq U p (v, (U p).2)) := fun U v => qst_1 hp
  have f2 : ∀ U v, gi_pI (qst h U) (11 + p) 1 v = qst h (upq U p ((U p).1, v)) := fun U v => qst_2 hp
  have es := eq_ov (n := 0) hs
  rcases em_ (0 ≤ gi_I h (11 + p) 2) with a3 | a3
  · rcases em_ ((U p).1 + m ≤ gi_I h (11 + p) 2) with a4 | a4
    · simp only [e39, x39_0, x39_1, x39_2, x39_5, x39_6, x39_7, x39_10, x39_11, x39_12, x39_13, x39_16, ldI_1, ldI_2, ldI_3, ldR_0, e40, x40_0, x40_1, x40_2, x40_5, x40_8, x40_11, x40_12, x40_13, x40_16, x40_19, x40_20, x40_23, x40_24, x40_27, x40_28, x40_29, x40_30, x40_31, x40_34, ldI_1, ldI_2, ldR_0, e32, x32_0, x32_1, x32_4, x32_5, x32_8, x32_9, x32_10, x32_13, x32_16, x32_17, x32_20, x32_21, ldI_1, ldR_0, t_qst, R_qst, I_pI, R_pI, c_pI, n_pI, u_pI, t_pI, l_pI, I_pR, R_pR, c_pR, n_pR, u_pR, t_pR, l_pR, get_s, Option.toList, List.nil_append, List.cons_append, List.length_nil, List.length_cons, gi_B, true_and, and_true, false_and, and_false, not_true_eq_false, not_false_eq_true, true_implies, false_implies, implies_true, Classical.not_not, ite_true, ite_false, Option.some.injEq, Sum.inl.injEq, exists_eq', eq_self, true_or, or_true, false_or, or_false, Nat.reduceEqDiff, Nat.reduceLeDiff, Nat.reduceAdd, Nat.zero_le, one_ne0, if_neg one_ne0', lt_102_103, lt_102_104, lt_102_105, lt_102_106, lt_99_107, lt_100_107, lt_101_107, lt_103_107, lt_104_107, lt_105_107, lt_106_107, lt_98_99, lt_98_100, lt_98_101, lt_98_106, q2, e0, e1, e2, f1, f2, upq_eq, upq_upq, es, a3, a4, decide_true, decide_false, Bool.not_true, Bool.not_false, Bool.true_and, Bool.false_and, Bool.and_true, Bool.and_false, cond_true, cond_false]
    · rcases em_ ((U p).2 = -1) with a5 | a5 <;> simp only [e39, x39_0, x39_1, x39_2, x39_5, x39_6, x39_7, x39_10, x39_11, x39_12, x39_13, x39_16, ldI_1, ldI_2, ldI_3, ldR_0, e40, x40_0, x40_1, x40_2, x40_5, x40_8, x40_11, x40_12, x40_13, x40_16, x40_19, x40_20, x40_23, x40_24, x40_27, x40_28, x40_29, x40_30, x40_31, x40_34, ldI_1, ldI_2, ldR_0, e32, x32_0, x32_1, x32_4, x32_5, x32_8, x32_9, x32_10, x32_13, x32_16, x32_17, x32_20, x32_21, ldI_1, ldR_0, t_qst, R_qst, I_pI, R_pI, c_pI, n_pI, u_pI, t_pI, l_pI, I_pR, R_pR, c_pR, n_pR, u_pR, t_pR, l_pR, get_s, Option.toList, List.nil_append, List.cons_append, List.length_nil, List.length_cons, gi_B, true_and, and_true, false_and, and_false, not_true_eq_false, not_false_eq_true, true_implies, false_implies, implies_true, Classical.not_not, ite_true, ite_false, Option.some.injEq, Sum.inl.injEq, exists_eq', eq_self, true_or, or_true, false_or, or_false, Nat.reduceEqDiff, Nat.reduceLeDiff, Nat.reduceAdd, Nat.zero_le, one_ne0, if_neg one_ne0', lt_102_103, lt_102_104, lt_102_105, lt_102_106, lt_99_107, lt_100_107, lt_101_107, lt_103_107, lt_104_107, lt_105_107, lt_106_107, lt_98_99, lt_98_100, lt_98_101, lt_98_106, q2, e0, e1, e2, f1, f2, upq_eq, upq_upq, es, a3, a4, a5, decide_true, decide_false, Bool.not_true, Bool.not_false, Bool.true_and, Bool.false_and, Bool.and_true, Bool.and_false, cond_true, cond_false]
  · simp only [e39, x39_0, x39_1, x39_2, x39_5, x39_6, x39_7, x39_10, x39_11, x39_12, x39_13, x39_16, ldI_1, ldI_2, ldI_3, ldR_0, e40, x40_0, x40_1, x40_2, x40_5, x40_8, x40_11, x40_12, x40_13, x40_16, x40_19, x40_20, x40_23, x40_24, x40_27, x40_28, x40_29, x40_30, x40_31, x40_34, ldI_1, ldI_2, ldR_0, e32, x32_0, x32_1, x32_4, x32_5, x32_8, x32_9, x32_10, x32_13, x32_16, x32_17, x32_20, x32_21, ldI_1, ldR_0, t_qst, R_qst, I_pI, R_pI, c_pI, n_pI, u_pI, t_pI, l_pI, I_pR, R_pR, c_pR, n_pR, u_pR, t_pR, l_pR, get_s, Option.toList, List.nil_append, List.cons_append, List.length_nil, List.length_cons, gi_B, true_and, and_true, false_and, and_false, not_true_eq_false, not_false_eq_true, true_implies, false_implies, implies_true, Classical.not_not, ite_true, ite_false, Option.some.injEq, Sum.inl.injEq, exists_eq', eq_self, true_or, or_true, false_or, or_false, Nat.reduceEqDiff, Nat.reduceLeDiff, Nat.reduceAdd, Nat.zero_le, one_ne0, if_neg one_ne0', lt_102_103, lt_102_104, lt_102_105, lt_102_106, lt_99_107, lt_100_107, lt_101_107, lt_103_107, lt_104_107, lt_105_107, lt_106_107, lt_98_99, lt_98_100, lt_98_101, lt_98_106, q2, e0, e1, e2, f1, f2, upq_eq, upq_upq, es, a3, decide_true, decide_false, Bool.not_true, Bool.not_false, Bool.true_and, Bool.false_and, Bool.and_true, Bool.and_false, cond_true, cond_false]
def rf_ (S : gi_Z) (k : Nat) : Nat → Int32 × Int32 → Bool
  | 0, _ => false
  | m + 1, x => !GD S k x || rf_ S k m (CH S k x)
theorem nx_c {c0 : Int32} {j : Nat} : c0 + nI j + 1 = c0 + nI (j + 1) := by rw [Int32.add_assoc, nI_il]
theorem lp_31 {d p k m0 : Nat} {h : gi_H} {Q : gi_P} {S : gi_Z} (hS : gi_S h) (hp : p < 64) (hm : m0 ≤ 100) (hc : -1000000000 ≤ (gi_I h (11 + p) 0).toInt ∧ (gi_I h (11 + p) 0).toInt ≤ 1000000000) (s2 : gi_I h (11 + p) 2 = S 103 k) (s3 : gi_I h (11 + p) 3 = S 104 k) (y2 : -1 ≤ (S 103 k).toInt) (y3 : -1 ≤ (S 104 k).toInt) (y4 : 0 ≤ (S 79 0).toInt ∧ (S 79 0).toInt ≤ 1000000) (y5 : 0 ≤ (gr_ S k).toInt ∧ (gr_ S k).toInt ≤ 100000) : ∀ r j t, j + r = m0 → -1 ≤ t.toInt → Q (some (.inl (b2 (rf_ S k r (gi_I h (11 + p) 0 + nI j, t))))) h → gi_ex (gi_cx (d + 1)) 31 Q 14 [some (.inr (.inr (some (11 + p)))), some (.inl (nI m0)), some (.inl (S 79 0)), some (.inl (gr_ S k)), some (.inl t), some (.inl (gi_I h (11 + p) 0 + nI (j + 1)))] [] h
  | 0, j, t, e, ht, hq => by
    obtain rfl : j = m0 := by omega
    obtain ⟨q1, q2, q3, q4⟩ := quo hS hp
    have g : (gi_I h (11 + p) 0 + nI j < gi_I h (11 + p) 0 + nI (j + 1)) = True := eq_true (by
      rw [i32_lt, i32_add (by rw [nI_toInt (by omega)]; omega) (by rw [nI_toInt (by omega)]; omega), i32_add (by rw [nI_toInt (by omega)]; omega) (by rw [nI_toInt (by omega)]; omega), nI_toInt (by omega), nI_toInt (by omega)]
      omega)
    rw [x31_14]
    simp only [x31_0, x31_1, x31_4, x31_6, x31_7, x31_10, x31_11, x31_12, x31_16, x31_17, x31_20, x31_21, x31_22, x31_25, x31_26, x31_29, x31_30, x31_33, x31_35, x31_36, x31_39, x31_42, x31_43, x31_44, x31_45, x31_47, x31_50, x31_53, x31_55, x31_56, x31_59, x31_60, x31_62, x31_65, x31_66, x31_67, x31_69, x31_70, x31_73, x31_74, x31_75, x31_76, x31_79, x31_81, x31_83, x31_86, x31_89, x31_90, inc_5i, inc_5n, inc_5r, ldI_1, ldI_2, ldI_3, ldI_4, ldI_5, ldR_0, stI_4i, stI_4n, stI_4r, stI_5i, stI_5n, stI_5r, I_pI, R_pI, c_pI, n_pI, u_pI, t_pI, l_pI, I_pR, R_pR, c_pR, n_pR, u_pR, t_pR, l_pR, get_s, Option.toList, List.nil_append, List.cons_append, List.length_nil, List.length_cons, gi_B, true_and, and_true, false_and, and_false, not_true_eq_false, not_false_eq_true, true_implies, false_implies, implies_true, Classical.not_not, ite_true, ite_false, Option.some.injEq, Sum.inl.injEq, exists_eq', eq_self, true_or, or_true, false_or, or_false, Nat.reduceEqDiff, Nat.reduceLeDiff, Nat.reduceAdd, Nat.zero_le, one_ne0, if_neg one_ne0', lt_102_103, lt_102_104, lt_102_105, lt_102_106, lt_99_107, lt_100_107, lt_101_107, lt_103_107, lt_104_107, lt_105_107, lt_106_107, lt_98_99, lt_98_100, lt_98_101, lt_98_106, q2, g]
    exact hq
  | r + 1, j, t, e, ht, hq => by
    obtain ⟨q1, q2, q3, q4⟩ := quo hS hp
    have g : (gi_I h (11 + p) 0 + nI m0 < gi_I h (11 + p) 0 + nI (j + 1)) = False := eq_false (by
      rw [i32_lt, i32_add (by rw [nI_toInt (by omega)]; omega) (by rw [nI_toInt (by omega)]; omega), i32_add (by rw [nI_toInt (by omega)]; omega) (by rw [nI_toInt (by omega)]; omega), nI_toInt (by omega), nI_toInt (by omega)]
      omega)
    have ng : 0 ≤ (S 79 0 + gr_ S k).toInt := by rw [i32_add (by omega) (by omega)]; omega
    have nx := fun t' (h1 : -1 ≤ t'.toInt) (h2 : Q (some (.inl (b2 (rf_ S k r (gi_I h (11 + p) 0 + nI (j + 1), t'))))) h) => lp_31 (d := d) (Q := Q) hS hp hm hc s2 s3 y2 y3 y4 y5 r (j + 1) t' (by omega) h1 h2
    have nn : gi_I h (11 + p) 0 + nI (j + 1) + Int32.ofInt 1 = gi_I h (11 + p) 0 + nI (j + 1 + 1) := nx_c
    have es := eq_ov (n := 0) y2
    have eh := eq_ov (n := 0) y3
    have et := eq_ov (n := 0) ht
    unfold rf_ GD CH gd1 ch1 ov at hq
    simp only [nx_c] at hq
    rw [x31_14]
    rcases em_ (0 ≤ S 104 k) with a1 | a1 <;> rcases em_ (gi_I h (11 + p) 0 + nI (j + 1) ≤ S 104 k) with a2 | a2 <;> rcases em_ (0 ≤ S 103 k) with a3 | a3 <;> rcases em_ (gi_I h (11 + p) 0 + nI (j + 1) ≤ S 103 k) with a4 | a4 <;> rcases em_ (0 ≤ t) with a5 | a5 <;> rcases em_ (t ≤ S 79 0) with a6 | a6
    all_goals (
      simp only [a1, a2, a3, a4, a5, a6, decide_true, decide_false, Bool.not_true, Bool.not_false, Bool.true_and, Bool.false_and, Bool.and_true, Bool.and_false, cond_true, cond_false, Bool.true_or, Bool.false_or, b2t, b2f] at hq
      simp only [x31_0, x31_1, x31_4, x31_6, x31_7, x31_10, x31_11, x31_12, x31_16, x31_17, x31_20, x31_21, x31_22, x31_25, x31_26, x31_29, x31_30, x31_33, x31_35, x31_36, x31_39, x31_42, x31_43, x31_44, x31_45, x31_47, x31_50, x31_53, x31_55, x31_56, x31_59, x31_60, x31_62, x31_65, x31_66, x31_67, x31_69, x31_70, x31_73, x31_74, x31_75, x31_76, x31_79, x31_81, x31_83, x31_86, x31_89, x31_90, inc_5i, inc_5n, inc_5r, ldI_1, ldI_2, ldI_3, ldI_4, ldI_5, ldR_0, stI_4i, stI_4n, stI_4r, stI_5i, stI_5n, stI_5r, e32, x32_0, x32_1, x32_4, x32_5, x32_8, x32_9, x32_10, x32_13, x32_16, x32_17, x32_20, x32_21, ldI_1, ldR_0, I_pI, R_pI, c_pI, n_pI, u_pI, t_pI, l_pI, I_pR, R_pR, c_pR, n_pR, u_pR, t_pR, l_pR, get_s, Option.toList, List.nil_append, List.cons_append, List.length_nil, List.length_cons, gi_B, true_and, and_true, false_and, and_false, not_true_eq_false, not_false_eq_true, true_implies, false_implies, implies_true, Classical.not_not, ite_true, ite_false, Option.some.injEq, Sum.inl.injEq, exists_eq', eq_self, true_or, or_true, false_or, or_false, Nat.reduceEqDiff, Nat.reduceLeDiff, Nat.reduceAdd, Nat.zero_le, one_ne0, if_neg one_ne0', lt_102_103, lt_102_104, lt_102_105, lt_102_106, lt_99_107, lt_100_107, lt_101_107, lt_103_107, lt_104_107, lt_105_107, lt_106_107, lt_98_99, lt_98_100, lt_98_101, lt_98_106, q2, s2, s3, g, ltn, es, eh, et, a1, a2, a3, a4, a5, a6, nn]
      first
        | exact hq
        | exact nx _ ht hq
        | exact nx _ (by omega) hq)
theorem c_31 {d p k m0 : Nat} {h : gi_H} {Q : gi_P} {S : gi_Z} (hS : gi_S h) (hp : p < 64) (hm : m0 ≤ 100) (hc : -1000000000 ≤ (gi_I h (11 + p) 0).toInt ∧ (gi_I h (11 + p) 0).toInt ≤ 1000000000) (ht : -1 ≤ (gi_I h (11 + p) 1).toInt) (s2 : gi_I h (11 + p) 2 = S 103 k) (s3 : gi_I h (11 + p) 3 = S 104 k) (y2 : -1 ≤ (S 103 k).toInt) (y3 : -1 ≤ (S 104 k).toInt) (y4 : 0 ≤ (S 79 0).toInt ∧ (S 79 0).toInt ≤ 1000000) (y5 : 0 ≤ (gr_ S k).toInt ∧ (gr_ S k).toInt ≤ 100000) : gi_cx (d + 2) 31 [.inr (.inr (some (11 + p))), .inl (nI m0), .inl (S 79 0), .inl (gr_ S k)] h Q ↔ Q (some (.inl (b2 (rf_ S k m0 (U0 h p))))) h := by
  obtain ⟨q1, q2, q3, q4⟩ := quo hS hp
  refine gi_cx_iff ?_ Q
  have e1 : gi_I h (11 + p) 0 + 1 = gi_I h (11 + p) 0 + nI (0 + 1) := rfl
  have := lp_31 (d := d) (Q := fun r1 h1 => r1 = some (.inl (b2 (rf_ S k m0 (U0 h p)))) ∧ h1 = h) hS hp hm hc s2 s3 y2 y3 y4 y5 m0 0 (gi_I h (11 + p) 1) (by omega) ht (by
    rw [show gi_I h (11 + p) 0 + nI 0 = gi_I h (11 + p) 0 from Int32.add_zero _]
    exact ⟨rfl, rfl⟩)
  simp only [e31, x31_0, x31_1, x31_4, x31_6, x31_7, x31_10, x31_11, x31_12, ldR_0, stI_4i, stI_4n, stI_4r, stI_5i, stI_5n, stI_5r, I_pI, R_pI, c_pI, n_pI, u_pI, t_pI, l_pI, I_pR, R_pR, c_pR, n_pR, u_pR, t_pR, l_pR, get_s, Option.toList, List.nil_append, List.cons_append, List.length_nil, List.length_cons, gi_B, true_and, and_true, false_and, and_false, not_true_eq_false, not_false_eq_true, true_implies, false_implies, implies_true, Classical.not_not, ite_true, ite_false, Option.some.injEq, Sum.inl.injEq, exists_eq', eq_self, true_or, or_true, false_or, or_false, Nat.reduceEqDiff, Nat.reduceLeDiff, Nat.reduceAdd, Nat.zero_le, one_ne0, if_neg one_ne0', lt_102_103, lt_102_104, lt_102_105, lt_102_106, lt_99_107, lt_100_107, lt_101_107, lt_103_107, lt_104_107, lt_105_107, lt_106_107, lt_98_99, lt_98_100, lt_98_101, lt_98_106, q2, e1]
  exact this

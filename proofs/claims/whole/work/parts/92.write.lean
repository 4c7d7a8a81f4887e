/-! write: the class -/
set_option maxRecDepth 100000

/-- a byte of the word, as the class and as the model take it -/
def cv (w : Int64) (s : Nat) : Int32 := ((w.toUInt64 >>> ((nI s).toInt64.toUInt64 &&& Int64.toUInt64 63)).toInt64).toInt32
def mv (w : Int64) (s : Nat) : Int32 := (w >>> ((nI s).toInt64 &&& 63)).toInt32
def vb (w : Int64) (N i : Nat) : Int32 := (cv w (8 * (N - 1 - i))).toInt8.toInt32
def Wb (w : Int64) (N q0 b : Nat) (S : gi_Z) (i : Nat) : Nat → gi_Z
  | 0 => S
  | m + 1 => by1 (Wb w N q0 b S i m) (64 * b + (q0 + (i + m)) % 64) (vb w N (i + m))
theorem Wb_o {w : Int64} {N q0 b : Nat} {S : gi_Z} {i : Nat} {x y : Nat} (h : x ≠ 92) : ∀ m, Wb w N q0 b S i m x y = S x y
  | 0 => rfl
  | m + 1 => by
    simp only [Wb]
    unfold by1
    rw [if_neg (fun z => h z.1)]
    exact Wb_o h m
theorem c_51r {h g : gi_H} {d n a at' b i : Nat} {v : Int32} {S : gi_Z} (H : wI_ h g n a S i) (ca : gi_c h a = (5, 0)) (ca1 : gi_c h (a + 1) = (100, 12)) (la : a < gi_n h) (la1 : a + 1 < gi_n h) (da : dy a) (f7 : gi_R h a 7 = some (a + 1)) (hat : at' < 768) (hb : b < 256) (e9 : S 89 (12 * n + at' / 64) = nI b) (u1 : S 91 b = 1) : ∃ g', (∀ Q : gi_P, gi_cx (d + 3) 51 [.inr (.inr (some 1)), .inr (.inr (some a)), .inl (nI at'), .inl v] g Q ↔ Q none g') ∧ wI_ h g' n a (by1 S (64 * b + at' % 64) v.toInt8.toInt32) i := by
  obtain ⟨h1, h2, h3, h4, h5, h6, h7⟩ := id H
  obtain ⟨B, eB⟩ : ∃ B, gi_R g 7 b = some B := by
    cases q : gi_R g 7 b with
    | none => have := (h2.1 b hb).1 q; rw [u1] at this; exact absurd this (by decide)
    | some B => exact ⟨B, rfl⟩
  obtain ⟨o0, o1, o2, o3, o4, o5, o6⟩ := (h2.1 b hb).2 B eB
  refine ⟨gi_pI g (B + 1) (at' % 64) v.toInt8.toInt32, fun Q => ?_, w_byte H ca1 la1 hb (by omega) eB⟩
  refine gi_cx_iff ?_ Q
  have ta : gi_tag g (some a) = 5 := by rw [tag_s, h5 a la, ca]
  have ta1 : gi_tag g (some (a + 1)) = 100 := by rw [tag_s, h5 (a + 1) la1, ca1]
  have tl1 : gi_len g (some (a + 1)) = 12 := by rw [len_s, h5 (a + 1) la1, ca1]
  have r7 : gi_R g a 7 = some (a + 1) := by rw [h6 a 7 la (by unfold dy at da; omega)]; exact f7
  have z1 : vp_in (nI (at' / 64)) 12 := vp_in_nI (by omega) (by omega)
  have z2 : (nI (at' / 64)).toNatClampNeg = at' / 64 := nI_clamp (by omega)
  have k := h3 (at' / 64) (by omega)
  rw [e9] at k
  have ne : (nI b = -1) = False := eq_false (fun z => by
    have := congrArg Int32.toInt z
    rw [nI_toInt (by omega), ti_m1] at this
    omega)
  have c54 := fun {d : Nat} {Q : gi_P} => c_54 (d := d) (v := v) (k := at' % 64) (Q := Q) h1 hb (by omega) eB (by rw [tag_s, o3]) o4 (by rw [tag_s, o5]) (by rw [len_s, o5])
  simp only [e51, x51_0, x51_1, x51_3, x51_4, x51_6, x51_7, x51_10, x51_12, x51_13, x51_14, x51_17, x51_18, x51_21, x51_23, x51_24, x51_27, x51_30, x51_31, x51_32, x51_35, x51_36, x51_39, x51_41, x51_42, x51_43, x51_45, x51_46, x51_47, x51_50, ldI_2, ldI_3, ldI_4, ldR_0, ldR_1, stI_4i, stI_4n, stI_4r, I_pI, R_pI, c_pI, n_pI, u_pI, t_pI, l_pI, I_pR, R_pR, c_pR, n_pR, u_pR, t_pR, l_pR, get_s, Option.toList, List.nil_append, List.cons_append, List.length_nil, List.length_cons, gi_B, true_and, and_true, false_and, and_false, not_true_eq_false, not_false_eq_true, true_implies, false_implies, implies_true, Classical.not_not, ite_true, ite_false, Option.some.injEq, Sum.inl.injEq, exists_eq', eq_self, true_or, or_true, false_or, or_false, Nat.reduceEqDiff, Nat.reduceLeDiff, Nat.reduceAdd, Nat.zero_le, one_ne0, if_neg one_ne0', lt_102_103, lt_102_104, lt_102_105, lt_102_106, lt_99_107, lt_100_107, lt_101_107, lt_103_107, lt_104_107, lt_105_107, lt_106_107, lt_98_99, lt_98_100, lt_98_101, lt_98_106, dv64 (show at' < 2147483648 by omega), rm64 (show at' < 2147483648 by omega), z64, z1, z2, ta, ta1, tl1, r7, k, ne, tg_1 h1, tg_6 h1, rf_1_4 h1, c54]
theorem c_51c {h g : gi_H} {d n a at' b i : Nat} {v : Int32} {S : gi_Z} (H : wI_ h g n a S i) (ca : gi_c h a = (5, 0)) (ca1 : gi_c h (a + 1) = (100, 12)) (la : a < gi_n h) (la1 : a + 1 < gi_n h) (da : dy a) (da1 : dy (a + 1)) (f7 : gi_R h a 7 = some (a + 1)) (hat : at' < 768) (hb : b < 256) (e9 : S 89 (12 * n + at' / 64) = -1) (eb : ff (fun q => decide (S 91 q = 0)) 0 256 = b) : ∃ g', (∀ Q : gi_P, gi_cx (d + 3) 51 [.inr (.inr (some 1)), .inr (.inr (some a)), .inl (nI at'), .inl v] g Q ↔ Q none g') ∧ wI_ h g' n a (by1 (clS S (12 * n + at' / 64) b) (64 * b + at' % 64) v.toInt8.toInt32) (i + 1) := by
  obtain ⟨h1, h2, h3, h4, h5, h6, h7⟩ := id H
  have u0 : S 91 b = 0 := by
    have := ff_t (g := fun q => decide (S 91 q = 0)) 256 0 (by omega)
    rw [eb] at this
    exact of_decide_eq_true this
  obtain ⟨HC, eB⟩ := w_claim (p := at' / 64) H (by omega) da1 ca1 la1 hb u0
  obtain ⟨k1, k2, k3, k4, k5, k6, k7⟩ := id HC
  obtain ⟨o0, o1, o2, o3, o4, o5, o6⟩ := (k2.1 b hb).2 _ eB
  refine ⟨_, fun Q => ?_, w_byte HC ca1 la1 hb (by omega) eB⟩
  refine gi_cx_iff ?_ Q
  have ebc : ff (fun q => (gi_R g 7 q).isNone) 0 256 = b := by
    rw [← eb]
    refine ff_c 256 0 (fun j _ hj => ?_)
    have q := h2.1 j (by omega)
    cases e : gi_R g 7 j with
    | none => rw [q.1 e]; rfl
    | some B => rw [(q.2 B e).1]; rfl
  have ta : gi_tag g (some a) = 5 := by rw [tag_s, h5 a la, ca]
  have ta1 : gi_tag g (some (a + 1)) = 100 := by rw [tag_s, h5 (a + 1) la1, ca1]
  have tl1 : gi_len g (some (a + 1)) = 12 := by rw [len_s, h5 (a + 1) la1, ca1]
  have r7 : gi_R g a 7 = some (a + 1) := by rw [h6 a 7 la (by unfold dy at da; omega)]; exact f7
  have lag := h4.1
  have tb : gi_tag (nbk g b) (some a) = 5 := by rw [tag_s, c_nbk, if_neg (by omega), if_neg (by omega), h5 a la, ca]
  have tb1 : gi_tag (nbk g b) (some (a + 1)) = 100 := by rw [tag_s, c_nbk, if_neg (by omega), if_neg (by omega), h5 (a + 1) la1, ca1]
  have tlb1 : gi_len (nbk g b) (some (a + 1)) = 12 := by rw [len_s, c_nbk, if_neg (by omega), if_neg (by omega), h5 (a + 1) la1, ca1]
  have rb7 : gi_R (nbk g b) a 7 = some (a + 1) := by rw [R_nbk, if_neg (by unfold dy at da; omega), if_neg (by omega), if_neg (by omega)]; exact r7
  have z1 : vp_in (nI (at' / 64)) 12 := vp_in_nI (by omega) (by omega)
  have z2 : (nI (at' / 64)).toNatClampNeg = at' / 64 := nI_clamp (by omega)
  have k := h3 (at' / 64) (by omega)
  rw [e9] at k
  have ne : ((-1 : Int32) = -1) = True := eq_true rfl
  have c54 := fun {d : Nat} {Q : gi_P} => c_54 (d := d) (v := v) (k := at' % 64) (h := gi_pI (nbk g b) (a + 1) (at' / 64) (nI b)) (Q := Q) k1 hb (by omega) eB (by rw [tag_s, o3]) o4 (by rw [tag_s, o5]) (by rw [len_s, o5])
  have hSb : gi_S (nbk g b) := k1
  simp only [e51, x51_0, x51_1, x51_3, x51_4, x51_6, x51_7, x51_10, x51_12, x51_13, x51_14, x51_17, x51_18, x51_21, x51_23, x51_24, x51_27, x51_30, x51_31, x51_32, x51_35, x51_36, x51_39, x51_41, x51_42, x51_43, x51_45, x51_46, x51_47, x51_50, ldI_2, ldI_3, ldI_4, ldR_0, ldR_1, stI_4i, stI_4n, stI_4r, I_pI, R_pI, c_pI, n_pI, u_pI, t_pI, l_pI, I_pR, R_pR, c_pR, n_pR, u_pR, t_pR, l_pR, get_s, Option.toList, List.nil_append, List.cons_append, List.length_nil, List.length_cons, gi_B, true_and, and_true, false_and, and_false, not_true_eq_false, not_false_eq_true, true_implies, false_implies, implies_true, Classical.not_not, ite_true, ite_false, Option.some.injEq, Sum.inl.injEq, exists_eq', eq_self, true_or, or_true, false_or, or_false, Nat.reduceEqDiff, Nat.reduceLeDiff, Nat.reduceAdd, Nat.zero_le, one_ne0, if_neg one_ne0', lt_102_103, lt_102_104, lt_102_105, lt_102_106, lt_99_107, lt_100_107, lt_101_107, lt_103_107, lt_104_107, lt_105_107, lt_106_107, lt_98_99, lt_98_100, lt_98_101, lt_98_106, dv64 (show at' < 2147483648 by omega), rm64 (show at' < 2147483648 by omega), z64, z1, z2, ta, ta1, tl1, r7, k, ne, tg_1 h1, tg_6 h1, rf_1_4 h1, c_52 h1 hb ebc, tb, tb1, tlb1, rb7, tg_1 hSb, tg_6 hSb, rf_1_4 hSb, c54]
theorem sh8 {N i : Nat} (hN : N ≤ 8) (hi : i < N) : (8 : Int32) * (nI N - 1 - nI i) = nI (8 * (N - 1 - i)) := by
  have : nI N - 1 - nI i = nI (N - 1 - i) := by
    rw [show N = (N - 1 - i) + i + 1 by omega, ← nI_il, Int32.add_sub_cancel, ← nI_add, Int32.add_sub_cancel]
    congr 1
    omega
  rw [this, show (8 : Int32) = nI 8 from rfl, pk_mul]
/-- the bytes of one part that is there -/
theorem lp_46 {h : gi_H} {d n a u q0 N b p c0 : Nat} {w : Int64} {lk : Int32} {Q : gi_P} (ca : gi_c h a = (5, 0)) (ca1 : gi_c h (a + 1) = (100, 12)) (la : a < gi_n h) (la1 : a + 1 < gi_n h) (da : dy a) (f7 : gi_R h a 7 = some (a + 1)) (hN : N ≤ 8) (hq : q0 + N ≤ 768) (hb : b < 256) : ∀ m i (g : gi_H) (S : gi_Z) (i0 m0 : Nat), i + m ≤ N → (∀ j, i ≤ j → j < i + m → (q0 + j) / 64 = p) → i0 + m0 = i → S 89 (12 * n + p) = nI b → S 91 b = 1 → wI_ h g n a (Wb w N q0 b S i0 m0) c0 → (∀ g', wI_ h g' n a (Wb w N q0 b S i0 (m0 + m)) c0 → gi_ex (gi_cx (d + 3)) 46 Q 93 [some (.inr (.inr (some 1))), some (.inl (nI u)), some (.inl (nI n)), some (.inl (nI q0)), some (.inl (nI N)), some (.inr (.inl w)), none, some (.inr (.inr (some a))), some (.inl lk), some (.inl (nI (i + m)))] [] g') → gi_ex (gi_cx (d + 3)) 46 Q 93 [some (.inr (.inr (some 1))), some (.inl (nI u)), some (.inl (nI n)), some (.inl (nI q0)), some (.inl (nI N)), some (.inr (.inl w)), none, some (.inr (.inr (some a))), some (.inl lk), some (.inl (nI (i)))] [] g := by
  intro m
  induction m with
  | zero =>
    intro i g S i0 m0 _ _ _ _ _ H k
    exact k g H
  | succ m ih =>
    intro i g S i0 m0 him hp e0 e9 u1 H k
    have hpi := hp i (by omega) (by omega)
    obtain ⟨g', c51, H'⟩ := c_51r (d := d) (at' := q0 + i) (v := cv w (8 * (N - 1 - i))) H ca ca1 la la1 da f7 (by omega) hb (by rw [hpi, Wb_o (by omega)]; exact e9) (by rw [Wb_o (by omega)]; exact u1)
    have HW : wI_ h g' n a (Wb w N q0 b S i0 (m0 + 1)) c0 := by
      simp only [Wb]
      rw [e0]
      exact H'
    have nx := ih (i + 1) g' S i0 (m0 + 1) (by omega) (fun j w1 w2 => hp j (by omega) (by omega)) (by omega) e9 u1 HW (fun g2 H2 => by
      rw [show i + 1 + m = i + (m + 1) by omega]
      exact k g2 (by rw [show m0 + (m + 1) = m0 + 1 + m by omega]; exact H2))
    have z3 : (nI N ≤ nI i) = False := lit_le (N := N) (by omega) (by omega)
    have hS := H.1
    have sh := sh8 hN (show i < N by omega)
    have cvd : ((w.toUInt64 >>> ((nI (8 * (N - 1 - i))).toInt64.toUInt64 &&& Int64.toUInt64 63)).toInt64).toInt32 = cv w (8 * (N - 1 - i)) := rfl
    rw [x46_93]
    simp only [x46_95, x46_97, x46_100, x46_101, x46_103, x46_104, x46_106, x46_107, x46_109, x46_111, x46_113, x46_114, x46_115, x46_117, x46_118, x46_119, x46_120, x46_121, x46_124, x46_127, inc_9i, inc_9n, inc_9r, ldI_3, ldI_4, ldI_9, ldL_5, ldR_0, ldR_7, I_pI, R_pI, c_pI, n_pI, u_pI, t_pI, l_pI, I_pR, R_pR, c_pR, n_pR, u_pR, t_pR, l_pR, get_s, Option.toList, List.nil_append, List.cons_append, List.length_nil, List.length_cons, gi_B, true_and, and_true, false_and, and_false, not_true_eq_false, not_false_eq_true, true_implies, false_implies, implies_true, Classical.not_not, ite_true, ite_false, Option.some.injEq, Sum.inl.injEq, exists_eq', eq_self, true_or, or_true, false_or, or_false, Nat.reduceEqDiff, Nat.reduceLeDiff, Nat.reduceAdd, Nat.zero_le, one_ne0, if_neg one_ne0', lt_102_103, lt_102_104, lt_102_105, lt_102_106, lt_99_107, lt_100_107, lt_101_107, lt_103_107, lt_104_107, lt_105_107, lt_106_107, lt_98_99, lt_98_100, lt_98_101, lt_98_106, z3, tg_1 hS, nI_add, sh, cvd, c51, nI_i1]
    exact nx
/-- the bytes of one part -/
theorem stg {h g : gi_H} {d n a u q0 N b p c0 i m : Nat} {w : Int64} {lk : Int32} {Q : gi_P} {S : gi_Z} (ca : gi_c h a = (5, 0)) (ca1 : gi_c h (a + 1) = (100, 12)) (la : a < gi_n h) (la1 : a + 1 < gi_n h) (da : dy a) (da1 : dy (a + 1)) (f7 : gi_R h a 7 = some (a + 1)) (hN : N ≤ 8) (hq : q0 + N ≤ 768) (hb : b < 256) (hm : i + (m + 1) ≤ N) (hp : ∀ j, i ≤ j → j < i + (m + 1) → (q0 + j) / 64 = p) (H : wI_ h g n a S c0) (hc : (S 89 (12 * n + p) = nI b ∧ S 91 b = 1) ∨ (S 89 (12 * n + p) = -1 ∧ ff (fun q => decide (S 91 q = 0)) 0 256 = b))
    (k : ∀ g', wI_ h g' n a (Wb w N q0 b (if S 89 (12 * n + p) = -1 then clS S (12 * n + p) b else S) i (m + 1)) (c0 + 1) → gi_ex (gi_cx (d + 3)) 46 Q 93 [some (.inr (.inr (some 1))), some (.inl (nI u)), some (.inl (nI n)), some (.inl (nI q0)), some (.inl (nI N)), some (.inr (.inl w)), none, some (.inr (.inr (some a))), some (.inl lk), some (.inl (nI (i + (m + 1))))] [] g') : gi_ex (gi_cx (d + 3)) 46 Q 93 [some (.inr (.inr (some 1))), some (.inl (nI u)), some (.inl (nI n)), some (.inl (nI q0)), some (.inl (nI N)), some (.inr (.inl w)), none, some (.inr (.inr (some a))), some (.inl lk), some (.inl (nI (i)))] [] g := by
  have up : ∀ {g : gi_H} {S : gi_Z}, wI_ h g n a S c0 → wI_ h g n a S (c0 + 1) := fun H => ⟨H.1, H.2.1, H.2.2.1, ⟨H.2.2.2.1.1, by have := H.2.2.2.1.2.1; omega, by have := H.2.2.2.1.2.2.1; omega, H.2.2.2.1.2.2.2⟩, H.2.2.2.2⟩
  have ne : ¬ nI b = -1 := fun z => by
    have := congrArg Int32.toInt z
    rw [nI_toInt (by omega), ti_m1] at this
    omega
  rcases hc with ⟨e9, u1⟩ | ⟨e9, eb⟩
  · rw [if_neg (by rw [e9]; exact ne)] at k
    refine lp_46 (c0 := c0) ca ca1 la la1 da f7 hN hq hb (m + 1) i g S i 0 hm hp rfl e9 u1 H (fun g' H' => ?_)
    rw [Nat.zero_add] at H'
    exact k g' (up H')
  · rw [if_pos e9] at k
    have hpi := hp i (by omega) (by omega)
    obtain ⟨g', c51, H'⟩ := c_51c (d := d) (at' := q0 + i) (v := cv w (8 * (N - 1 - i))) H ca ca1 la la1 da da1 f7 (by omega) hb (by rw [hpi]; exact e9) eb
    rw [hpi] at H'
    have HW : wI_ h g' n a (Wb w N q0 b (clS S (12 * n + p) b) i 1) (c0 + 1) := H'
    have x9 : clS S (12 * n + p) b 89 (12 * n + p) = nI b := by unfold clS; rw [if_pos ⟨rfl, rfl⟩]
    have x1 : clS S (12 * n + p) b 91 b = 1 := by unfold clS; rw [if_neg (by omega), if_pos ⟨rfl, rfl⟩]
    have nx := lp_46 (d := d) (u := u) (p := p) (lk := lk) (Q := Q) ca ca1 la la1 da f7 hN hq hb m (i + 1) g' (clS S (12 * n + p) b) i 1 (by omega) (fun j w1 w2 => hp j (by omega) (by omega)) rfl x9 x1 HW (fun g2 H2 => by
      rw [show i + 1 + m = i + (m + 1) by omega]
      rw [Nat.add_comm 1 m] at H2
      exact k g2 H2)
    have z3 : (nI N ≤ nI i) = False := lit_le (N := N) (by omega) (by omega)
    have hS := H.1
    have sh := sh8 hN (show i < N by omega)
    have cvd : ((w.toUInt64 >>> ((nI (8 * (N - 1 - i))).toInt64.toUInt64 &&& Int64.toUInt64 63)).toInt64).toInt32 = cv w (8 * (N - 1 - i)) := rfl
    rw [x46_93]
    simp only [x46_95, x46_97, x46_100, x46_101, x46_103, x46_104, x46_106, x46_107, x46_109, x46_111, x46_113, x46_114, x46_115, x46_117, x46_118, x46_119, x46_120, x46_121, x46_124, x46_127, inc_9i, inc_9n, inc_9r, ldI_3, ldI_4, ldI_9, ldL_5, ldR_0, ldR_7, I_pI, R_pI, c_pI, n_pI, u_pI, t_pI, l_pI, I_pR, R_pR, c_pR, n_pR, u_pR, t_pR, l_pR, get_s, Option.toList, List.nil_append, List.cons_append, List.length_nil, List.length_cons, gi_B, true_and, and_true, false_and, and_false, not_true_eq_false, not_false_eq_true, true_implies, false_implies, implies_true, Classical.not_not, ite_true, ite_false, Option.some.injEq, Sum.inl.injEq, exists_eq', eq_self, true_or, or_true, false_or, or_false, Nat.reduceEqDiff, Nat.reduceLeDiff, Nat.reduceAdd, Nat.zero_le, one_ne0, if_neg one_ne0', lt_102_103, lt_102_104, lt_102_105, lt_102_106, lt_99_107, lt_100_107, lt_101_107, lt_103_107, lt_104_107, lt_105_107, lt_106_107, lt_98_99, lt_98_100, lt_98_101, lt_98_106, z3, tg_1 hS, nI_add, sh, cvd, c51, nI_i1]
    exact nx

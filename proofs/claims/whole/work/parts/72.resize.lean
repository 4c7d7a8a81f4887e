/-! resize: the class, in one -/
set_option maxRecDepth 100000

theorem c37h {L : Nat} {xs : Nat → Int32} {c d n a ow gr : Nat} {m : Int32} {h g : gi_H} {Q : gi_P} (J : jH L xs c h) (hc : c ≤ 7142) (hn : n < 64) (h0 : 0 < n) (da : dy a) (ho : ow < 16) (hg : gr < 16) (hS : gi_S g) (e : ∀ x y, x < 76 → gi_I g x y = gi_I h x y) (ta : gi_tag g (some a) = 5) (e1 : gi_I g a 2 = nI ow) (e2 : gi_I g a 3 = nI gr) : gi_cx (d + 5) 37 [.inr (.inr (some 1)), .inl (nI n), .inr (.inr (some a)), .inl 0, .inl m] g Q ↔ Q none (qst g (bo_ (AD (gi_I h) m) (2 * ow + 0) (32 + 2 * gr + 0) (U0 h))) := by
  have q0 := QC_J J
  have qc : QC g (gi_I h) := ⟨fun p hp => ⟨by rw [e _ _ (by omega)]; exact (q0.1 p hp).1, by rw [e _ _ (by omega)]; exact (q0.1 p hp).2⟩, by rw [e _ _ (by omega)]; exact q0.2.1, fun k hk => by rw [e _ _ (by omega)]; exact q0.2.2 k hk⟩
  have := c_37_0 (d := d) (m := m) (Q := Q) hS (S := gi_I h) qc (fun p hp => ((QR_J J hc).2.1 p hp).2.2.1) h0 hn da ho hg ta e1 e2
  rw [qst_c (g := g) (U := bo_ (AD (gi_I h) m) (2 * ow + 0) (32 + 2 * gr + 0) (U0 g)) (V := bo_ (AD (gi_I h) m) (2 * ow + 0) (32 + 2 * gr + 0) (U0 h)) (fun p hp => bo_c (fun p hp => by unfold U0; rw [e _ _ (by omega), e _ _ (by omega)]) (by omega) (by omega) hp)] at this
  exact this
theorem hs_ne {L : Nat} {xs : Nat → Int32} {c n p m q b : Nat} {h : gi_H} (J : jH L xs c h) (hn : n < 64) (hp : p + m ≤ 12) (hq : q < 12) (ne : q < p ∨ p + m ≤ q) (hb : b < 256) (e : gi_I h 89 (12 * n + q) = nI b) : hs (gi_I h) n b p m = false := by
  have s4 := J.2.2.2.2.2.2.2.2.2.2.2.1.2.2.2
  cases w : hs (gi_I h) n b p m with
  | false => rfl
  | true =>
    obtain ⟨q', h1, h2, h3, h4⟩ := (hs_e m).mp w
    have := s4.2.2.1 (12 * n + q) (12 * n + q') (by omega) (by omega) (by rw [refP (by omega), e, nI_toInt (by omega)]; omega) (by rw [refP (by omega), refP (by omega), e, h4])
    omega
/-- the class's cut -/
theorem c_60 {L : Nat} {xs : Nat → Int32} {c d n a z ow gr p0 : Nat} {h : gi_H} {Q : gi_P} (J : jH L xs c h) (hc : c ≤ 7142) (hn : n < 64) (h0 : 0 < n) (hN : rN h (gi_I h) n a) (hz : z ≤ 768) (ho : ow < 16) (hg : gr < 16) (e85 : gi_I h 85 n = nI ow) (e86 : gi_I h 86 n = nI gr) (ep : p0 = (z + 63) / 64)
    (gA : (z % 64 = 0 ∨ gi_I h 89 (12 * n + z / 64) = -1) → Q none (qst (cutH h a n p0 (12 - p0)) (bo_ (AD (gi_I h) (-(nI (cs (gi_I h) n p0 (12 - p0))))) (2 * ow + 0) (32 + 2 * gr + 0) (U0 h))))
    (gB : ∀ b B, b < 256 → ¬ z % 64 = 0 → gi_I h 89 (12 * n + z / 64) = nI b → gi_R h 7 b = some B → Q none (qst (zH (cutH h a n p0 (12 - p0)) B (z % 64) (64 - z % 64)) (bo_ (AD (gi_I h) (-(nI (cs (gi_I h) n p0 (12 - p0))))) (2 * ow + 0) (32 + 2 * gr + 0) (U0 h)))) : gi_cx (d + 6) 60 [.inr (.inr (some 1)), .inl (nI n), .inr (.inr (some a)), .inl (nI z)] h Q := by
  have hS := J.1
  have sn := J.2.2.2.2.2.2.2.2.2.2.2.1.1
  have hB := J.2.2.2.2.2.2.2.2.1
  have s4 := J.2.2.2.2.2.2.2.2.2.2.2.1.2.2.2
  obtain ⟨t0, t1, t2, t3, t4⟩ := rN_t hN
  obtain ⟨d1, d2, d3, c1, c2, c3, f7, f8, k0, k1, k2, k3, k4, k5, k6, kp, kl, kf, kt⟩ := id hN
  have hSc : gi_S (cutH h a n p0 (12 - p0)) := S_cut hS
  have f7c : gi_R (cutH h a n p0 (12 - p0)) a 7 = some (a + 1) := by rw [R_cut, if_neg (by unfold dy at d1; omega)]; exact f7
  have ia : ∀ y, gi_I (cutH h a n p0 (12 - p0)) a y = gi_I h a y := fun y => by rw [I_cut, if_neg (by omega)]
  have x1 : nI z + 64 - 1 = nI (z + 63) := by
    rw [show (64 : Int32) = nI 64 from rfl, nI_add, show z + 64 = z + 63 + 1 from rfl, ← nI_il, Int32.add_sub_cancel]
  have x2 := dv64 (q := z + 63) (by omega)
  rw [← ep] at x2
  have L := lp_60a (d := d + 4) (z := z) (p := p0) (Q := Q) hS hN sn hn (12 - p0) 0 (by omega)
  rw [cut_0, Nat.zero_add, Nat.add_zero, show nI (cs (gi_I h) n p0 0) = (0 : Int32) from rfl] at L
  simp only [e60, x60_0, x60_1, x60_3, x60_4, x60_6, x60_7, x60_8, x60_9, x60_11, x60_12, x60_14, x60_16, ldI_3, ldI_5, stI_4i, stI_4n, stI_4r, stI_5i, stI_5n, stI_5r, stI_6i, stI_6n, stI_6r, I_pI, R_pI, c_pI, n_pI, u_pI, t_pI, l_pI, I_pR, R_pR, c_pR, n_pR, u_pR, t_pR, l_pR, get_s, Option.toList, List.nil_append, List.cons_append, List.length_nil, List.length_cons, gi_B, true_and, and_true, false_and, and_false, not_true_eq_false, not_false_eq_true, true_implies, false_implies, implies_true, Classical.not_not, ite_true, ite_false, Option.some.injEq, Sum.inl.injEq, exists_eq', eq_self, true_or, or_true, false_or, or_false, Nat.reduceEqDiff, Nat.reduceLeDiff, Nat.reduceAdd, Nat.zero_le, one_ne0, if_neg one_ne0', lt_102_103, lt_102_104, lt_102_105, lt_102_106, lt_99_107, lt_100_107, lt_101_107, lt_103_107, lt_104_107, lt_105_107, lt_106_107, lt_98_99, lt_98_100, lt_98_101, lt_98_106, x1, x2, z64]
  refine L ?_
  rw [show p0 + (12 - p0) = 12 by omega]
  simp only [x60_67, x60_68, ldI_3, stI_6i, stI_6n, stI_6r, I_pI, R_pI, c_pI, n_pI, u_pI, t_pI, l_pI, I_pR, R_pR, c_pR, n_pR, u_pR, t_pR, l_pR, get_s, Option.toList, List.nil_append, List.cons_append, List.length_nil, List.length_cons, gi_B, true_and, and_true, false_and, and_false, not_true_eq_false, not_false_eq_true, true_implies, false_implies, implies_true, Classical.not_not, ite_true, ite_false, Option.some.injEq, Sum.inl.injEq, exists_eq', eq_self, true_or, or_true, false_or, or_false, Nat.reduceEqDiff, Nat.reduceLeDiff, Nat.reduceAdd, Nat.zero_le, one_ne0, if_neg one_ne0', lt_102_103, lt_102_104, lt_102_105, lt_102_106, lt_99_107, lt_100_107, lt_101_107, lt_103_107, lt_104_107, lt_105_107, lt_106_107, lt_98_99, lt_98_100, lt_98_101, lt_98_106]
  by_cases w : z % 64 = 0
  · refine lp_60n (d := d + 3) hSc t0 t1 t2 f7c (by omega) 0 z (by omega) (Or.inl rfl) ?_
    have c37 := fun {d : Nat} {m : Int32} {Q : gi_P} => c37h (d := d) (m := m) (Q := Q) J hc hn h0 d1 ho hg hSc (fun x y hx => by rw [I_cut, if_neg (by unfold dy at d2; omega)]) t0 (by rw [ia, k2, e85]) (by rw [ia, k3, e86])
    simp only [x60_109, x60_110, x60_111, x60_112, x60_113, x60_115, x60_116, x60_119, ldI_1, ldI_4, ldR_0, ldR_2, I_pI, R_pI, c_pI, n_pI, u_pI, t_pI, l_pI, I_pR, R_pR, c_pR, n_pR, u_pR, t_pR, l_pR, get_s, Option.toList, List.nil_append, List.cons_append, List.length_nil, List.length_cons, gi_B, true_and, and_true, false_and, and_false, not_true_eq_false, not_false_eq_true, true_implies, false_implies, implies_true, Classical.not_not, ite_true, ite_false, Option.some.injEq, Sum.inl.injEq, exists_eq', eq_self, true_or, or_true, false_or, or_false, Nat.reduceEqDiff, Nat.reduceLeDiff, Nat.reduceAdd, Nat.zero_le, one_ne0, if_neg one_ne0', lt_102_103, lt_102_104, lt_102_105, lt_102_106, lt_99_107, lt_100_107, lt_101_107, lt_103_107, lt_104_107, lt_105_107, lt_106_107, lt_98_99, lt_98_100, lt_98_101, lt_98_106, tg_1 hSc, c37]
    exact gA (Or.inl w)
  · have pz : z / 64 = p0 - 1 := by omega
    have hk := kp (p0 - 1) (by omega)
    have ic : gi_I (cutH h a n p0 (12 - p0)) (a + 1) (p0 - 1) = gi_I h 89 (12 * n + z / 64) := by rw [I_cut, if_neg (by omega), hk, pz]
    by_cases w2 : gi_I h 89 (12 * n + z / 64) = -1
    · refine lp_60n (d := d + 3) hSc t0 t1 t2 f7c (by omega) (64 * p0 - z) z (by omega) (Or.inr ⟨by omega, by rw [ic]; exact w2⟩) ?_
      have c37 := fun {d : Nat} {m : Int32} {Q : gi_P} => c37h (d := d) (m := m) (Q := Q) J hc hn h0 d1 ho hg hSc (fun x y hx => by rw [I_cut, if_neg (by unfold dy at d2; omega)]) t0 (by rw [ia, k2, e85]) (by rw [ia, k3, e86])
      simp only [x60_109, x60_110, x60_111, x60_112, x60_113, x60_115, x60_116, x60_119, ldI_1, ldI_4, ldR_0, ldR_2, I_pI, R_pI, c_pI, n_pI, u_pI, t_pI, l_pI, I_pR, R_pR, c_pR, n_pR, u_pR, t_pR, l_pR, get_s, Option.toList, List.nil_append, List.cons_append, List.length_nil, List.length_cons, gi_B, true_and, and_true, false_and, and_false, not_true_eq_false, not_false_eq_true, true_implies, false_implies, implies_true, Classical.not_not, ite_true, ite_false, Option.some.injEq, Sum.inl.injEq, exists_eq', eq_self, true_or, or_true, false_or, or_false, Nat.reduceEqDiff, Nat.reduceLeDiff, Nat.reduceAdd, Nat.zero_le, one_ne0, if_neg one_ne0', lt_102_103, lt_102_104, lt_102_105, lt_102_106, lt_99_107, lt_100_107, lt_101_107, lt_103_107, lt_104_107, lt_105_107, lt_106_107, lt_98_99, lt_98_100, lt_98_101, lt_98_106, tg_1 hSc, c37]
      exact gA (Or.inr w2)
    · have g9 := ((sn.2 n hn).2.2.2.2.2.2.2.2 (z / 64) (by omega)).1
      obtain ⟨b, hb, eb⟩ : ∃ q, q < 256 ∧ gi_I h 89 (12 * n + z / 64) = nI q := by
        rw [i32_eq, ti_m1] at w2
        obtain ⟨q, hq, eq⟩ := nI_of (x := gi_I h 89 (12 * n + z / 64)) (by rw [i32_lt, ti_0]; omega)
        rw [eq, nI_toInt hq] at g9
        exact ⟨q, by omega, eq⟩
      have us : gi_I h 91 b = 1 := by
        have := s4.2.1 (12 * n + z / 64) (by omega) (by rw [refP (by omega), eb, nI_toInt (by omega)]; omega)
        rw [refP (by omega), eb, nI_clamp (by omega)] at this
        exact this
      obtain ⟨B, eB⟩ : ∃ B, gi_R h 7 b = some B := by
        cases q : gi_R h 7 b with
        | none => have := (hB.1 b hb).1 q; rw [us] at this; exact absurd this (by decide)
        | some B => exact ⟨B, rfl⟩
      obtain ⟨o0, o1, o2, o3, o4, o5, o6⟩ := (hB.1 b hb).2 B eB
      have hsb : hs (gi_I h) n b p0 (12 - p0) = false := hs_ne J hn (by omega) (q := z / 64) (by omega) (by omega) hb eb
      have Z := lp_60z (d := d + 3) (n := n) (z := z) (p := p0) (b := b) (B := B) (k0 := z % 64) (go := nI (cs (gi_I h) n p0 (12 - p0))) (Q := Q) hSc t0 t1 t2 f7c (by omega) hb (by rw [ic]; exact eb) (by rw [R_cut, if_neg (by rw [hsb]; exact fun z => by cases z.2)]; exact eB) (by rw [t_cut, tag_s, o3]) (by rw [R_cut, if_neg (by unfold dy at o1; omega)]; exact o4) (by rw [t_cut, tag_s, o5]) (by rw [l_cut, len_s, o5]) (ne_c (by rw [c2, o5]; decide)) (by omega) (64 - z % 64) 0 (by omega)
      rw [zH_0, Nat.zero_add, Nat.add_zero, show 64 * (p0 - 1) + (z % 64 + 0) = z by omega] at Z
      refine Z ?_
      have hSz : gi_S (zH (cutH h a n p0 (12 - p0)) B (z % 64) (64 - z % 64)) := hSc
      have aB : a ≠ B + 1 := ne_c (by rw [c1, o5]; decide)
      have iz : ∀ y, gi_I (zH (cutH h a n p0 (12 - p0)) B (z % 64) (64 - z % 64)) a y = gi_I h a y := fun y => by rw [I_zH, if_neg (fun q => aB q.1), ia]
      have c37 := fun {d : Nat} {m : Int32} {Q : gi_P} => c37h (d := d) (m := m) (Q := Q) J hc hn h0 d1 ho hg hSz (fun x y hx => by rw [I_zH, if_neg (by unfold dy at o2; omega), I_cut, if_neg (by unfold dy at d2; omega)]) t0 (by rw [iz, k2, e85]) (by rw [iz, k3, e86])
      simp only [x60_109, x60_110, x60_111, x60_112, x60_113, x60_115, x60_116, x60_119, ldI_1, ldI_4, ldR_0, ldR_2, I_pI, R_pI, c_pI, n_pI, u_pI, t_pI, l_pI, I_pR, R_pR, c_pR, n_pR, u_pR, t_pR, l_pR, get_s, Option.toList, List.nil_append, List.cons_append, List.length_nil, List.length_cons, gi_B, true_and, and_true, false_and, and_false, not_true_eq_false, not_false_eq_true, true_implies, false_implies, implies_true, Classical.not_not, ite_true, ite_false, Option.some.injEq, Sum.inl.injEq, exists_eq', eq_self, true_or, or_true, false_or, or_false, Nat.reduceEqDiff, Nat.reduceLeDiff, Nat.reduceAdd, Nat.zero_le, one_ne0, if_neg one_ne0', lt_102_103, lt_102_104, lt_102_105, lt_102_106, lt_99_107, lt_100_107, lt_101_107, lt_103_107, lt_104_107, lt_105_107, lt_106_107, lt_98_99, lt_98_100, lt_98_101, lt_98_106, tg_1 hSz, c37]
      exact gB b B hb w eb eB

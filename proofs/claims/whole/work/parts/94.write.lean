/-! write: the class, in one -/
set_option maxRecDepth 100000

def rdS (S : gi_Z) (n p b : Nat) : gi_Z := if S 89 (12 * n + p) = -1 then clS S (12 * n + p) b else S
def okb (S : gi_Z) (n p b : Nat) : Prop := (S 89 (12 * n + p) = nI b ∧ S 91 b = 1) ∨ (S 89 (12 * n + p) = -1 ∧ ff (fun q => decide (S 91 q = 0)) 0 256 = b)
def SFd (w : Int64) (N q0 n b1 b2 : Nat) (S : gi_Z) : gi_Z := if q0 / 64 = (q0 + N - 1) / 64 then Wb w N q0 b1 (rdS S n (q0 / 64) b1) 0 N else Wb w N q0 b2 (Wb w N q0 b1 (rdS (rdS S n (q0 / 64) b1) n ((q0 + N - 1) / 64) b2) 0 (64 * (q0 / 64 + 1) - q0)) (64 * (q0 / 64 + 1) - q0) (N - (64 * (q0 / 64 + 1) - q0))
theorem nIm {b : Nat} (hb : b < 256) : ¬ nI b = -1 := fun z => by
  have := congrArg Int32.toInt z
  rw [nI_toInt (by omega), ti_m1] at this
  omega
theorem rdS_at {S : gi_Z} {n p b : Nat} (hb : b < 256) (h : okb S n p b) : rdS S n p b 89 (12 * n + p) = nI b ∧ rdS S n p b 91 b = 1 := by
  unfold rdS
  rcases h with ⟨h1, h2⟩ | ⟨h1, h2⟩
  · rw [if_neg (by rw [h1]; exact nIm hb)]
    exact ⟨h1, h2⟩
  · rw [if_pos h1]
    unfold clS
    exact ⟨by rw [if_pos ⟨rfl, rfl⟩], by rw [if_neg (by omega), if_pos ⟨rfl, rfl⟩]⟩
theorem Wb_cl {w : Int64} {N q0 b1 b2 x0 i : Nat} {S : gi_Z} (ne : b1 ≠ b2) : ∀ m, clS (Wb w N q0 b1 S i m) x0 b2 = Wb w N q0 b1 (clS S x0 b2) i m
  | 0 => rfl
  | m + 1 => by
    simp only [Wb]
    rw [← Wb_cl ne m]
    funext x y
    show (if x = 89 ∧ y = x0 then nI b2 else if x = 91 ∧ y = b2 then 1 else if x = 92 ∧ 64 * b2 ≤ y ∧ y < 64 * b2 + 64 then 0 else if x = 92 ∧ y = 64 * b1 + (q0 + (i + m)) % 64 then vb w N (i + m) else Wb w N q0 b1 S i m x y) = if x = 92 ∧ y = 64 * b1 + (q0 + (i + m)) % 64 then vb w N (i + m) else (if x = 89 ∧ y = x0 then nI b2 else if x = 91 ∧ y = b2 then 1 else if x = 92 ∧ 64 * b2 ≤ y ∧ y < 64 * b2 + 64 then 0 else Wb w N q0 b1 S i m x y)
    by_cases w1 : x = 89 ∧ y = x0
    · rw [if_pos w1, if_neg (by omega), if_pos w1]
    · rw [if_neg w1]
      by_cases w2 : x = 91 ∧ y = b2
      · rw [if_pos w2, if_neg (by omega), if_neg w1, if_pos w2]
      · rw [if_neg w2]
        by_cases w3 : x = 92 ∧ 64 * b2 ≤ y ∧ y < 64 * b2 + 64
        · rw [if_pos w3, if_neg (by omega), if_neg w1, if_neg w2, if_pos w3]
        · rw [if_neg w3, if_neg w1, if_neg w2, if_neg w3]
theorem Wb_rd {w : Int64} {N q0 n b1 b2 p i m : Nat} {S : gi_Z} (h1 : S 91 b1 = 1) (h2 : okb S n p b2) (hb2 : b2 < 256) : rdS (Wb w N q0 b1 S i m) n p b2 = Wb w N q0 b1 (rdS S n p b2) i m ∧ okb (Wb w N q0 b1 S i m) n p b2 := by
  unfold rdS okb
  have e91 : (fun q => decide (Wb w N q0 b1 S i m 91 q = 0)) = (fun q => decide (S 91 q = 0)) := by
    funext q
    rw [Wb_o (by omega)]
  rw [Wb_o (by omega), Wb_o (by omega), e91]
  refine ⟨?_, h2⟩
  by_cases w1 : S 89 (12 * n + p) = -1
  · rw [if_pos w1, if_pos w1]
    refine Wb_cl (fun e => ?_) m
    rcases h2 with ⟨q1, q2⟩ | ⟨q1, q2⟩
    · rw [w1] at q1; exact nIm hb2 q1.symm
    · have := ff_t (g := fun q => decide (S 91 q = 0)) 256 0 (by omega)
      rw [q2, ← e] at this
      have := of_decide_eq_true this
      rw [h1] at this
      exact absurd this (by decide)
  · rw [if_neg w1, if_neg w1]
theorem wr_C {L : Nat} {xs : Nat → Int32} {c d n a u q0 N lk ow gr b1 b2 z0 : Nat} {w : Int64} {h : gi_H} {Q : gi_P} (J : jH L xs c h) (hc : c ≤ 7142) (hn : n < 64) (h0 : 0 < n) (hN : rN h (gi_I h) n a) (h1 : 1 ≤ N) (h8 : N ≤ 8) (hq : q0 + N ≤ 768) (ho : ow < 16) (hg : gr < 16) (e85 : gi_I h 85 n = nI ow) (e86 : gi_I h 86 n = nI gr) (e88 : gi_I h 88 n = nI z0) (hz0 : z0 ≤ 768) (hb1 : b1 < 256) (hb2 : b2 < 256) (o1 : okb (gi_I h) n (q0 / 64) b1) (o2 : q0 / 64 < (q0 + N - 1) / 64 → okb (rdS (gi_I h) n (q0 / 64) b1) n ((q0 + N - 1) / 64) b2)
    (k : ∀ g', wI_ h g' n a (SFd w N q0 n b1 b2 (gi_I h)) 2 → Q (some (.inl (nI (if z0 < q0 + N then q0 + N else z0)))) (gi_pI (qst g' (bo_ (AD (gi_I h) (nI lk)) (2 * ow + 0) (32 + 2 * gr + 0) (U0 h))) a 5 (nI (if z0 < q0 + N then q0 + N else z0)))) : gi_ex (gi_cx (d + 6)) 46 Q 90 [some (.inr (.inr (some 1))), some (.inl (nI u)), some (.inl (nI n)), some (.inl (nI q0)), some (.inl (nI N)), some (.inr (.inl w)), none, some (.inr (.inr (some a))), some (.inl (nI lk)), none] [] h := by
  obtain ⟨j1, j2, j3, j4, j5, j6, j7, j8, j9, j10, j11, j12, j13, j14⟩ := id J
  obtain ⟨t0, t1, t2, t3, t4⟩ := rN_t hN
  obtain ⟨d1, d2, d3, c1, c2, c3, f7, f8, k0, k1, k2, k3, k4, k5, k6, kp, kl, kf, kt⟩ := id hN
  have lt : ∀ x, gi_c h x ≠ (0, 0) → x < gi_n h := fun x hx => Nat.lt_of_not_le (fun w => hx (j2 x w))
  have la := lt a (by rw [c1]; decide)
  have la1 := lt (a + 1) (by rw [c2]; decide)
  have dd1 := d1
  have dd2 := d2
  unfold dy at dd1 dd2
  have h109 := j1.1
  have H0 : wI_ h h n a (gi_I h) 0 := ⟨j1, j9, kp, ⟨Nat.le_refl _, by omega, by omega, j2⟩, fun _ _ => rfl, fun _ _ _ _ => rfl, fun _ _ _ _ _ => rfl⟩
  have fin : ∀ g', wI_ h g' n a (SFd w N q0 n b1 b2 (gi_I h)) 2 → gi_ex (gi_cx (d + 6)) 46 Q 93 [some (.inr (.inr (some 1))), some (.inl (nI u)), some (.inl (nI n)), some (.inl (nI q0)), some (.inl (nI N)), some (.inr (.inl w)), none, some (.inr (.inr (some a))), some (.inl (nI lk)), some (.inl (nI N))] [] g' := by
    intro g' H
    obtain ⟨q1, q2, q3, q4, q5, q6, q7⟩ := id H
    have kk := k g' H
    have ia : ∀ y, gi_I g' a y = gi_I h a y := fun y => q7 a y la (by omega) (by rw [c1]; decide)
    have ta : gi_tag g' (some a) = 5 := by rw [tag_s, q5 a la, c1]
    have c37 := fun {d : Nat} {m : Int32} {Q : gi_P} => c37h (d := d) (m := m) (Q := Q) J hc hn h0 d1 ho hg q1 (fun x y hx => q7 x y (by omega) (by omega) (cs_ne j1 j3 (Or.inl hx))) ta (by rw [ia, k2, e85]) (by rw [ia, k3, e86])
    have s5 : ∀ U, gi_I (qst g' U) a 5 = nI z0 := fun U => by rw [I_qstb (by omega), ia, k5, e88]
    have tq : ∀ U, gi_tag (qst g' U) (some a) = 5 := fun _ => ta
    have hSq : ∀ U, gi_S (qst g' U) := fun _ => q1
    have mx : (if nI z0 < nI (q0 + N) then nI (q0 + N) else nI z0) = nI (if z0 < q0 + N then q0 + N else z0) := by
      by_cases w2 : z0 < q0 + N
      · rw [if_pos (by rw [nlt (by omega) (by omega)]; exact w2), if_pos w2]
      · rw [if_neg (by rw [nlt (by omega) (by omega)]; exact w2), if_neg w2]
    rw [x46_93]
    simp only [x46_95, x46_97, x46_130, x46_131, x46_132, x46_134, x46_135, x46_137, x46_140, x46_142, x46_144, x46_147, x46_148, x46_150, x46_151, x46_154, x46_157, x46_159, x46_162, ldI_2, ldI_3, ldI_4, ldI_8, ldR_0, ldR_7, ldI_9, I_pI, R_pI, c_pI, n_pI, u_pI, t_pI, l_pI, I_pR, R_pR, c_pR, n_pR, u_pR, t_pR, l_pR, get_s, Option.toList, List.nil_append, List.cons_append, List.length_nil, List.length_cons, gi_B, true_and, and_true, false_and, and_false, not_true_eq_false, not_false_eq_true, true_implies, false_implies, implies_true, Classical.not_not, ite_true, ite_false, Option.some.injEq, Sum.inl.injEq, exists_eq', eq_self, true_or, or_true, false_or, or_false, Nat.reduceEqDiff, Nat.reduceLeDiff, Nat.reduceAdd, Nat.zero_le, one_ne0, if_neg one_ne0', lt_102_103, lt_102_104, lt_102_105, lt_102_106, lt_99_107, lt_100_107, lt_101_107, lt_103_107, lt_104_107, lt_105_107, lt_106_107, lt_98_99, lt_98_100, lt_98_101, lt_98_106, lit_ge, tg_1 q1, c37, tq, s5, nI_add, c_56, mx]
    exact kk
  simp only [x46_90, x46_91, stI_9i, stI_9n, stI_9r, I_pI, R_pI, c_pI, n_pI, u_pI, t_pI, l_pI, I_pR, R_pR, c_pR, n_pR, u_pR, t_pR, l_pR, get_s, Option.toList, List.nil_append, List.cons_append, List.length_nil, List.length_cons, gi_B, true_and, and_true, false_and, and_false, not_true_eq_false, not_false_eq_true, true_implies, false_implies, implies_true, Classical.not_not, ite_true, ite_false, Option.some.injEq, Sum.inl.injEq, exists_eq', eq_self, true_or, or_true, false_or, or_false, Nat.reduceEqDiff, Nat.reduceLeDiff, Nat.reduceAdd, Nat.zero_le, one_ne0, if_neg one_ne0', lt_102_103, lt_102_104, lt_102_105, lt_102_106, lt_99_107, lt_100_107, lt_101_107, lt_103_107, lt_104_107, lt_105_107, lt_106_107, lt_98_99, lt_98_100, lt_98_101, lt_98_106]
  by_cases w1 : q0 / 64 = (q0 + N - 1) / 64
  · obtain ⟨M, rfl⟩ : ∃ M, N = M + 1 := ⟨N - 1, by omega⟩
    have S1 := stg (d := d + 3) (u := u) (lk := nI lk) (w := w) (i := 0) (m := M) (p := q0 / 64) (b := b1) (c0 := 0) (Q := Q) (N := M + 1) (q0 := q0) c1 c2 la la1 d1 d2 f7 h8 hq hb1 (by omega) (fun j w2 w3 => by omega) H0 o1
    rw [show nI 0 = (0 : Int32) from rfl] at S1
    refine S1 (fun g' H' => ?_)
    rw [show 0 + (M + 1) = M + 1 from Nat.zero_add _]
    refine fin g' ?_
    unfold SFd
    rw [if_pos w1]
    exact ⟨H'.1, H'.2.1, H'.2.2.1, ⟨H'.2.2.2.1.1, by have := H'.2.2.2.1.2.1; omega, by have := H'.2.2.2.1.2.2.1; omega, H'.2.2.2.1.2.2.2⟩, H'.2.2.2.2⟩
  · have w2 : q0 / 64 < (q0 + N - 1) / 64 := by omega
    obtain ⟨M, eM⟩ : ∃ M, 64 * (q0 / 64 + 1) - q0 = M + 1 := ⟨64 * (q0 / 64 + 1) - q0 - 1, by omega⟩
    obtain ⟨M2, eM2⟩ : ∃ M2, N - (M + 1) = M2 + 1 := ⟨N - (M + 1) - 1, by omega⟩
    have S1 := stg (d := d + 3) (u := u) (lk := nI lk) (w := w) (i := 0) (m := M) (p := q0 / 64) (b := b1) (c0 := 0) (Q := Q) (N := N) (q0 := q0) c1 c2 la la1 d1 d2 f7 h8 hq hb1 (by omega) (fun j w2 w3 => by omega) H0 o1
    rw [show nI 0 = (0 : Int32) from rfl] at S1
    obtain ⟨r1, r2⟩ := rdS_at hb1 o1
    have WR := Wb_rd (w := w) (N := N) (q0 := q0) (i := 0) (m := M + 1) r2 (o2 w2) hb2
    refine S1 (fun g' H' => ?_)
    rw [show 0 + (M + 1) = M + 1 from Nat.zero_add _]
    refine stg (d := d + 3) (i := M + 1) (m := M2) (p := (q0 + N - 1) / 64) (b := b2) (c0 := 0 + 1) c1 c2 la la1 d1 d2 f7 h8 hq hb2 (by omega) (fun j w2 w3 => by omega) H' WR.2 (fun g2 H2 => ?_)
    rw [show M + 1 + (M2 + 1) = N by omega]
    refine fin g2 ?_
    unfold SFd
    rw [if_neg w1, eM, eM2, ← WR.1]
    exact H2

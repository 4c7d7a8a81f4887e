/-! remove: class and model -/
set_option maxRecDepth 100000

theorem qst_qst {h : gi_H} {U V : gi_T} : qst (qst h U) V = qst h V := by
  refine gi_ext (fun _ => rfl) (fun x y => ?_) (fun _ _ => rfl) rfl rfl
  rw [I_qst, I_qst, I_qst]
  by_cases w1 : 11 ≤ x ∧ x < 75 ∧ y = 0
  · rw [if_pos w1, if_pos w1]
  · by_cases w2 : 11 ≤ x ∧ x < 75 ∧ y = 1
    · rw [if_neg w1, if_pos w2, if_neg w1, if_pos w2]
    · rw [if_neg w1, if_neg w2, if_neg w1, if_neg w2, if_neg w1, if_neg w2]
theorem U0_qst {h : gi_H} {U : gi_T} {p : Nat} (hp : p < 64) : U0 (qst h U) p = U p := by
  unfold U0
  rw [I_qst0 hp, I_qst1 hp]
theorem gi_ct_last {f : Nat → Bool} : ∀ m j, gi_ct f j (m + 1) = gi_ct f j m + (bif f (j + m) then 1 else 0)
  | 0, j => by simp [gi_ct]
  | m + 1, j => by
    have := gi_ct_last (f := f) m (j + 1)
    show (bif f j then 1 else 0) + gi_ct f (j + 1) (m + 1) = (bif f j then 1 else 0) + gi_ct f (j + 1) m + _
    rw [this, show j + 1 + m = j + (m + 1) by omega]
    omega
theorem cs_ct {S : gi_Z} {n : Nat} (rg : ∀ p, p < 12 → -1 ≤ (S 89 (12 * n + p)).toInt) : ∀ m, m ≤ 12 → gi_ct (fun p => !decide (S 89 (12 * n + p) < 0)) 0 m = cs S n 0 m
  | 0, _ => rfl
  | m + 1, h => by
    rw [gi_ct_last, cs_ct rg m (by omega)]
    simp only [cs]
    rw [Nat.zero_add]
    congr 1
    by_cases w : S 89 (12 * n + m) = -1
    · rw [if_pos w, w]; rfl
    · rw [if_neg w]
      have : ¬ S 89 (12 * n + m) < 0 := by rw [lt_m1 (rg m (by omega))]; exact w
      simp [this]
def rlH (g : gi_H) (S : gi_Z) (n m : Nat) : gi_H := (g.1, g.2.1, fun b y => if b = 7 ∧ hs S n y 0 m = true then none else gi_R g b y, g.2.2.2.1, g.2.2.2.2)
theorem I_rl {g : gi_H} {S : gi_Z} {n m b y : Nat} : gi_I (rlH g S n m) b y = gi_I g b y := rfl
theorem R_rl {g : gi_H} {S : gi_Z} {n m b y : Nat} : gi_R (rlH g S n m) b y = if b = 7 ∧ hs S n y 0 m = true then none else gi_R g b y := rfl
theorem t_rl {g : gi_H} {S : gi_Z} {n m : Nat} {x : Option Nat} : gi_tag (rlH g S n m) x = gi_tag g x := rfl
theorem l_rl {g : gi_H} {S : gi_Z} {n m : Nat} {x : Option Nat} : gi_len (rlH g S n m) x = gi_len g x := rfl
theorem rl_0 {g : gi_H} {S : gi_Z} {n : Nat} : rlH g S n 0 = g := by
  refine gi_ext (fun _ => rfl) (fun _ _ => rfl) (fun b y => ?_) rfl rfl
  rw [R_rl, if_neg (fun w => by cases w.2)]
theorem S_rl {g : gi_H} {S : gi_Z} {n m : Nat} (hS : gi_S g) : gi_S (rlH g S n m) := by
  refine ⟨hS.1, hS.2.1, fun e he => ?_, fun q hq => ⟨(hS.2.2.2 q hq).1, ?_⟩⟩
  · have z : ∀ e ∈ gi_rs, e.1 ≠ 7 := by decide
    rw [R_rl, if_neg (fun w => z e he w.1)]
    exact hS.2.2.1 e he
  · rw [R_rl, if_neg (by omega)]
    exact (hS.2.2.2 q hq).2
theorem rl_s1 {g : gi_H} {S : gi_Z} {n m : Nat} (e2 : S 89 (12 * n + m) = -1) : rlH g S n (m + 1) = rlH g S n m := by
  refine gi_ext (fun _ => rfl) (fun _ _ => rfl) (fun b y => ?_) rfl rfl
  rw [R_rl, R_rl]
  have : hs S n y 0 (m + 1) = hs S n y 0 m := by
    simp only [hs, Nat.zero_add, e2]
    rw [decide_eq_false, Bool.or_false]
    rintro ⟨w1, w2⟩
    have := congrArg Int32.toInt w2
    rw [nI_toInt (by omega), ti_m1] at this
    omega
  rw [this]
theorem rl_s2 {g : gi_H} {S : gi_Z} {n m q : Nat} (hq : q < 256) (e2 : S 89 (12 * n + m) = nI q) : gi_pR (rlH g S n m) 7 q none = rlH g S n (m + 1) := by
  refine gi_ext (fun _ => rfl) (fun _ _ => rfl) (fun b y => ?_) rfl rfl
  rw [R_pR, R_rl, R_rl]
  have e : hs S n y 0 (m + 1) = (hs S n y 0 m || decide (y = q)) := by
    simp only [hs, Nat.zero_add, e2]
    congr 1
    by_cases w : y = q
    · subst w; simp [hq]
    · rw [decide_eq_false w]
      refine decide_eq_false ?_
      rintro ⟨w1, w2⟩
      exact w ((nI_eq (by omega) (by omega)).mp w2).symm
  rw [e]
  by_cases w : b = 7 ∧ y = q
  · rw [if_pos w, if_pos ⟨w.1, by rw [decide_eq_true w.2, Bool.or_true]⟩]
  · rw [if_neg w]
    by_cases w3 : b = 7
    · rw [decide_eq_false (fun z => w ⟨w3, z⟩), Bool.or_false]
    · rw [if_neg (fun z => w3 z.1), if_neg (fun z => w3 z.1)]
theorem lp_41 {d n a u : Nat} {af : Nat} {g : gi_H} {S : gi_Z} {Q : gi_P} (hS : gi_S g) (t0 : gi_tag g (some a) = 5) (t1 : gi_tag g (some (a + 1)) = 100) (t2 : gi_len g (some (a + 1)) = 12) (f7 : gi_R g a 7 = some (a + 1)) (a7 : a ≠ 7) (kp : ∀ p, p < 12 → gi_I g (a + 1) p = S 89 (12 * n + p)) (rg : ∀ p, p < 12 → -1 ≤ (S 89 (12 * n + p)).toInt ∧ (S 89 (12 * n + p)).toInt ≤ 255) : ∀ m j, j + m = 12 → gi_ex (gi_cx (d + 1)) 41 Q 157 [some (.inr (.inr (some 1))), some (.inl (nI u)), some (.inl (nI n)), some (.inr (.inr (some a))), some (.inr (.inr (some af))), some (.inl (nI 12))] [] (rlH g S n (j + m)) → gi_ex (gi_cx (d + 1)) 41 Q 130 [some (.inr (.inr (some 1))), some (.inl (nI u)), some (.inl (nI n)), some (.inr (.inr (some a))), some (.inr (.inr (some af))), some (.inl (nI j))] [] (rlH g S n j) := by
  intro m
  induction m with
  | zero =>
    intro j e h0
    obtain rfl : j = 12 := by omega
    rw [x41_130]
    simp only [x41_132, x41_134, ldI_5, I_pI, R_pI, c_pI, n_pI, u_pI, t_pI, l_pI, I_pR, R_pR, c_pR, n_pR, u_pR, t_pR, l_pR, get_s, Option.toList, List.nil_append, List.cons_append, List.length_nil, List.length_cons, gi_B, true_and, and_true, false_and, and_false, not_true_eq_false, not_false_eq_true, true_implies, false_implies, implies_true, Classical.not_not, ite_true, ite_false, Option.some.injEq, Sum.inl.injEq, exists_eq', eq_self, true_or, or_true, false_or, or_false, Nat.reduceEqDiff, Nat.reduceLeDiff, Nat.reduceAdd, Nat.zero_le, one_ne0, if_neg one_ne0', lt_102_103, lt_102_104, lt_102_105, lt_102_106, lt_99_107, lt_100_107, lt_101_107, lt_103_107, lt_104_107, lt_105_107, lt_106_107, lt_98_99, lt_98_100, lt_98_101, lt_98_106, n12, lit_ge]
    exact h0
  | succ m ih =>
    intro j e h0
    have nx := ih (j + 1) (by omega) (by rw [show j + 1 + m = j + (m + 1) by omega]; exact h0)
    have z1 : vp_in (nI j) 12 := vp_in_nI (by omega) (by omega)
    have z2 : (nI j).toNatClampNeg = j := nI_clamp (by omega)
    have z3 : ((12 : Int32) ≤ nI j) = False := lit_le (N := 12) (by omega) (by omega)
    have hSj : gi_S (rlH g S n j) := S_rl hS
    have n7 : (a = 7) = False := eq_false a7
    have k := kp j (by omega)
    have r := rg j (by omega)
    rw [x41_130]
    by_cases w : S 89 (12 * n + j) = -1
    · rw [rl_s1 w] at nx
      rw [w] at k
      simp only [x41_132, x41_134, x41_137, x41_138, x41_141, x41_142, x41_145, x41_147, x41_148, x41_151, x41_154, inc_5i, inc_5n, inc_5r, ldI_5, ldR_0, ldR_3, I_pI, R_pI, c_pI, n_pI, u_pI, t_pI, l_pI, I_pR, R_pR, c_pR, n_pR, u_pR, t_pR, l_pR, get_s, Option.toList, List.nil_append, List.cons_append, List.length_nil, List.length_cons, gi_B, true_and, and_true, false_and, and_false, not_true_eq_false, not_false_eq_true, true_implies, false_implies, implies_true, Classical.not_not, ite_true, ite_false, Option.some.injEq, Sum.inl.injEq, exists_eq', eq_self, true_or, or_true, false_or, or_false, Nat.reduceEqDiff, Nat.reduceLeDiff, Nat.reduceAdd, Nat.zero_le, one_ne0, if_neg one_ne0', lt_102_103, lt_102_104, lt_102_105, lt_102_106, lt_99_107, lt_100_107, lt_101_107, lt_103_107, lt_104_107, lt_105_107, lt_106_107, lt_98_99, lt_98_100, lt_98_101, lt_98_106, tg_1 hSj, tg_6 hSj, rf_1_4 hSj, I_rl, R_rl, t_rl, l_rl, t0, t1, t2, f7, n7, z1, z2, z3, k, c_45n, nI_i1]
      exact nx
    · obtain ⟨q, hq, eq⟩ : ∃ q, q < 256 ∧ S 89 (12 * n + j) = nI q := by
        rw [i32_eq, ti_m1] at w
        obtain ⟨q, hq, eq⟩ := nI_of (x := S 89 (12 * n + j)) (by rw [i32_lt, ti_0]; omega)
        rw [eq, nI_toInt hq] at r
        exact ⟨q, by omega, eq⟩
      rw [← rl_s2 hq eq] at nx
      rw [eq] at k
      simp only [x41_132, x41_134, x41_137, x41_138, x41_141, x41_142, x41_145, x41_147, x41_148, x41_151, x41_154, inc_5i, inc_5n, inc_5r, ldI_5, ldR_0, ldR_3, I_pI, R_pI, c_pI, n_pI, u_pI, t_pI, l_pI, I_pR, R_pR, c_pR, n_pR, u_pR, t_pR, l_pR, get_s, Option.toList, List.nil_append, List.cons_append, List.length_nil, List.length_cons, gi_B, true_and, and_true, false_and, and_false, not_true_eq_false, not_false_eq_true, true_implies, false_implies, implies_true, Classical.not_not, ite_true, ite_false, Option.some.injEq, Sum.inl.injEq, exists_eq', eq_self, true_or, or_true, false_or, or_false, Nat.reduceEqDiff, Nat.reduceLeDiff, Nat.reduceAdd, Nat.zero_le, one_ne0, if_neg one_ne0', lt_102_103, lt_102_104, lt_102_105, lt_102_106, lt_99_107, lt_100_107, lt_101_107, lt_103_107, lt_104_107, lt_105_107, lt_106_107, lt_98_99, lt_98_100, lt_98_101, lt_98_106, tg_1 hSj, tg_6 hSj, rf_1_4 hSj, I_rl, R_rl, t_rl, l_rl, t0, t1, t2, f7, n7, z1, z2, z3, k, c_45 hSj hq, nI_i1]
      exact nx
/-- the class's remove, behind its questions -/
theorem cm_C {L : Nat} {xs : Nat → Int32} {c d n a u ow gr nb : Nat} {af : Nat} {h : gi_H} {Q : gi_P} (J : jH L xs c h) (hc : c ≤ 7142) (hn : n < 64) (h0 : 0 < n) (hN : rN h (gi_I h) n a) (ho : ow < 16) (hg : gr < 16) (e85 : gi_I h 85 n = nI ow) (e86 : gi_I h 86 n = nI gr) (enb : (if gi_I h 90 n < 0 then 0 else 1) + gi_ct (fun p => !decide (gi_I h 89 (12 * n + p) < 0)) 0 12 = nb)
    (gd : Q (some (.inl 0)) (gi_pR (rlH (if gi_I h 90 n = -1 then qst h (bo_ (AD (gi_I h) (-1)) (2 * ow + 1) (32 + 2 * gr + 1) (bo_ (AD (gi_I h) (-(nI nb))) (2 * ow + 0) (32 + 2 * gr + 0) (U0 h))) else gi_pR (qst h (bo_ (AD (gi_I h) (-1)) (2 * ow + 1) (32 + 2 * gr + 1) (bo_ (AD (gi_I h) (-(nI nb))) (2 * ow + 0) (32 + 2 * gr + 0) (U0 h)))) 7 (gi_I h 90 n).toNatClampNeg none) (gi_I h) n 12) 5 n none)) : gi_ex (gi_cx (d + 6)) 41 Q 96 [some (.inr (.inr (some 1))), some (.inl (nI u)), some (.inl (nI n)), some (.inr (.inr (some a))), some (.inr (.inr (some af))), none] [] h := by
  have hS := J.1
  have sn := J.2.2.2.2.2.2.2.2.2.2.2.1.1
  obtain ⟨t0, t1, t2, t3, t4⟩ := rN_t hN
  obtain ⟨d1, d2, d3, c1, c2, c3, f7, f8, k0, k1, k2, k3, k4, k5, k6, kp, kl, kf, kt⟩ := id hN
  have dd1 := d1
  have dd2 := d2
  unfold dy at dd1 dd2
  obtain ⟨g1, g2, g3, g4, g5, g6, g7, g8, g9⟩ := sn.2 n hn
  have ev : vp_in (nI n) 64 := vp_in_nI hn (by omega)
  have ec : (nI n).toNatClampNeg = n := nI_clamp (by omega)
  have c44 := fun {d : Nat} {Q : gi_P} => c_44 (d := d) (Q := Q) c1 c2 f7
  rw [ct_parts hn hN sn, enb] at c44
  have c37a := fun {d : Nat} {m : Int32} {Q : gi_P} => c37h (d := d) (m := m) (Q := Q) J hc hn h0 d1 ho hg hS (fun _ _ _ => rfl) t0 (by rw [k2, e85]) (by rw [k3, e86])
  have hSq : ∀ U, gi_S (qst h U) := fun _ => hS
  have qa : ∀ U y, gi_I (qst h U) a y = gi_I h a y := fun U y => I_qstb (by omega)
  have qc : ∀ U, QC (qst h U) (gi_I h) := fun U => by
    have q0 := QC_J J
    exact ⟨fun p hp => ⟨by rw [I_qstj (by omega)]; exact (q0.1 p hp).1, by rw [I_qstj (by omega)]; exact (q0.1 p hp).2⟩, by rw [I_qstb (by omega)]; exact q0.2.1, fun k hk => by rw [I_qstb (by omega)]; exact q0.2.2 k hk⟩
  have c37b := fun {d : Nat} {Q : gi_P} => c_37_1 (d := d) (m := -1) (Q := Q) (h := qst h (bo_ (AD (gi_I h) (-(nI nb))) (2 * ow + 0) (32 + 2 * gr + 0) (U0 h))) (S := gi_I h) (hSq _) (qc _) (fun p hp => ((QR_J J hc).2.1 p hp).2.2.1) h0 hn d1 ho hg (a := a) t0 (by rw [qa, k2, e85]) (by rw [qa, k3, e86])
  rw [qst_qst, qst_c (g := h) (U := bo_ (AD (gi_I h) (-1)) (2 * ow + 1) (32 + 2 * gr + 1) (U0 (qst h (bo_ (AD (gi_I h) (-(nI nb))) (2 * ow + 0) (32 + 2 * gr + 0) (U0 h))))) (V := (bo_ (AD (gi_I h) (-1)) (2 * ow + 1) (32 + 2 * gr + 1) (bo_ (AD (gi_I h) (-(nI nb))) (2 * ow + 0) (32 + 2 * gr + 0) (U0 h)))) (fun p hp => bo_c (fun p hp => U0_qst hp) (by omega) (by omega) hp)] at c37b
  have hw6 : gi_I (qst h (bo_ (AD (gi_I h) (-1)) (2 * ow + 1) (32 + 2 * gr + 1) (bo_ (AD (gi_I h) (-(nI nb))) (2 * ow + 0) (32 + 2 * gr + 0) (U0 h)))) a 6 = gi_I h 90 n := by rw [qa]; exact k6
  have tS : ∀ U, gi_tag (qst h U) (some a) = 5 := fun _ => t0
  have rest : ∀ g : gi_H, gi_S g → gi_tag g (some a) = 5 → gi_tag g (some (a + 1)) = 100 → gi_len g (some (a + 1)) = 12 → gi_R g a 7 = some (a + 1) → (∀ p, p < 12 → gi_I g (a + 1) p = gi_I h 89 (12 * n + p)) → Q (some (.inl 0)) (gi_pR (rlH g (gi_I h) n 12) 5 n none) → gi_ex (gi_cx (d + 6)) 41 Q 130 [some (.inr (.inr (some 1))), some (.inl (nI u)), some (.inl (nI n)), some (.inr (.inr (some a))), some (.inr (.inr (some af))), some (.inl (nI 0))] [] g := by
    intro g hSg u0 u1 u2 u3 u4 gd'
    have L := lp_41 (d := d + 5) (n := n) (u := u) (af := af) (S := gi_I h) (Q := Q) hSg u0 u1 u2 u3 (by omega) u4 (fun p hp => (g9 p hp).1) 12 0 rfl
    rw [rl_0, Nat.zero_add] at L
    refine L ?_
    have hSr : gi_S (rlH g (gi_I h) n 12) := S_rl hSg
    simp only [x41_157, x41_158, x41_161, x41_162, x41_163, x41_164, x41_165, ldI_2, ldR_0, I_pI, R_pI, c_pI, n_pI, u_pI, t_pI, l_pI, I_pR, R_pR, c_pR, n_pR, u_pR, t_pR, l_pR, get_s, Option.toList, List.nil_append, List.cons_append, List.length_nil, List.length_cons, gi_B, true_and, and_true, false_and, and_false, not_true_eq_false, not_false_eq_true, true_implies, false_implies, implies_true, Classical.not_not, ite_true, ite_false, Option.some.injEq, Sum.inl.injEq, exists_eq', eq_self, true_or, or_true, false_or, or_false, Nat.reduceEqDiff, Nat.reduceLeDiff, Nat.reduceAdd, Nat.zero_le, one_ne0, if_neg one_ne0', lt_102_103, lt_102_104, lt_102_105, lt_102_106, lt_99_107, lt_100_107, lt_101_107, lt_103_107, lt_104_107, lt_105_107, lt_106_107, lt_98_99, lt_98_100, lt_98_101, lt_98_106, tg_1 hSr, tg_5 hSr, ln_5 hSr, rf_1_3 hSr, ev, ec]
    exact gd'
  by_cases w : gi_I h 90 n = -1
  · rw [if_pos w] at gd
    rw [w] at hw6
    simp only [x41_96, x41_97, x41_98, x41_99, x41_100, x41_101, x41_104, x41_105, x41_108, x41_109, x41_110, x41_111, x41_112, x41_113, x41_116, x41_117, x41_120, x41_121, x41_124, x41_127, x41_128, ldI_2, ldR_0, ldR_3, stI_5i, stI_5n, stI_5r, I_pI, R_pI, c_pI, n_pI, u_pI, t_pI, l_pI, I_pR, R_pR, c_pR, n_pR, u_pR, t_pR, l_pR, get_s, Option.toList, List.nil_append, List.cons_append, List.length_nil, List.length_cons, gi_B, true_and, and_true, false_and, and_false, not_true_eq_false, not_false_eq_true, true_implies, false_implies, implies_true, Classical.not_not, ite_true, ite_false, Option.some.injEq, Sum.inl.injEq, exists_eq', eq_self, true_or, or_true, false_or, or_false, Nat.reduceEqDiff, Nat.reduceLeDiff, Nat.reduceAdd, Nat.zero_le, one_ne0, if_neg one_ne0', lt_102_103, lt_102_104, lt_102_105, lt_102_106, lt_99_107, lt_100_107, lt_101_107, lt_103_107, lt_104_107, lt_105_107, lt_106_107, lt_98_99, lt_98_100, lt_98_101, lt_98_106, tg_1 hS, c44, c37a, c37b, tg_1 (hSq (bo_ (AD (gi_I h) (-(nI nb))) (2 * ow + 0) (32 + 2 * gr + 0) (U0 h))), tg_1 (hSq (bo_ (AD (gi_I h) (-1)) (2 * ow + 1) (32 + 2 * gr + 1) (bo_ (AD (gi_I h) (-(nI nb))) (2 * ow + 0) (32 + 2 * gr + 0) (U0 h)))), rf_1_4 (hSq (bo_ (AD (gi_I h) (-1)) (2 * ow + 1) (32 + 2 * gr + 1) (bo_ (AD (gi_I h) (-(nI nb))) (2 * ow + 0) (32 + 2 * gr + 0) (U0 h)))), tg_6 (hSq (bo_ (AD (gi_I h) (-1)) (2 * ow + 1) (32 + 2 * gr + 1) (bo_ (AD (gi_I h) (-(nI nb))) (2 * ow + 0) (32 + 2 * gr + 0) (U0 h)))), tS, t0, hw6, c_45n]
    exact rest _ (hSq _) (tS _) t1 t2 f7 (fun p hp => by rw [I_qstb (by omega)]; exact kp p hp) gd
  · rw [if_neg w] at gd
    obtain ⟨q, hq, eq⟩ : ∃ q, q < 256 ∧ gi_I h 90 n = nI q := by
      rw [i32_eq, ti_m1] at w
      obtain ⟨q, hq, eq⟩ := nI_of (x := gi_I h 90 n) (by rw [i32_lt, ti_0]; omega)
      rw [eq, nI_toInt hq] at g8
      exact ⟨q, by omega, eq⟩
    rw [eq, nI_clamp (by omega)] at gd
    rw [eq] at hw6
    simp only [x41_96, x41_97, x41_98, x41_99, x41_100, x41_101, x41_104, x41_105, x41_108, x41_109, x41_110, x41_111, x41_112, x41_113, x41_116, x41_117, x41_120, x41_121, x41_124, x41_127, x41_128, ldI_2, ldR_0, ldR_3, stI_5i, stI_5n, stI_5r, I_pI, R_pI, c_pI, n_pI, u_pI, t_pI, l_pI, I_pR, R_pR, c_pR, n_pR, u_pR, t_pR, l_pR, get_s, Option.toList, List.nil_append, List.cons_append, List.length_nil, List.length_cons, gi_B, true_and, and_true, false_and, and_false, not_true_eq_false, not_false_eq_true, true_implies, false_implies, implies_true, Classical.not_not, ite_true, ite_false, Option.some.injEq, Sum.inl.injEq, exists_eq', eq_self, true_or, or_true, false_or, or_false, Nat.reduceEqDiff, Nat.reduceLeDiff, Nat.reduceAdd, Nat.zero_le, one_ne0, if_neg one_ne0', lt_102_103, lt_102_104, lt_102_105, lt_102_106, lt_99_107, lt_100_107, lt_101_107, lt_103_107, lt_104_107, lt_105_107, lt_106_107, lt_98_99, lt_98_100, lt_98_101, lt_98_106, tg_1 hS, c44, c37a, c37b, tg_1 (hSq (bo_ (AD (gi_I h) (-(nI nb))) (2 * ow + 0) (32 + 2 * gr + 0) (U0 h))), tg_1 (hSq (bo_ (AD (gi_I h) (-1)) (2 * ow + 1) (32 + 2 * gr + 1) (bo_ (AD (gi_I h) (-(nI nb))) (2 * ow + 0) (32 + 2 * gr + 0) (U0 h)))), rf_1_4 (hSq (bo_ (AD (gi_I h) (-1)) (2 * ow + 1) (32 + 2 * gr + 1) (bo_ (AD (gi_I h) (-(nI nb))) (2 * ow + 0) (32 + 2 * gr + 0) (U0 h)))), tg_6 (hSq (bo_ (AD (gi_I h) (-1)) (2 * ow + 1) (32 + 2 * gr + 1) (bo_ (AD (gi_I h) (-(nI nb))) (2 * ow + 0) (32 + 2 * gr + 0) (U0 h)))), tS, t0, hw6, c_45 (hSq (bo_ (AD (gi_I h) (-1)) (2 * ow + 1) (32 + 2 * gr + 1) (bo_ (AD (gi_I h) (-(nI nb))) (2 * ow + 0) (32 + 2 * gr + 0) (U0 h)))) hq]
    exact rest (gi_pR (qst h (bo_ (AD (gi_I h) (-1)) (2 * ow + 1) (32 + 2 * gr + 1) (bo_ (AD (gi_I h) (-(nI nb))) (2 * ow + 0) (32 + 2 * gr + 0) (U0 h)))) 7 q none) (S_pR (hSq (bo_ (AD (gi_I h) (-1)) (2 * ow + 1) (32 + 2 * gr + 1) (bo_ (AD (gi_I h) (-(nI nb))) (2 * ow + 0) (32 + 2 * gr + 0) (U0 h)))) (by omega)) t0 t1 t2 (by rw [R_pR, if_neg (by omega)]; exact f7) (fun p hp => by rw [I_pR, I_qstb (by omega)]; exact kp p hp) gd

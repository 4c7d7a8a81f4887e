/-! create: class and model -/
set_option maxRecDepth 100000

theorem cr_N {L : Nat} {xs : Nat → Int32} {c n a i u gr : Nat} {kk m : Int32} {h k : gi_H} {V : gi_T} (J : jH L xs c h) (hi : i < 64) (hn : n < 64) (ne : n ≠ i) (fr : gi_R h 5 i = none) (kd : gi_I h 83 n = 2) (hN : rN h (gi_I h) n a) (hu : u < 16) (hg : gr < 16) (hk : kk = 2 ∨ (¬ kk = 2 ∧ m.toInt ≤ 511)) (hk2 : 0 < kk.toInt ∧ kk.toInt ≤ 2) (hm : 0 ≤ m.toInt ∧ m.toInt ≤ 1023)
    (cR : ∀ x y, gi_R k x y = if x = 5 ∧ y = i then some (gi_n h) else gi_R (inh h a kk (nI n) (nI u) (nI gr) m (gi_I h 82 u) (gi_I h) (2 * n + 1)) x y) (cc : ∀ x, gi_c k x = gi_c (inh h a kk (nI n) (nI u) (nI gr) m (gi_I h 82 u) (gi_I h) (2 * n + 1)) x) (cn : gi_n k = gi_n (inh h a kk (nI n) (nI u) (nI gr) m (gi_I h 82 u) (gi_I h) (2 * n + 1))) (cu : gi_u k = gi_u (inh h a kk (nI n) (nI u) (nI gr) m (gi_I h 82 u) (gi_I h) (2 * n + 1)))
    (hb1 : ∀ x y, x < gi_n h → ¬ (11 ≤ x ∧ x < 75) → ¬ (x = 85 ∧ y = i) → ¬ (x = 86 ∧ y = i) → ¬ (102 ≤ x ∧ x ≤ 105) → x ≠ 107 → x ≠ 108 → gi_I k x y = gi_I h x y)
    (hb2 : gi_I k 85 i = nI u) (hb3 : gi_I k 86 i = nI gr) (hb4 : ∀ x y, gi_n h ≤ x → gi_I k x y = gi_I (inh h a kk (nI n) (nI u) (nI gr) m (gi_I h 82 u) (gi_I h) (2 * n + 1)) x y) (hq : qk h k V) (hV : ∀ p, p < 64 → iv (gi_I h 103 p) (32 * (c + 1 : Nat)) (V p)) (e10 : gi_R h a 10 = none) : jH L xs (c + 1) (fN k i n u kk m (gi_I h 87 n)) := by
  have hS := J.1
  have h109 := hS.1
  have jF := J.2.1
  obtain ⟨z83, z90, z89, z99⟩ := free_ J hi fr
  obtain ⟨d1, d2, d3, c1, c2, c3, f7, f8, k0, k1, k2, k3, k4, k5, k6, kp, kl, kf, kt⟩ := id hN
  have lt : ∀ x t m, gi_c h x = (t, m) → t ≠ 0 → x < gi_n h := fun x t m e ht => Nat.lt_of_not_le (fun w => by rw [jF x w] at e; cases e; exact ht rfl)
  have la := lt a _ _ c1 (by decide)
  have sl := J.2.2.2.2.2.2.2.2.2.2.2.1.2.1
  have sn := J.2.2.2.2.2.2.2.2.2.2.2.1.1
  have g6 := (sn.2 n hn).2.2.2.2.2.1
  have E : ext h (inh h a kk (nI n) (nI u) (nI gr) m (gi_I h 82 u) (gi_I h) (2 * n + 1)) := ext_inh
  obtain ⟨i1, i2, i3⟩ := inh_a (h := h) (a := a) (k := kk) (f := nI n) (u := nI u) (g := nI gr) (m := m) (ms := gi_I h 82 u) (S := gi_I h) (l := 2 * n + 1)
  obtain ⟨p1, p2, p3, p4, p5, p6, p7, p8, p9, p10, p11, p12, p13⟩ := inh_p (h := h) (a := a) (k := kk) (f := nI n) (u := nI u) (g := nI gr) (m := m) (ms := gi_I h 82 u) (S := gi_I h) (l := 2 * n + 1) jF
  have m82 : gi_I k 82 u = gi_I h 82 u := hb1 82 u (by omega) (by omega) (by omega) (by omega) (by omega) (by omega) (by omega)
  have md := mo_N (ms := gi_I h 82 u ^^^ -1) hk hm g6
  have eI : (inh h a kk (nI n) (nI u) (nI gr) m (gi_I h 82 u) (gi_I h) (2 * n + 1)) = gi_pI (ni h kk (nI n) (nI u) (nI gr) m) (gi_n h) 4 (((m &&& 511) &&& (gi_I h 82 u ^^^ -1)) ||| abv kk m (gi_I h a 4)) := by unfold inh; rw [e10]
  have e4 : gi_I (inh h a kk (nI n) (nI u) (nI gr) m (gi_I h 82 u) (gi_I h) (2 * n + 1)) (gi_n h) 4 = mor kk m (gi_I h 87 n) ||| ((m &&& 511) &&& (gi_I h 82 u ^^^ -1)) := by rw [eI, I_pI, if_pos ⟨rfl, rfl⟩, k4]; exact md.1
  generalize hK : fN k i n u kk m (gi_I h 87 n) = K
  have KI : ∀ x y, gi_I K x y = if x = 87 ∧ y = i then mor kk m (gi_I h 87 n) ||| ((m &&& 511) &&& (gi_I k 82 u ^^^ -1)) else gi_I (fC k i n kk) x y := fun x y => by rw [← hK]; rfl
  have KR : ∀ x y, gi_R K x y = gi_R k x y := fun x y => by rw [← hK]; rfl
  have Kc : ∀ x, gi_c K x = gi_c k x := fun x => by rw [← hK]; rfl
  have Kn : gi_n K = gi_n k := by rw [← hK]; rfl
  have Ku : gi_u K = gi_u k := by rw [← hK]; rfl
  clear hK
  rw [m82] at KI
  have Ke : ∀ x y, ¬ (83 ≤ x ∧ x ≤ 90) → ¬ (93 ≤ x ∧ x ≤ 98) → True → gi_I K x y = gi_I k x y := fun x y w1 w2 _ => by
    rw [KI, if_neg (by omega), I_fC, if_neg (by omega), if_neg (by omega), if_neg (by omega), if_neg (by omega), if_neg (by omega), if_neg (by omega)]
  have Kb : ∀ x y, gi_n h ≤ x → gi_I K x y = gi_I (inh h a kk (nI n) (nI u) (nI gr) m (gi_I h 82 u) (gi_I h) (2 * n + 1)) x y := fun x y w => by rw [Ke x y (by omega) (by omega) trivial]; exact hb4 x y w
  have v83 : gi_I K 83 i = kk := by rw [KI, if_neg (by omega), I_fC, if_neg (by omega), if_neg (by omega), if_neg (by omega), if_neg (by omega), if_neg (by omega), if_pos ⟨rfl, rfl⟩]
  have v84 : gi_I K 84 i = nI n := by rw [KI, if_neg (by omega), I_fC, if_neg (by omega), if_neg (by omega), if_neg (by omega), if_neg (by omega), if_pos ⟨rfl, rfl⟩]
  have v85 : gi_I K 85 i = nI u := by rw [KI, if_neg (by omega), I_fC, if_neg (by omega), if_neg (by omega), if_neg (by omega), if_neg (by omega), if_neg (by omega), if_neg (by omega)]; exact hb2
  have v86 : gi_I K 86 i = nI gr := by rw [KI, if_neg (by omega), I_fC, if_neg (by omega), if_neg (by omega), if_neg (by omega), if_neg (by omega), if_neg (by omega), if_neg (by omega)]; exact hb3
  have v87 : gi_I K 87 i = mor kk m (gi_I h 87 n) ||| ((m &&& 511) &&& (gi_I h 82 u ^^^ -1)) := by rw [KI, if_pos ⟨rfl, rfl⟩]
  have v88 : gi_I K 88 i = 0 := by rw [KI, if_neg (by omega), I_fC, if_neg (by omega), if_neg (by omega), if_neg (by omega), if_pos ⟨rfl, rfl⟩]
  have r87 := md.2
  have Ko : ∀ x y, x < 109 → ¬ (11 ≤ x ∧ x < 75) → ¬ ((83 ≤ x ∧ x ≤ 88) ∧ x ≠ 89 ∧ y = i) → ¬ (x = 93 ∧ y / 2 = i) → ¬ (x = 98 ∧ y / 64 = i) → ¬ (102 ≤ x ∧ x ≤ 105) → x ≠ 107 → x ≠ 108 → gi_I K x y = gi_I h x y := fun x y w0 w1 w2 w3 w4 w5 w6 w7 => by
    rw [KI, if_neg (by omega), I_fC, if_neg w4, if_neg w3]
    by_cases q : x = 90 ∧ y = i
    · rw [if_pos q, q.1, q.2, z90]
    · rw [if_neg q, if_neg (by omega), if_neg (by omega), if_neg (by omega)]
      exact hb1 x y (by omega) w1 (by omega) (by omega) w5 w6 w7
  have R9 : gi_R K (gi_n h) 9 = none := by rw [KR, cR, if_neg (by omega), eI, R_pI, R_ni, if_pos rfl]; rfl
  have R10 : gi_R K (gi_n h) 10 = none := by rw [KR, cR, if_neg (by omega), eI, R_pI, R_ni, if_pos rfl]; rfl
  have c0 : ∀ l, l / 2 = i → gi_I K 93 l = 0 := fun l hl => by rw [KI, if_neg (by omega), I_fC, if_neg (by omega), if_pos ⟨rfl, hl⟩]
  have c8 : ∀ l j, l / 2 = i → j < 32 → gi_I K 98 (32 * l + j) = -1 := fun l j hl hj => by rw [KI, if_neg (by omega), I_fC, if_pos ⟨rfl, by omega⟩]
  have cs : ∀ l, l / 2 = i → sL1 (gi_I K) l := fun l hl => by
    obtain ⟨q1, ⟨q2, q3, q4⟩, -⟩ := sl l (by omega)
    exact sL1_clr (c0 l hl) (by rw [Ko 95 l (by omega) (by omega) (by omega) (by omega) (by omega) (by omega) (by omega) (by omega)]; exact q2) (by rw [Ko 96 l (by omega) (by omega) (by omega) (by omega) (by omega) (by omega) (by omega) (by omega)]; exact q3) (by rw [Ko 97 l (by omega) (by omega) (by omega) (by omega) (by omega) (by omega) (by omega) (by omega)]; exact q4) (fun j hj => c8 l j hl hj)
  refine j_cr (n := n) (i := i) (A := gi_n h) (kk := kk) (K := K) (V := V) J hi hn ne fr rfl hk2 kd (by rw [Kn, cn]; omega) (by rw [Kn, cn]; omega) (by rw [Ku, cu]; omega) (fun x hx => by rw [Kn, cn] at hx; rw [Kc, cc]; exact p3 x hx) (fun x hx => by rw [Kc, cc]; exact (E.2 x hx).1) (fun x y hx w => by rw [KR, cR, if_neg w]; exact (E.2 x hx).2.2 y) (by rw [KR, cR, if_pos ⟨rfl, rfl⟩]) ?kI ?hq hV (by rw [Kc, cc]; exact i1) (by rw [Kc, cc]; exact p4) (by rw [Kc, cc]; exact p5) (by rw [KR, cR, if_neg (by omega)]; exact p6) (by rw [KR, cR, if_neg (by omega)]; exact p7) (by rw [v83, Kb _ _ (Nat.le_refl _)]; exact p9) (by rw [v84, Kb _ _ (Nat.le_refl _)]; exact p10) (by rw [v85, Kb _ _ (Nat.le_refl _)]; exact i2) (by rw [v86, Kb _ _ (Nat.le_refl _)]; exact i3) (by rw [Kb _ _ (Nat.le_refl _), v87]; exact e4) (by rw [v88, Kb _ _ (Nat.le_refl _)]; exact p11) (by rw [Kb _ _ (Nat.le_refl _)]; exact p12) (fun p hp => by rw [Kb _ _ (by omega)]; exact p13 p hp) (fun t _ => by rw [KR, cR, if_neg (by omega)]; exact p8 t) v83 v84 (by rw [v85]; exact vp_in_nI hu (by omega)) (by rw [v86]; exact vp_in_nI hg (by omega)) (by rw [v87]; exact r87) v88 ?l0 ?l1 ?m0 ?m1 ?m2 ?s0 ?s1
  case hq =>
    intro p hp
    obtain ⟨⟨q1, q2, q3, q4⟩, ⟨q5, q6⟩, q7, q8⟩ := hq p hp
    refine ⟨⟨?_, ?_, ?_, ?_⟩, ⟨?_, ?_⟩, ?_, ?_⟩
    · rw [Ke _ _ (by omega) (by omega) trivial]; exact q1
    · rw [Ke _ _ (by omega) (by omega) trivial]; exact q2
    · rw [Ke _ _ (by omega) (by omega) trivial]; exact q3
    · rw [Ke _ _ (by omega) (by omega) trivial]; exact q4
    · rw [Ke _ _ (by omega) (by omega) trivial]; exact q5
    · rw [Ke _ _ (by omega) (by omega) trivial]; exact q6
    · rw [Ke _ _ (by omega) (by omega) trivial]; exact q7
    · rw [Ke _ _ (by omega) (by omega) trivial]; exact q8
  case kI =>
    intro x y w0 w1 w2 w3 w4 w5 w6 w7
    by_cases w : x < 109
    · exact Ko x y w w1 w2 (by omega) w4 w5 w6 w7
    · rw [Ke x y (by omega) (by omega) trivial]
      exact hb1 x y w0 w1 (by omega) (by omega) w5 w6 w7
  case l0 => rw [R9]; exact ⟨fun _ => c0 _ (by omega), fun b e => (by cases e)⟩
  case l1 => rw [R10]; exact ⟨fun _ => c0 _ (by omega), fun b e => (by cases e)⟩
  case m0 => intro r e; rw [R9] at e; cases e
  case m1 => intro r e; rw [R10] at e; cases e
  case m2 => intro r e; rw [R9] at e; cases e
  case s0 => exact cs _ (by omega)
  case s1 => exact cs _ (by omega)
/-- a list's copy lies at x -/
def LC (h g : gi_H) (r x : Nat) : Prop := gi_c g x = (6, 0) ∧ gi_c g (x + 1) = (100, 32) ∧ gi_R g x 4 = some (x + 1) ∧ gi_I g x 0 = gi_I h r 0 ∧ gi_I g x 1 = gi_I h r 1 ∧ gi_I g x 2 = gi_I h r 2 ∧ gi_I g x 3 = gi_I h r 3 ∧ ∀ j, j < 32 → gi_I g (x + 1) j = gi_I h (r + 1) j
theorem LC_cl {h g : gi_H} {r : Nat} (h1 : ∀ y, gi_I g r y = gi_I h r y) (h2 : ∀ y, gi_I g (r + 1) y = gi_I h (r + 1) y) : LC h (cl g r) r (gi_n g) := by
  refine ⟨by rw [c_cl, if_pos rfl], by rw [c_cl, if_neg (by omega), if_pos rfl], by rw [R_cl, if_pos rfl, if_pos rfl], ?_, ?_, ?_, ?_, fun j hj => ?_⟩
  · rw [← h1, I_cl, if_pos rfl]; rfl
  · rw [← h1, I_cl, if_pos rfl]; rfl
  · rw [← h1, I_cl, if_pos rfl]; rfl
  · rw [← h1, I_cl, if_pos rfl]; rfl
  · rw [← h2, I_cl, if_neg (by omega), if_pos rfl, if_pos hj]
theorem LC_c {h g g' : gi_H} {r x : Nat} (H : LC h g r x) (e : ∀ y, y = x ∨ y = x + 1 → gi_c g' y = gi_c g y ∧ (∀ j, gi_R g' y j = gi_R g y j) ∧ ∀ j, gi_I g' y j = gi_I g y j) : LC h g' r x := by
  obtain ⟨q1, q2, q3, q4, q5, q6, q7, q8⟩ := H
  obtain ⟨a1, a2, a3⟩ := e x (Or.inl rfl)
  obtain ⟨b1, b2, b3⟩ := e (x + 1) (Or.inr rfl)
  exact ⟨by rw [a1]; exact q1, by rw [b1]; exact q2, by rw [a2]; exact q3, by rw [a3]; exact q4, by rw [a3]; exact q5, by rw [a3]; exact q6, by rw [a3]; exact q7, fun j hj => by rw [b3]; exact q8 j hj⟩
theorem inh_L {h : gi_H} {a l r : Nat} {k f u g m ms : Int32} {S : gi_Z} (e10 : gi_R h a 10 = some r) (lr : r + 1 < gi_n h) : gi_R (inh h a k f u g m ms S l) (gi_n h) 9 = some (gi_n h + 3) ∧ gi_I (inh h a k f u g m ms S l) (gi_n h) 4 = (m &&& ((S 96 l <<< (6 &&& 31)) ||| (al_ S l <<< (3 &&& 31)) ||| S 97 l)) ||| abv k m (gi_I h a 4) ∧ LC h (inh h a k f u g m ms S l) r (gi_n h + 3) ∧ (k = 2 → gi_R (inh h a k f u g m ms S l) (gi_n h) 10 = some (gi_n h + 5) ∧ LC h (inh h a k f u g m ms S l) r (gi_n h + 5)) ∧ (¬ k = 2 → gi_R (inh h a k f u g m ms S l) (gi_n h) 10 = none) := by
  have E : ext h (ni h k f u g m) := ext_ni
  have L1 : LC h (cl (ni h k f u g m) r) r (gi_n h + 3) := LC_cl (g := ni h k f u g m) (fun y => (E.2 r (by omega)).2.1 y) (fun y => (E.2 (r + 1) (by omega)).2.1 y)
  unfold inh
  rw [e10]
  by_cases w : k = 2
  · simp only [w, ite_true, true_implies, not_true_eq_false, false_implies, and_true]
    rw [w] at L1 E
    have L2 : LC h (cl (gi_pR (cl (ni h 2 f u g m) r) (gi_n h) 9 (some (gi_n h + 3))) r) r (gi_n h + 5) := LC_cl (g := gi_pR (cl (ni h 2 f u g m) r) (gi_n h) 9 (some (gi_n h + 3))) (fun y => by rw [I_pR, I_cl, if_neg (by rw [n_ni]; omega), if_neg (by rw [n_ni]; omega)]; exact (E.2 r (by omega)).2.1 y) (fun y => by rw [I_pR, I_cl, if_neg (by rw [n_ni]; omega), if_neg (by rw [n_ni]; omega)]; exact (E.2 (r + 1) (by omega)).2.1 y)
    refine ⟨?_, by rw [I_pI, if_pos ⟨rfl, rfl⟩], LC_c L1 (fun y hy => ⟨?_, fun j => ?_, fun j => ?_⟩), ?_, LC_c L2 (fun y hy => ⟨rfl, fun j => ?_, fun j => ?_⟩)⟩
    · rw [R_pI, R_pR, if_neg (by omega), R_cl, n_pR, n_cl, n_ni, if_neg (by omega), if_neg (by omega), R_pR, if_pos ⟨rfl, rfl⟩]
    · rw [c_pI, c_pR, c_cl, n_pR, n_cl, n_ni, if_neg (by omega), if_neg (by omega), c_pR]
    · rw [R_pI, R_pR, if_neg (by omega), R_cl, n_pR, n_cl, n_ni, if_neg (by omega), if_neg (by omega), R_pR, if_neg (by omega)]
    · rw [I_pI, if_neg (by omega), I_pR, I_cl, n_pR, n_cl, n_ni, if_neg (by omega), if_neg (by omega), I_pR]
    · rw [R_pI, R_pR, if_pos ⟨rfl, rfl⟩]
    · rw [R_pI, R_pR, if_neg (by omega)]
    · rw [I_pI, if_neg (by omega), I_pR]
  · simp only [w, ite_false, false_implies, not_false_eq_true, true_implies, true_and]
    refine ⟨?_, by rw [I_pI, if_pos ⟨rfl, rfl⟩], LC_c L1 (fun y hy => ⟨rfl, fun j => ?_, fun j => ?_⟩), ?_⟩
    · rw [R_pI, R_pR, if_neg (by omega), R_pR, if_pos ⟨rfl, rfl⟩]
    · rw [R_pI, R_pR, if_neg (by omega), R_pR, if_neg (by omega)]
    · rw [I_pI, if_neg (by omega), I_pR, I_pR]
    · rw [R_pI, R_pR, if_pos ⟨rfl, rfl⟩]
theorem rL_LC {h g : gi_H} {S S' : gi_Z} {l f r x : Nat} (H : rL h S f (some r)) (hL : LC h g r x) (dx : dy x) (dx1 : dy (x + 1)) (h3 : S' 93 l = S 93 f) (h5 : S' 95 l = S 95 f) (h6 : S' 96 l = S 96 f) (h7 : S' 97 l = S 97 f) (h8 : ∀ k, k < 32 → S' 98 (32 * l + k) = S 98 (32 * f + k)) : rL g S' l (some x) := by
  obtain ⟨g1, g2, g3, g4, g5, g6, g7, g8, g9, g10, g11⟩ := H.2 r rfl
  obtain ⟨q1, q2, q3, q4, q5, q6, q7, q8⟩ := hL
  refine ⟨fun e => (by cases e), fun b e => ?_⟩
  cases e
  exact ⟨dx, dx1, q1, q2, q3, by rw [q4, h6]; exact g6, by rw [q5, h5]; exact g7, by rw [q6, h7]; exact g8, by rw [q7, h3]; exact g9, by rw [h3]; exact g10, fun k hk => by rw [q8 k hk, h8 k hk]; exact g11 k hk⟩
theorem cr_L {L : Nat} {xs : Nat → Int32} {c n a i u gr : Nat} {kk m : Int32} {h k : gi_H} {V : gi_T} (J : jH L xs c h) (hi : i < 64) (hn : n < 64) (ne : n ≠ i) (fr : gi_R h 5 i = none) (kd : gi_I h 83 n = 2) (hN : rN h (gi_I h) n a) (hu : u < 16) (hg : gr < 16) (hk : kk = 2 ∨ (¬ kk = 2 ∧ m.toInt ≤ 511)) (hk2 : 0 < kk.toInt ∧ kk.toInt ≤ 2) (hm : 0 ≤ m.toInt ∧ m.toInt ≤ 1023)
    (cR : ∀ x y, gi_R k x y = if x = 5 ∧ y = i then some (gi_n h) else gi_R (inh h a kk (nI n) (nI u) (nI gr) m (gi_I h 82 u) (gi_I h) (2 * n + 1)) x y) (cc : ∀ x, gi_c k x = gi_c (inh h a kk (nI n) (nI u) (nI gr) m (gi_I h 82 u) (gi_I h) (2 * n + 1)) x) (cn : gi_n k = gi_n (inh h a kk (nI n) (nI u) (nI gr) m (gi_I h 82 u) (gi_I h) (2 * n + 1))) (cu : gi_u k = gi_u (inh h a kk (nI n) (nI u) (nI gr) m (gi_I h 82 u) (gi_I h) (2 * n + 1)))
    (hb1 : ∀ x y, x < gi_n h → ¬ (11 ≤ x ∧ x < 75) → ¬ (x = 85 ∧ y = i) → ¬ (x = 86 ∧ y = i) → ¬ (102 ≤ x ∧ x ≤ 105) → x ≠ 107 → x ≠ 108 → gi_I k x y = gi_I h x y)
    (hb2 : gi_I k 85 i = nI u) (hb3 : gi_I k 86 i = nI gr) (hb4 : ∀ x y, gi_n h ≤ x → gi_I k x y = gi_I (inh h a kk (nI n) (nI u) (nI gr) m (gi_I h 82 u) (gi_I h) (2 * n + 1)) x y) (hq : qk h k V) (hV : ∀ p, p < 64 → iv (gi_I h 103 p) (32 * (c + 1 : Nat)) (V p)) {r : Nat} (e10 : gi_R h a 10 = some r) : jH L xs (c + 1) (if kk = 2 then cpl (fL k i n kk m (gi_I h 87 n)) (2 * n + 1) (2 * i + 1) else fL k i n kk m (gi_I h 87 n)) := by
  have hS := J.1
  have h109 := hS.1
  have jF := J.2.1
  obtain ⟨z83, z90, z89, z99⟩ := free_ J hi fr
  obtain ⟨d1, d2, d3, c1, c2, c3, f7, f8, k0, k1, k2, k3, k4, k5, k6, kp, kl, kf, kt⟩ := id hN
  have lt : ∀ x t m, gi_c h x = (t, m) → t ≠ 0 → x < gi_n h := fun x t m e ht => Nat.lt_of_not_le (fun w => by rw [jF x w] at e; cases e; exact ht rfl)
  have la := lt a _ _ c1 (by decide)
  have sl := J.2.2.2.2.2.2.2.2.2.2.2.1.2.1
  have sn := J.2.2.2.2.2.2.2.2.2.2.2.1.1
  have g6 := (sn.2 n hn).2.2.2.2.2.1
  have E : ext h (inh h a kk (nI n) (nI u) (nI gr) m (gi_I h 82 u) (gi_I h) (2 * n + 1)) := ext_inh
  obtain ⟨i1, i2, i3⟩ := inh_a (h := h) (a := a) (k := kk) (f := nI n) (u := nI u) (g := nI gr) (m := m) (ms := gi_I h 82 u) (S := gi_I h) (l := 2 * n + 1)
  obtain ⟨p1, p2, p3, p4, p5, p6, p7, p8, p9, p10, p11, p12, p13⟩ := inh_p (h := h) (a := a) (k := kk) (f := nI n) (u := nI u) (g := nI gr) (m := m) (ms := gi_I h 82 u) (S := gi_I h) (l := 2 * n + 1) jF
  have m82 : gi_I k 82 u = gi_I h 82 u := hb1 82 u (by omega) (by omega) (by omega) (by omega) (by omega) (by omega) (by omega)
  rw [e10] at kf
  obtain ⟨g1, g2, g3, g4, g5, g6', g7, g8, g9, g10, g11⟩ := kf.2 r rfl
  have lr1 := lt (r + 1) _ _ g4 (by decide)
  obtain ⟨y1, y2, y3, y4, y5⟩ := inh_L (h := h) (a := a) (k := kk) (f := nI n) (u := nI u) (g := nI gr) (m := m) (ms := gi_I h 82 u) (S := gi_I h) (l := 2 * n + 1) e10 lr1
  obtain ⟨s1, ⟨s2, s3, s4⟩, s5, s6⟩ := sl (2 * n + 1) (by omega)
  have hz0 : 0 < (gi_I h 83 n).toInt := by rw [kd]; decide
  rw [show (2 * n + 1) / 2 = n by omega, show (2 * n + 1) % 2 = 1 by omega, if_neg (by omega)] at s6
  have n93 : ¬ gi_I h 93 (2 * n + 1) = 0 := fun z => by rw [z] at g10; exact absurd g10 (by decide)
  have e94 := (s6 hz0).2 n93
  have hl8 : vp_in (gi_I h 94 (2 * n + 1)) 8 := by rw [e94]; exact al_r s2 s5
  have md := mo_L hk hm g6 s3 hl8 s4
  have e4 : gi_I (inh h a kk (nI n) (nI u) (nI gr) m (gi_I h 82 u) (gi_I h) (2 * n + 1)) (gi_n h) 4 = (((mor kk m (gi_I h 87 n) ||| (((gi_I h 96 (2 * n + 1) &&& (m >>> (6 &&& 31))) &&& 7) <<< (6 &&& 31))) ||| (((gi_I h 94 (2 * n + 1) &&& (m >>> (3 &&& 31))) &&& 7) <<< (3 &&& 31))) ||| ((gi_I h 97 (2 * n + 1) &&& m) &&& 7)) := by rw [y2, k4, ← e94]; exact md.1
  have fo : ∀ x y, x < 109 → ¬ (11 ≤ x ∧ x < 75) → ¬ ((83 ≤ x ∧ x ≤ 88) ∧ x ≠ 87 ∧ y = i) → ¬ (x = 93 ∧ y / 2 = i) → ¬ (x = 98 ∧ y / 64 = i) → ¬ (102 ≤ x ∧ x ≤ 105) → x ≠ 107 → x ≠ 108 → gi_I (fC k i n kk) x y = gi_I h x y := fun x y w0 w1 w2 w3 w4 w5 w6 w7 => by
    rw [I_fC, if_neg w4, if_neg w3]
    by_cases q : x = 90 ∧ y = i
    · rw [if_pos q, q.1, q.2, z90]
    · rw [if_neg q, if_neg (by omega), if_neg (by omega), if_neg (by omega)]
      exact hb1 x y (by omega) w1 (by omega) (by omega) w5 w6 w7
  have k94 : gi_I k 94 (2 * n + 1) = gi_I h 94 (2 * n + 1) := hb1 _ _ (by omega) (by omega) (by omega) (by omega) (by omega) (by omega) (by omega)
  have k96 : gi_I k 96 (2 * n + 1) = gi_I h 96 (2 * n + 1) := hb1 _ _ (by omega) (by omega) (by omega) (by omega) (by omega) (by omega) (by omega)
  have k97 : gi_I k 97 (2 * n + 1) = gi_I h 97 (2 * n + 1) := hb1 _ _ (by omega) (by omega) (by omega) (by omega) (by omega) (by omega) (by omega)
  have FI : ∀ x y, gi_I (fL k i n kk m (gi_I h 87 n)) x y = if x = 87 ∧ y = i then (((mor kk m (gi_I h 87 n) ||| (((gi_I h 96 (2 * n + 1) &&& (m >>> (6 &&& 31))) &&& 7) <<< (6 &&& 31))) ||| (((gi_I h 94 (2 * n + 1) &&& (m >>> (3 &&& 31))) &&& 7) <<< (3 &&& 31))) ||| ((gi_I h 97 (2 * n + 1) &&& m) &&& 7)) else if x = 94 ∧ y = 2 * i then ((gi_I h 94 (2 * n + 1) &&& (m >>> (3 &&& 31))) &&& 7) else if x = 98 ∧ 32 * (2 * i) ≤ y ∧ y < 32 * (2 * i) + 32 then gi_I (fC k i n kk) 98 (32 * (2 * n + 1) + (y - 32 * (2 * i))) else if 93 ≤ x ∧ x ≤ 97 ∧ y = 2 * i then gi_I (fC k i n kk) x (2 * n + 1) else gi_I (fC k i n kk) x y := fun x y => by
    rw [← k94, ← k96, ← k97]; rfl
  generalize hK : (if kk = 2 then cpl (fL k i n kk m (gi_I h 87 n)) (2 * n + 1) (2 * i + 1) else fL k i n kk m (gi_I h 87 n)) = K
  have KI : ∀ x y, gi_I K x y = if kk = 2 ∧ x = 98 ∧ 32 * (2 * i + 1) ≤ y ∧ y < 32 * (2 * i + 1) + 32 then gi_I (fL k i n kk m (gi_I h 87 n)) 98 (32 * (2 * n + 1) + (y - 32 * (2 * i + 1))) else if kk = 2 ∧ 93 ≤ x ∧ x ≤ 97 ∧ y = 2 * i + 1 then gi_I (fL k i n kk m (gi_I h 87 n)) x (2 * n + 1) else gi_I (fL k i n kk m (gi_I h 87 n)) x y := fun x y => by
    rw [← hK]
    by_cases w : kk = 2
    · simp only [w, ite_true, true_and]; rfl
    · simp only [w, ite_false, false_and]
  have KR : ∀ x y, gi_R K x y = gi_R k x y := fun x y => by rw [← hK]; split <;> rfl
  have Kc : ∀ x, gi_c K x = gi_c k x := fun x => by rw [← hK]; split <;> rfl
  have Kn : gi_n K = gi_n k := by rw [← hK]; split <;> rfl
  have Ku : gi_u K = gi_u k := by rw [← hK]; split <;> rfl
  clear hK
  have Ke : ∀ x y, ¬ (83 ≤ x ∧ x ≤ 90) → ¬ (93 ≤ x ∧ x ≤ 98) → True → gi_I K x y = gi_I k x y := fun x y w1 w2 _ => by
    rw [KI, if_neg (by omega), if_neg (by omega), FI, if_neg (by omega), if_neg (by omega), if_neg (by omega), if_neg (by omega), I_fC, if_neg (by omega), if_neg (by omega), if_neg (by omega), if_neg (by omega), if_neg (by omega), if_neg (by omega)]
  have Kb : ∀ x y, gi_n h ≤ x → gi_I K x y = gi_I (inh h a kk (nI n) (nI u) (nI gr) m (gi_I h 82 u) (gi_I h) (2 * n + 1)) x y := fun x y w => by rw [Ke x y (by omega) (by omega) trivial]; exact hb4 x y w
  have Kf : ∀ x y, ¬ (93 ≤ x ∧ x ≤ 98) → ¬ (x = 87 ∧ y = i) → gi_I K x y = gi_I (fC k i n kk) x y := fun x y w1 w2 => by
    rw [KI, if_neg (by omega), if_neg (by omega), FI, if_neg (by omega), if_neg (by omega), if_neg (by omega), if_neg (by omega)]
  have v83 : gi_I K 83 i = kk := by rw [Kf _ _ (by omega) (by omega), I_fC, if_neg (by omega), if_neg (by omega), if_neg (by omega), if_neg (by omega), if_neg (by omega), if_pos ⟨rfl, rfl⟩]
  have v84 : gi_I K 84 i = nI n := by rw [Kf _ _ (by omega) (by omega), I_fC, if_neg (by omega), if_neg (by omega), if_neg (by omega), if_neg (by omega), if_pos ⟨rfl, rfl⟩]
  have v85 : gi_I K 85 i = nI u := by rw [Kf _ _ (by omega) (by omega), I_fC, if_neg (by omega), if_neg (by omega), if_neg (by omega), if_neg (by omega), if_neg (by omega), if_neg (by omega)]; exact hb2
  have v86 : gi_I K 86 i = nI gr := by rw [Kf _ _ (by omega) (by omega), I_fC, if_neg (by omega), if_neg (by omega), if_neg (by omega), if_neg (by omega), if_neg (by omega), if_neg (by omega)]; exact hb3
  have v87 : gi_I K 87 i = (((mor kk m (gi_I h 87 n) ||| (((gi_I h 96 (2 * n + 1) &&& (m >>> (6 &&& 31))) &&& 7) <<< (6 &&& 31))) ||| (((gi_I h 94 (2 * n + 1) &&& (m >>> (3 &&& 31))) &&& 7) <<< (3 &&& 31))) ||| ((gi_I h 97 (2 * n + 1) &&& m) &&& 7)) := by rw [KI, if_neg (by omega), if_neg (by omega), FI, if_pos ⟨rfl, rfl⟩]
  have v88 : gi_I K 88 i = 0 := by rw [Kf _ _ (by omega) (by omega), I_fC, if_neg (by omega), if_neg (by omega), if_neg (by omega), if_pos ⟨rfl, rfl⟩]
  have r87 := md.2.1
  have f1 : ∀ x, 93 ≤ x → x ≤ 97 → x ≠ 94 → gi_I K x (2 * i) = gi_I h x (2 * n + 1) := fun x w1 w2 w3 => by
    rw [KI, if_neg (by omega), if_neg (by omega), FI, if_neg (by omega), if_neg (by omega), if_neg (by omega), if_pos ⟨w1, w2, rfl⟩]
    exact fo _ _ (by omega) (by omega) (by omega) (by omega) (by omega) (by omega) (by omega) (by omega)
  have f94 : gi_I K 94 (2 * i) = ((gi_I h 94 (2 * n + 1) &&& (m >>> (3 &&& 31))) &&& 7) := by rw [KI, if_neg (by omega), if_neg (by omega), FI, if_neg (by omega), if_pos ⟨rfl, rfl⟩]
  have f8 : ∀ j, j < 32 → gi_I K 98 (32 * (2 * i) + j) = gi_I h 98 (32 * (2 * n + 1) + j) := fun j hj => by
    rw [KI, if_neg (by omega), if_neg (by omega), FI, if_neg (by omega), if_neg (by omega), if_pos ⟨rfl, by omega, by omega⟩, show 32 * (2 * i) + j - 32 * (2 * i) = j by omega]
    exact fo _ _ (by omega) (by omega) (by omega) (by omega) (by omega) (by omega) (by omega) (by omega)
  have h1 : kk = 2 → ∀ x, 93 ≤ x → x ≤ 97 → gi_I K x (2 * i + 1) = gi_I h x (2 * n + 1) := fun w x w1 w2 => by
    rw [KI, if_neg (by omega), if_pos ⟨w, w1, w2, rfl⟩, FI, if_neg (by omega), if_neg (by omega), if_neg (by omega), if_neg (by omega)]
    exact fo _ _ (by omega) (by omega) (by omega) (by omega) (by omega) (by omega) (by omega) (by omega)
  have h8 : kk = 2 → ∀ j, j < 32 → gi_I K 98 (32 * (2 * i + 1) + j) = gi_I h 98 (32 * (2 * n + 1) + j) := fun w j hj => by
    rw [KI, if_pos ⟨w, rfl, by omega, by omega⟩, show 32 * (2 * i + 1) + j - 32 * (2 * i + 1) = j by omega, FI, if_neg (by omega), if_neg (by omega), if_neg (by omega), if_neg (by omega)]
    exact fo _ _ (by omega) (by omega) (by omega) (by omega) (by omega) (by omega) (by omega) (by omega)
  have n3 : ¬ kk = 2 → gi_I K 93 (2 * i + 1) = 0 := fun w => by
    rw [KI, if_neg (fun z => w z.1), if_neg (fun z => w z.1), FI, if_neg (by omega), if_neg (by omega), if_neg (by omega), if_neg (by omega), I_fC, if_neg (by omega), if_pos ⟨rfl, by omega⟩]
  have n8 : ¬ kk = 2 → ∀ j, j < 32 → gi_I K 98 (32 * (2 * i + 1) + j) = -1 := fun w j hj => by
    rw [KI, if_neg (fun z => w z.1), if_neg (fun z => w z.1), FI, if_neg (by omega), if_neg (by omega), if_neg (by omega), if_neg (by omega), I_fC, if_pos ⟨rfl, by omega⟩]
  have n1 : ¬ kk = 2 → ∀ x, 95 ≤ x → x ≤ 97 → gi_I K x (2 * i + 1) = gi_I h x (2 * i + 1) := fun w x w1 w2 => by
    rw [KI, if_neg (fun z => w z.1), if_neg (fun z => w z.1), FI, if_neg (by omega), if_neg (by omega), if_neg (by omega), if_neg (by omega)]
    exact fo _ _ (by omega) (by omega) (by omega) (by omega) (by omega) (by omega) (by omega) (by omega)
  have Ko : ∀ x y, x < 109 → ¬ (11 ≤ x ∧ x < 75) → ¬ ((83 ≤ x ∧ x ≤ 88) ∧ x ≠ 89 ∧ y = i) → ¬ (93 ≤ x ∧ x ≤ 97 ∧ y / 2 = i) → ¬ (x = 98 ∧ y / 64 = i) → ¬ (102 ≤ x ∧ x ≤ 105) → x ≠ 107 → x ≠ 108 → gi_I K x y = gi_I h x y := fun x y w0 w1 w2 w3 w4 w5 w6 w7 => by
    rw [KI, if_neg (by omega), if_neg (by omega), FI, if_neg (by omega), if_neg (by omega), if_neg (by omega), if_neg (by omega)]
    exact fo x y w0 w1 (by omega) (by omega) w4 w5 w6 w7
  have R9 : gi_R K (gi_n h) 9 = some (gi_n h + 3) := by rw [KR, cR, if_neg (by omega)]; exact y1
  have R10 : gi_R K (gi_n h) 10 = if kk = 2 then some (gi_n h + 5) else none := by
    rw [KR, cR, if_neg (by omega)]
    by_cases w : kk = 2
    · rw [if_pos w]; exact (y4 w).1
    · rw [if_neg w]; exact y5 w
  have eg : ∀ x, gi_n h ≤ x → gi_c K x = gi_c (inh h a kk (nI n) (nI u) (nI gr) m (gi_I h 82 u) (gi_I h) (2 * n + 1)) x ∧ (∀ j, gi_R K x j = gi_R (inh h a kk (nI n) (nI u) (nI gr) m (gi_I h 82 u) (gi_I h) (2 * n + 1)) x j) ∧ ∀ j, gi_I K x j = gi_I (inh h a kk (nI n) (nI u) (nI gr) m (gi_I h 82 u) (gi_I h) (2 * n + 1)) x j := fun x hx => ⟨by rw [Kc, cc], fun j => by rw [KR, cR, if_neg (by omega)], fun j => Kb x j hx⟩
  have d93 := (s6 hz0).1
  refine j_cr (n := n) (i := i) (A := gi_n h) (kk := kk) (K := K) (V := V) J hi hn ne fr rfl hk2 kd (by rw [Kn, cn]; omega) (by rw [Kn, cn]; omega) (by rw [Ku, cu]; omega) (fun x hx => by rw [Kn, cn] at hx; rw [Kc, cc]; exact p3 x hx) (fun x hx => by rw [Kc, cc]; exact (E.2 x hx).1) (fun x y hx w => by rw [KR, cR, if_neg w]; exact (E.2 x hx).2.2 y) (by rw [KR, cR, if_pos ⟨rfl, rfl⟩]) ?kI ?hq hV (by rw [Kc, cc]; exact i1) (by rw [Kc, cc]; exact p4) (by rw [Kc, cc]; exact p5) (by rw [KR, cR, if_neg (by omega)]; exact p6) (by rw [KR, cR, if_neg (by omega)]; exact p7) (by rw [v83, Kb _ _ (Nat.le_refl _)]; exact p9) (by rw [v84, Kb _ _ (Nat.le_refl _)]; exact p10) (by rw [v85, Kb _ _ (Nat.le_refl _)]; exact i2) (by rw [v86, Kb _ _ (Nat.le_refl _)]; exact i3) (by rw [Kb _ _ (Nat.le_refl _), v87]; exact e4) (by rw [v88, Kb _ _ (Nat.le_refl _)]; exact p11) (by rw [Kb _ _ (Nat.le_refl _)]; exact p12) (fun p hp => by rw [Kb _ _ (by omega)]; exact p13 p hp) (fun t _ => by rw [KR, cR, if_neg (by omega)]; exact p8 t) v83 v84 (by rw [v85]; exact vp_in_nI hu (by omega)) (by rw [v86]; exact vp_in_nI hg (by omega)) (by rw [v87]; exact r87) v88 ?l0 ?l1 ?m0 ?m1 ?m2 ?s0 ?s1
  case hq =>
    intro p hp
    obtain ⟨⟨q1, q2, q3, q4⟩, ⟨q5, q6⟩, q7, q8⟩ := hq p hp
    refine ⟨⟨?_, ?_, ?_, ?_⟩, ⟨?_, ?_⟩, ?_, ?_⟩
    · rw [Ke _ _ (by omega) (by omega) trivial]; exact q1
    · rw [Ke _ _ (by omega) (by omega) trivial]; exact q2
    · rw [Ke _ _ (by omega) (by omega) trivial]; exact q3
    · rw [Ke _ _ (by omega) (by omega) trivial]; exact q4
    · rw [Ke _ _ (by omega) (by omega) trivial]; exact q5
    · rw [Ke _ _ (by omega) (by omega) trivial]; exact q6
    · rw [Ke _ _ (by omega) (by omega) trivial]; exact q7
    · rw [Ke _ _ (by omega) (by omega) trivial]; exact q8
  case kI =>
    intro x y w0 w1 w2 w3 w4 w5 w6 w7
    by_cases w : x < 109
    · exact Ko x y w w1 w2 w3 w4 w5 w6 w7
    · rw [Ke x y (by omega) (by omega) trivial]
      exact hb1 x y w0 w1 (by omega) (by omega) w5 w6 w7
  case l0 =>
    rw [R9]
    exact rL_LC kf (LC_c y3 (fun y hy => eg y (by omega))) (by unfold dy; omega) (by unfold dy; omega) (f1 93 (by omega) (by omega) (by omega)) (f1 95 (by omega) (by omega) (by omega)) (f1 96 (by omega) (by omega) (by omega)) (f1 97 (by omega) (by omega) (by omega)) f8
  case l1 =>
    rw [R10]
    by_cases w : kk = 2
    · rw [if_pos w]
      exact rL_LC kf (LC_c (y4 w).2 (fun y hy => eg y (by omega))) (by unfold dy; omega) (by unfold dy; omega) (h1 w 93 (by omega) (by omega)) (h1 w 95 (by omega) (by omega)) (h1 w 96 (by omega) (by omega)) (h1 w 97 (by omega) (by omega)) (h8 w)
    · rw [if_neg w]
      exact ⟨fun _ => n3 w, fun b e => (by cases e)⟩
  case m0 => intro r e; rw [R9] at e; cases e; omega
  case m1 =>
    intro r e
    rw [R10] at e
    by_cases w : kk = 2
    · rw [if_pos w] at e; cases e; omega
    · rw [if_neg w] at e; cases e
  case m2 =>
    intro r e e2
    rw [R9] at e
    rw [R10] at e2
    by_cases w : kk = 2
    · rw [if_pos w] at e2
      have q1 := Option.some.inj e
      have q2 := Option.some.inj e2
      omega
    · rw [if_neg w] at e2; cases e2
  case s0 =>
    refine sL1_cpy (S := gi_I h) (f := 2 * n + 1) (sl (2 * n + 1) (by omega)) (by rw [show (2 * n + 1) / 2 = n by omega]; exact hz0) (f1 93 (by omega) (by omega) (by omega)) (f1 95 (by omega) (by omega) (by omega)) (f1 96 (by omega) (by omega) (by omega)) (f1 97 (by omega) (by omega) (by omega)) f8 (fun _ => ?_)
    rw [if_pos (by omega), show 2 * i / 2 = i by omega, v87, f94]
    exact md.2.2.symm
  case s1 =>
    by_cases w : kk = 2
    · refine sL1_cpy (S := gi_I h) (f := 2 * n + 1) (sl (2 * n + 1) (by omega)) (by rw [show (2 * n + 1) / 2 = n by omega]; exact hz0) (h1 w 93 (by omega) (by omega)) (h1 w 95 (by omega) (by omega)) (h1 w 96 (by omega) (by omega)) (h1 w 97 (by omega) (by omega)) (h8 w) (fun _ => ?_)
      rw [if_neg (by omega), h1 w 94 (by omega) (by omega), e94]
      exact (al_to (h1 w 95 (by omega) (by omega)) (h8 w)).symm
    · obtain ⟨-, ⟨q2, q3, q4⟩, -⟩ := sl (2 * i + 1) (by omega)
      exact sL1_clr (n3 w) (by rw [n1 w 95 (by omega) (by omega)]; exact q2) (by rw [n1 w 96 (by omega) (by omega)]; exact q3) (by rw [n1 w 97 (by omega) (by omega)]; exact q4) (n8 w)

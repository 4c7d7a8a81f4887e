/-! create: the invariant -/
set_option maxRecDepth 100000

theorem ly_m1 {f : Nat → Int32} : ∀ m j t s, (∀ k, j ≤ k → k < j + m → f k = -1) → ly_ f j m t s = some (t, s)
  | 0, _, _, _, _ => rfl
  | m + 1, j, t, s, h => by
    unfold ly_
    rw [if_pos (by rw [h j (by omega) (by omega)]; decide)]
    exact ly_m1 m (j + 1) t s (fun k h1 h2 => h k (by omega) (by omega))
/-- what a free inode has in the model -/
theorem free_ {L : Nat} {xs : Nat → Int32} {c i : Nat} {h : gi_H} (J : jH L xs c h) (hi : i < 64) (fr : gi_R h 5 i = none) : gi_I h 83 i = 0 ∧ gi_I h 90 i = -1 ∧ (∀ p, p < 12 → gi_I h 89 (12 * i + p) = -1) ∧ (∀ a, a < 32 → gi_I h 99 (32 * i + a) = -1) := by
  obtain ⟨s1, s2, s3, s4⟩ := J.2.2.2.2.2.2.2.2.2.2.2.1
  have z := (J.2.2.2.2.2.2.1 i hi).1 fr
  obtain ⟨⟨t, s, e1, e2⟩, e3⟩ := s3.2 i hi
  have e4 := e3 z
  rw [ly_m1 32 0 0 0 (fun k _ hk => e4 k (by omega))] at e1
  cases e1
  refine ⟨z, ?_, fun p hp => ((s1.2 i hi).2.2.2.2.2.2.2.2 p hp).2 z, e4⟩
  have := (s1.2 i hi).2.2.2.2.2.2.2.1
  rw [i32_eq, ti_m1]
  have q : ¬ 0 ≤ (gi_I h 90 i).toInt := fun w => absurd (e2.mp w) (by omega)
  omega
theorem j_rf {L : Nat} {xs : Nat → Int32} {c i : Nat} {h K : gi_H} (J : jH L xs c h) (hi : i < 64) (fr : gi_R h 5 i = none)
    (kn1 : gi_n h ≤ gi_n K) (kn2 : gi_n K ≤ gi_n h + 16) (ku : gi_u K ≤ gi_u h + 1000) (kF : rF K)
    (kc : ∀ x, x < gi_n h → gi_c K x = gi_c h x) (kR : ∀ x y, x < gi_n h → gi_R K x y = gi_R h x y)
    (kI : ∀ x y, x < gi_n h → ¬ (x = 85 ∧ y = i) → ¬ (x = 86 ∧ y = i) → x ≠ 107 → x ≠ 108 → gi_I K x y = gi_I h x y)
    (b5 : vp_in (gi_I K 85 i) 16) (b6 : vp_in (gi_I K 86 i) 16) : jH L xs (c + 1) K := by
  obtain ⟨j1, j2, j3, j4, j5, j6, j7, j8, j9, j10, j11, j12, j13, j14⟩ := id J
  have h109 := j1.1
  have lt : ∀ x, gi_c h x ≠ (0, 0) → x < gi_n h := fun x hx => Nat.lt_of_not_le (fun w => hx (j2 x w))
  have e3 : ∀ x y, x < 109 → ¬ (x = 85 ∧ y = i) → ¬ (x = 86 ∧ y = i) → x ≠ 107 → x ≠ 108 → gi_I K x y = gi_I h x y := fun x y q => kI x y (by omega)
  refine jX_of J hi kn1 kn2 ku kF (fun x hx => kc x (lt x hx)) (fun x y w1 w2 w3 => kR x y (by unfold dy at w1; omega)) (fun j _ _ => kR 5 j (by omega)) (fun y => e3 0 y (by omega) (by omega) (by omega) (by omega) (by omega)) ?_ ?_ ?_ ?_ ?_ ?_ ?_ ?_ ?_ ?_ ?_ ?_
  · intro x hd hx _
    have := lt x hx
    unfold dy at hd
    exact ⟨fun y => kI x y this (by omega) (by omega) (by omega) (by omega), fun y => kR x y this⟩
  · intro j hj ne
    exact ⟨fun x hx => e3 x j (by omega) (by omega) (by omega) (by omega) (by omega), fun p hp => e3 _ _ (by omega) (by omega) (by omega) (by omega) (by omega), fun l x hl h1 h2 => e3 _ _ (by omega) (by omega) (by omega) (by omega) (by omega), fun l q hl hq => e3 _ _ (by omega) (by omega) (by omega) (by omega) (by omega), fun t ht => e3 _ _ (by omega) (by omega) (by omega) (by omega) (by omega), fun t q ht hq => e3 _ _ (by omega) (by omega) (by omega) (by omega) (by omega)⟩
  · rw [kR 5 i (by omega), fr, e3 83 i (by omega) (by omega) (by omega) (by omega) (by omega)]
    exact ⟨fun _ => (j7 i hi).1 fr, fun a e => (by cases e)⟩
  · intro a e; rw [kR 5 i (by omega), fr] at e; cases e
  · intro a x r e; rw [kR 5 i (by omega), fr] at e; cases e
  · intro a r e; rw [kR 5 i (by omega), fr] at e; cases e
  · exact rA_c (fun x y hx => e3 x y (by omega) (by omega) (by omega) (by omega) (by omega)) (fun x y hx => e3 x y (by omega) (by omega) (by omega) (by omega) (by omega)) j5
  · exact sA_c (fun x y hx => e3 x y (by omega) (by omega) (by omega) (by omega) (by omega)) j10
  · exact rQ_c (fun x y h1 h2 => e3 x y (by omega) (by omega) (by omega) (by omega) (by omega)) (fun x y h1 h2 => e3 x y (by omega) (by omega) (by omega) (by omega) (by omega)) j6
  · exact sQ_c (Nat.le_succ c) (fun x y h1 h2 => e3 x y (by omega) (by omega) (by omega) (by omega) (by omega)) j11
  · refine rB_fr (fun q _ => kR 7 q (by omega)) (fun x hd hx => ?_) (fun x y hx => e3 x y (by omega) (by omega) (by omega) (by omega) (by omega)) j9
    have := lt x (by rcases hx with e | e <;> rw [e] <;> decide)
    unfold dy at hd
    exact ⟨kc x this, fun y => kI x y this (by omega) (by omega) (by omega) (by omega), fun y => kR x y this⟩
  · obtain ⟨s1, s2, s3, s4⟩ := j12
    obtain ⟨g1, g2, g3, g4, g5, g6, g7, g8, g9⟩ := s1.2 i hi
    refine ⟨sN_at s1 hi (fun j _ => ⟨e3 _ _ (by omega) (by omega) (by omega) (by omega) (by omega), e3 _ _ (by omega) (by omega) (by omega) (by omega) (by omega)⟩) (fun j _ ne => ⟨fun x hx => e3 _ _ (by omega) (by omega) (by omega) (by omega) (by omega), fun p hp => e3 _ _ (by omega) (by omega) (by omega) (by omega) (by omega)⟩) b5 b6 ?_ ?_ ?_ ?_, sL_c (fun x y hx => e3 x y (by omega) (by omega) (by omega) (by omega) (by omega)) s2, sT_c (fun x y hx => e3 x y (by omega) (by omega) (by omega) (by omega) (by omega)) s3, sB_c (fun x y hx => e3 x y (by omega) (by omega) (by omega) (by omega) (by omega)) s4⟩
    · rw [e3 _ _ (by omega) (by omega) (by omega) (by omega) (by omega)]; exact g6
    · rw [e3 _ _ (by omega) (by omega) (by omega) (by omega) (by omega)]; exact g7
    · rw [e3 _ _ (by omega) (by omega) (by omega) (by omega) (by omega)]; exact g8
    · intro p hp
      rw [e3 _ _ (by omega) (by omega) (by omega) (by omega) (by omega)]; exact g9 p hp
theorem j_cr {L : Nat} {xs : Nat → Int32} {c n i A : Nat} {kk : Int32} {h K : gi_H} {V : gi_T} (J : jH L xs c h) (hi : i < 64) (hn : n < 64) (ne : n ≠ i) (fr : gi_R h 5 i = none) (hA : A = gi_n h) (hk : 0 < kk.toInt ∧ kk.toInt ≤ 2) (kd : gi_I h 83 n = 2)
    (kn1 : gi_n h ≤ gi_n K) (kn2 : gi_n K ≤ gi_n h + 16) (ku : gi_u K ≤ gi_u h + 1000) (kF : rF K)
    (kc : ∀ x, x < gi_n h → gi_c K x = gi_c h x) (kR : ∀ x y, x < gi_n h → ¬ (x = 5 ∧ y = i) → gi_R K x y = gi_R h x y) (k5 : gi_R K 5 i = some A)
    (kI : ∀ x y, x < gi_n h → ¬ (11 ≤ x ∧ x < 75) → ¬ ((83 ≤ x ∧ x ≤ 88) ∧ x ≠ 89 ∧ y = i) → ¬ (93 ≤ x ∧ x ≤ 97 ∧ y / 2 = i) → ¬ (x = 98 ∧ y / 64 = i) → ¬ (102 ≤ x ∧ x ≤ 105) → x ≠ 107 → x ≠ 108 → gi_I K x y = gi_I h x y)
    (hq : qk h K V) (hV : ∀ p, p < 64 → iv (gi_I h 103 p) (32 * (c + 1 : Nat)) (V p))
    (c1 : gi_c K A = (5, 0)) (c2 : gi_c K (A + 1) = (100, 12)) (c3 : gi_c K (A + 2) = (106, 32)) (f7 : gi_R K A 7 = some (A + 1)) (f8 : gi_R K A 8 = some (A + 2))
    (a0 : gi_I K A 0 = gi_I K 83 i) (a1 : gi_I K A 1 = gi_I K 84 i) (a2 : gi_I K A 2 = gi_I K 85 i) (a3 : gi_I K A 3 = gi_I K 86 i) (a4 : gi_I K A 4 = gi_I K 87 i) (a5 : gi_I K A 5 = gi_I K 88 i) (a6 : gi_I K A 6 = -1) (ap : ∀ p, p < 12 → gi_I K (A + 1) p = -1) (at' : ∀ t, t < 32 → gi_R K (A + 2) t = none)
    (e83 : gi_I K 83 i = kk) (e84 : gi_I K 84 i = nI n) (b5 : vp_in (gi_I K 85 i) 16) (b6 : vp_in (gi_I K 86 i) 16) (b7 : 0 ≤ (gi_I K 87 i).toInt ∧ (gi_I K 87 i).toInt ≤ 2047) (e88 : gi_I K 88 i = 0)
    (l0 : rL K (gi_I K) (2 * i) (gi_R K A 9)) (l1 : rL K (gi_I K) (2 * i + 1) (gi_R K A 10)) (m0 : ∀ r, gi_R K A 9 = some r → gi_n h ≤ r) (m1 : ∀ r, gi_R K A 10 = some r → gi_n h ≤ r) (m2 : ∀ r, gi_R K A 9 = some r → gi_R K A 10 = some r → False)
    (s0 : sL1 (gi_I K) (2 * i)) (s1' : sL1 (gi_I K) (2 * i + 1)) : jH L xs (c + 1) K := by
  obtain ⟨j1, j2, j3, j4, j5, j6, j7, j8, j9, j10, j11, j12, j13, j14⟩ := id J
  obtain ⟨z83, z90, z89, z99⟩ := free_ J hi fr
  have h109 := j1.1
  have lt : ∀ x, gi_c h x ≠ (0, 0) → x < gi_n h := fun x hx => Nat.lt_of_not_le (fun w => hx (j2 x w))
  have e3 : ∀ x y, x < 109 → ¬ (11 ≤ x ∧ x < 75) → ¬ ((83 ≤ x ∧ x ≤ 88) ∧ x ≠ 89 ∧ y = i) → ¬ (93 ≤ x ∧ x ≤ 97 ∧ y / 2 = i) → ¬ (x = 98 ∧ y / 64 = i) → ¬ (102 ≤ x ∧ x ≤ 105) → x ≠ 107 → x ≠ 108 → gi_I K x y = gi_I h x y := fun x y q => kI x y (by omega)
  have ed : ∀ x y, dy x → x < gi_n h → gi_I K x y = gi_I h x y := fun x y hd hx => by
    unfold dy at hd
    exact kI x y hx (by omega) (by omega) (by omega) (by omega) (by omega) (by omega) (by omega)
  have n0 : i ≠ 0 := fun e => by
    subst e
    have := j12.1.1
    rw [z83] at this
    exact absurd this (by decide)
  refine jX_of J hi kn1 kn2 ku kF (fun x hx => kc x (lt x hx)) (fun x y w1 w2 w3 => kR x y (by unfold dy at w1; omega) (by omega)) (fun j _ hj => kR 5 j (by omega) (by omega)) (fun y => e3 0 y (by omega) (by omega) (by omega) (by omega) (by omega) (by omega) (by omega) (by omega)) ?_ ?_ ?_ ?_ ?_ ?_ ?_ ?_ ?_ ?_ ?_ ?_
  · intro x hd hx _
    have := lt x hx
    exact ⟨fun y => ed x y hd this, fun y => kR x y this (by unfold dy at hd; omega)⟩
  · intro j hj nj
    exact ⟨fun x hx => e3 x j (by omega) (by omega) (by omega) (by omega) (by omega) (by omega) (by omega) (by omega), fun p hp => e3 _ _ (by omega) (by omega) (by omega) (by omega) (by omega) (by omega) (by omega) (by omega), fun l x hl h1 h2 => e3 _ _ (by omega) (by omega) (by omega) (by omega) (by omega) (by omega) (by omega) (by omega), fun l q hl hq => e3 _ _ (by omega) (by omega) (by omega) (by omega) (by omega) (by omega) (by omega) (by omega), fun t ht => e3 _ _ (by omega) (by omega) (by omega) (by omega) (by omega) (by omega) (by omega) (by omega), fun t q ht hq => e3 _ _ (by omega) (by omega) (by omega) (by omega) (by omega) (by omega) (by omega) (by omega)⟩
  · rw [k5]
    refine ⟨fun e => (by cases e), fun b e => ?_⟩
    cases e
    rw [e83]
    refine ⟨hk.1, by unfold dy; omega, by unfold dy; omega, by unfold dy; omega, c1, c2, c3, f7, f8, a0, a1, a2, a3, a4, a5, ?_, fun p hp => ?_, l0, l1, fun t ht => ?_⟩
    · rw [a6, e3 90 i (by omega) (by omega) (by omega) (by omega) (by omega) (by omega) (by omega) (by omega), z90]
    · rw [ap p hp, e3 89 _ (by omega) (by omega) (by omega) (by omega) (by omega) (by omega) (by omega) (by omega), z89 p hp]
    · rw [at' t ht]
      exact ⟨fun _ => by rw [e3 99 _ (by omega) (by omega) (by omega) (by omega) (by omega) (by omega) (by omega) (by omega), z99 t ht], fun b e => (by cases e)⟩
  · intro a e; rw [k5] at e; cases e; exact Or.inr (by omega)
  · intro a x r e hx h2
    rw [k5] at e; cases e
    rcases hx with rfl | rfl
    · exact Or.inr (m0 r h2)
    · exact Or.inr (m1 r h2)
  · intro a r e h1 h2; rw [k5] at e; cases e; exact m2 r h1 h2
  · exact rA_c (fun x y hx => e3 x y (by omega) (by omega) (by omega) (by omega) (by omega) (by omega) (by omega) (by omega)) (fun x y hx => e3 x y (by omega) (by omega) (by omega) (by omega) (by omega) (by omega) (by omega) (by omega)) j5
  · exact sA_c (fun x y hx => e3 x y (by omega) (by omega) (by omega) (by omega) (by omega) (by omega) (by omega) (by omega)) j10
  · exact rQ_k J hq
  · exact sQ_k J hq hV
  · refine rB_fr (fun q _ => kR 7 q (by omega) (by omega)) (fun x hd hx => ?_) (fun x y hx => e3 x y (by omega) (by omega) (by omega) (by omega) (by omega) (by omega) (by omega) (by omega)) j9
    have := lt x (by rcases hx with e | e <;> rw [e] <;> decide)
    exact ⟨kc x this, fun y => ed x y hd this, fun y => kR x y this (by unfold dy at hd; omega)⟩
  · obtain ⟨s1, s2, s3, s4⟩ := j12
    have e90 : ∀ j, gi_I K 90 j = gi_I h 90 j := fun j => e3 90 j (by omega) (by omega) (by omega) (by omega) (by omega) (by omega) (by omega) (by omega)
    have e89 : ∀ j, gi_I K 89 j = gi_I h 89 j := fun j => e3 89 j (by omega) (by omega) (by omega) (by omega) (by omega) (by omega) (by omega) (by omega)
    have e99 : ∀ j, gi_I K 99 j = gi_I h 99 j := fun j => e3 99 j (by omega) (by omega) (by omega) (by omega) (by omega) (by omega) (by omega) (by omega)
    have e91 : ∀ j, gi_I K 91 j = gi_I h 91 j := fun j => e3 91 j (by omega) (by omega) (by omega) (by omega) (by omega) (by omega) (by omega) (by omega)
    have e92 : ∀ j, gi_I K 92 j = gi_I h 92 j := fun j => e3 92 j (by omega) (by omega) (by omega) (by omega) (by omega) (by omega) (by omega) (by omega)
    have er : ∀ x, ref_ (gi_I K) x = ref_ (gi_I h) x := fun x => by unfold ref_; rw [e89, e90]
    refine ⟨⟨?_, fun j hj => ?_⟩, sL_at (i := i) s2 (fun l hl nl => ⟨e3 _ _ (by omega) (by omega) (by omega) (by omega) (by omega) (by omega) (by omega) (by omega), e3 _ _ (by omega) (by omega) (by omega) (by omega) (by omega) (by omega) (by omega) (by omega), fun x h1 h2 => e3 _ _ (by omega) (by omega) (by omega) (by omega) (by omega) (by omega) (by omega) (by omega), fun q hq => e3 _ _ (by omega) (by omega) (by omega) (by omega) (by omega) (by omega) (by omega) (by omega)⟩) s0 s1', ⟨fun j hj => by rw [e99]; exact s3.1 j hj, fun j hj => ?_⟩, fun q hq' => by rw [e91]; exact s4.1 q hq', fun x hx => ?_, fun x y hx hy => ?_, fun j p q w1 w2 w3 => ?_⟩
    · rw [e3 83 0 (by omega) (by omega) (by omega) (by omega) (by omega) (by omega) (by omega) (by omega)]; exact s1.1
    · obtain ⟨g1, g2, g3, g4, g5, g6, g7, g8, g9⟩ := s1.2 j hj
      by_cases e : j = i
      · subst e
        rw [e83, e84, e88, e90]
        refine ⟨⟨by omega, hk.2⟩, vp_in_nI hn (by omega), fun _ => ⟨?_, fun e => absurd e n0⟩, b5, b6, b7, by decide, g8, fun p hp => ?_⟩
        · rw [nI_clamp (by omega), e3 83 n (by omega) (by omega) (by omega) (by omega) (by omega) (by omega) (by omega) (by omega)]; exact kd
        · rw [e89, z89 p hp]
          exact ⟨by decide, fun _ => rfl⟩
      · rw [e3 83 j (by omega) (by omega) (by omega) (by omega) (by omega) (by omega) (by omega) (by omega), e3 84 j (by omega) (by omega) (by omega) (by omega) (by omega) (by omega) (by omega) (by omega), e3 85 j (by omega) (by omega) (by omega) (by omega) (by omega) (by omega) (by omega) (by omega), e3 86 j (by omega) (by omega) (by omega) (by omega) (by omega) (by omega) (by omega) (by omega), e3 87 j (by omega) (by omega) (by omega) (by omega) (by omega) (by omega) (by omega) (by omega), e3 88 j (by omega) (by omega) (by omega) (by omega) (by omega) (by omega) (by omega) (by omega), e90]
        refine ⟨g1, g2, fun z => ⟨?_, (g3 z).2⟩, g4, g5, g6, g7, g8, fun p hp => by rw [e89]; exact g9 p hp⟩
        obtain ⟨t, ht, et⟩ := vp_in_of g2 (by omega)
        have := (g3 z).1
        rw [et, nI_clamp (by omega)] at this ⊢
        by_cases e2 : t = i
        · rw [e2, z83] at this; exact absurd this (by decide)
        · rw [e3 83 t (by omega) (by omega) (by omega) (by omega) (by omega) (by omega) (by omega) (by omega)]; exact this
    · obtain ⟨⟨t, s, q1, q2⟩, q3⟩ := s3.2 j hj
      refine ⟨⟨t, s, ?_, by rw [e90]; exact q2⟩, fun z a ha => ?_⟩
      · rw [← q1]
        exact ly_c 32 0 0 0 (fun q _ _ => e99 _)
      · by_cases e : j = i
        · subst e
          rw [e83] at z
          rw [z] at hk
          exact absurd hk.1 (by decide)
        · rw [e3 83 j (by omega) (by omega) (by omega) (by omega) (by omega) (by omega) (by omega) (by omega)] at z
          rw [e99]; exact q3 z a ha
    · rw [er, e91]; exact s4.2.1 x hx
    · rw [er, er]; exact s4.2.2.1 x y hx hy
    · rw [e89, e92]
      by_cases e : j = i
      · subst e
        rw [z89 p w2]
        exact fun z => absurd z (by decide)
      · rw [e3 88 j (by omega) (by omega) (by omega) (by omega) (by omega) (by omega) (by omega) (by omega)]
        exact s4.2.2.2 j p q w1 w2 w3

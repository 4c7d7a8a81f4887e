/-! a list told anew -/
set_option maxRecDepth 100000

theorem j_acl {L : Nat} {xs : Nat → Int32} {c n a f q r : Nat} {h K : gi_H} (J : jH L xs c h) (hn : n < 64) (hr : gi_R h 5 n = some a) (hN : rN h (gi_I h) n a) (hf : f = 0 ∨ f = 1) (hq : q < 32)
    (hl : gi_R h a (9 + f) = some r ∨ (gi_R h a (9 + f) = none ∧ r = gi_n h))
    (kn1 : gi_n h ≤ gi_n K) (kn2 : gi_n K ≤ gi_n h + 16) (ku : gi_u K ≤ gi_u h + 1000) (kF : rF K)
    (kc : ∀ x, x < gi_n h → gi_c K x = gi_c h x)
    (kR : ∀ x y, x < gi_n h → ¬ (x = a ∧ y = 9 + f) → gi_R K x y = gi_R h x y)
    (kI : ∀ x y, x < gi_n h → ¬ (x = a ∧ y = 4) → x ≠ r → x ≠ r + 1 → ¬ (x = 87 ∧ y = n) → ¬ (93 ≤ x ∧ x ≤ 97 ∧ y = 2 * n + f) → ¬ (x = 98 ∧ y = 32 * (2 * n + f) + q) → gi_I K x y = gi_I h x y)
    (k4 : gi_I K a 4 = gi_I K 87 n) (k87 : f = 1 → gi_I K 87 n = gi_I h 87 n) (hm : 0 ≤ (gi_I K 87 n).toInt ∧ (gi_I K 87 n).toInt ≤ 2047)
    (kL : rL K (gi_I K) (2 * n + f) (gi_R K a (9 + f))) (kr : ∀ s, gi_R K a (9 + f) = some s → s = r)
    (sl : sL1 (gi_I K) (2 * n + f)) : jH L xs (c + 1) K := by
  obtain ⟨j1, j2, j3, j4, j5, j6, j7, j8, j9, j10, j11, j12, j13, j14⟩ := id J
  obtain ⟨d1, d2, d3, c1, c2, c3, f7, f8, k0, k1, k2, k3, k4', k5, k6, kp, kl, kf, kt⟩ := id hN
  have h109 := j1.1
  have lt : ∀ x t m, gi_c h x = (t, m) → t ≠ 0 → x < gi_n h := fun x t m e ht => Nat.lt_of_not_le (fun w => by rw [j2 x w] at e; cases e; exact ht rfl)
  have la := lt a _ _ c1 (by decide)
  have la1 := lt (a + 1) _ _ c2 (by decide)
  have la2 := lt (a + 2) _ _ c3 (by decide)
  have rr : dy r ∧ dy (r + 1) ∧ ((gi_c h r = (6, 0) ∧ gi_c h (r + 1) = (100, 32)) ∨ gi_n h ≤ r) := by
    rcases hl with e | ⟨e, rfl⟩
    · rcases hf with rfl | rfl
      · obtain ⟨a1, a2, a3, a4, -⟩ := kl.2 r e
        exact ⟨a1, a2, Or.inl ⟨a3, a4⟩⟩
      · obtain ⟨a1, a2, a3, a4, -⟩ := kf.2 r e
        exact ⟨a1, a2, Or.inl ⟨a3, a4⟩⟩
    · exact ⟨by unfold dy; omega, by unfold dy; omega, Or.inr (Nat.le_refl _)⟩
  obtain ⟨dr, dr1, rc⟩ := rr
  have nr : ∀ x t m, gi_c h x = (t, m) → t ≠ 0 → t ≠ 6 → ¬ (t = 100 ∧ m = 32) → x < gi_n h ∧ x ≠ r ∧ x ≠ r + 1 := by
    intro x t m e w1 w2 w3
    have := lt x t m e w1
    refine ⟨this, ?_, ?_⟩
    · rintro rfl
      rcases rc with ⟨z, -⟩ | z
      · rw [z] at e; cases e; exact w2 rfl
      · omega
    · rintro rfl
      rcases rc with ⟨-, z⟩ | z
      · rw [z] at e; cases e; exact w3 ⟨rfl, rfl⟩
      · omega
  have na := nr a _ _ c1 (by decide) (by decide) (by decide)
  have na1 := nr (a + 1) _ _ c2 (by decide) (by decide) (by decide)
  have na2 := nr (a + 2) _ _ c3 (by decide) (by decide) (by decide)
  have ol : ∀ s x, (x = 9 ∨ x = 10) → x ≠ 9 + f → gi_R h a x = some s → s < gi_n h ∧ s + 1 < gi_n h ∧ s ≠ r ∧ s ≠ r + 1 ∧ s + 1 ≠ r ∧ s + 1 ≠ r + 1 ∧ s ≠ a ∧ s + 1 ≠ a ∧ dy s ∧ dy (s + 1) := by
    intro s x hx ne e
    have g : dy s ∧ dy (s + 1) ∧ gi_c h s = (6, 0) ∧ gi_c h (s + 1) = (100, 32) := by
      rcases hx with rfl | rfl
      · obtain ⟨a1, a2, a3, a4, -⟩ := kl.2 s e
        exact ⟨a1, a2, a3, a4⟩
      · obtain ⟨a1, a2, a3, a4, -⟩ := kf.2 s e
        exact ⟨a1, a2, a3, a4⟩
    obtain ⟨g1, g2, g3, g4⟩ := g
    have l1 := lt _ _ _ g3 (by decide)
    have l2 := lt _ _ _ g4 (by decide)
    have n1 : s ≠ r := by
      rintro rfl
      rcases hl with e2 | ⟨-, e2⟩
      · exact ne (j8.2 n n a a x (9 + f) s hn hn hr hr hx (by omega) e e2).2
      · omega
    have n2 : s ≠ r + 1 := by
      rintro rfl
      rcases rc with ⟨-, z⟩ | z
      · rw [z] at g3; cases g3
      · omega
    have n3 : s + 1 ≠ r := by
      rintro rfl
      rcases rc with ⟨z, -⟩ | z
      · rw [z] at g4; cases g4
      · omega
    exact ⟨l1, l2, n1, n2, n3, by omega, ne_c (by rw [g3, c1]; decide), ne_c (by rw [g4, c1]; decide), g1, g2⟩
  have e1 : ∀ x y, dy x → x < gi_n h → x ≠ r → x ≠ r + 1 → ¬ (x = a ∧ y = 4) → gi_I K x y = gi_I h x y := fun x y hd w1 w2 w3 w4 => by
    unfold dy at hd
    exact kI x y w1 w4 w2 w3 (by omega) (by omega) (by omega)
  have e2 : ∀ x y, ¬ dy x → ¬ (x = 87 ∧ y = n) → ¬ (93 ≤ x ∧ x ≤ 97 ∧ y = 2 * n + f) → ¬ (x = 98 ∧ y = 32 * (2 * n + f) + q) → gi_I K x y = gi_I h x y := fun x y hd w1 w2 w3 => by
    refine kI x y ?_ (fun z => hd (by rw [z.1]; exact d1)) (fun z => hd (by rw [z]; exact dr)) (fun z => hd (by rw [z]; exact dr1)) w1 w2 w3
    unfold dy at hd
    omega
  have e3 : ∀ x y, 79 ≤ x → x < 109 → ¬ (x = 87 ∧ y = n) → ¬ (93 ≤ x ∧ x ≤ 97 ∧ y = 2 * n + f) → ¬ (x = 98 ∧ y = 32 * (2 * n + f) + q) → gi_I K x y = gi_I h x y := fun x y g1 g2 => e2 x y (by unfold dy; omega)
  have fa : ∀ y, y ≠ 4 → gi_I K a y = gi_I h a y := fun y hy => e1 a y d1 na.1 na.2.1 na.2.2 (by omega)
  have kR5 : ∀ y, gi_R K 5 y = gi_R h 5 y := fun y => kR 5 y (by omega) (by unfold dy at d1; omega)
  refine jX_of J hn kn1 kn2 ku kF (fun x hx => kc x (Nat.lt_of_not_le (fun w => hx (j2 x w)))) (fun x y w1 w2 w3 => kR x y (by unfold dy at w1; omega) (fun z => w1 (by rw [z.1]; exact d1))) (fun j _ _ => kR5 j) (fun y => e2 0 y (by unfold dy; omega) (by omega) (by omega) (by omega)) ?_ ?_ ?_ ?_ ?_ ?_ ?_ ?_ ?_ ?_ ?_ ?_
  · intro x hd hx ht
    have l0 := Nat.lt_of_not_le (fun w => hx (j2 x w))
    have x1 : x ≠ a := fun e => ht (Or.inr ⟨a, hr, Or.inl e⟩)
    have x2 : x ≠ r ∧ x ≠ r + 1 := by
      rcases hl with e | ⟨-, e⟩
      · have e' : gi_R h a 9 = some r ∨ gi_R h a 10 = some r := by
          rcases hf with rfl | rfl
          · exact Or.inl e
          · exact Or.inr e
        exact ⟨fun z => ht (Or.inr ⟨a, hr, Or.inr (Or.inr (Or.inr ⟨r, e', Or.inl z⟩))⟩), fun z => ht (Or.inr ⟨a, hr, Or.inr (Or.inr (Or.inr ⟨r, e', Or.inr z⟩))⟩)⟩
      · omega
    exact ⟨fun y => e1 x y hd l0 x2.1 x2.2 (by omega), fun y => kR x y l0 (by omega)⟩
  · intro j hj ne
    exact ⟨fun x hx => e3 x j (by omega) (by omega) (by omega) (by omega) (by omega), fun p hp => e3 _ _ (by omega) (by omega) (by omega) (by omega) (by omega), fun l x hl h1 h2 => e3 _ _ (by omega) (by omega) (by omega) (by omega) (by omega), fun l q hl hq => e3 _ _ (by omega) (by omega) (by omega) (by omega) (by omega), fun t ht => e3 _ _ (by omega) (by omega) (by omega) (by omega) (by omega), fun t q ht hq => e3 _ _ (by omega) (by omega) (by omega) (by omega) (by omega)⟩
  · rw [kR5, hr, e3 83 n (by omega) (by omega) (by omega) (by omega) (by omega)]
    refine ⟨fun e => (by cases e), fun b hb => ?_⟩
    cases hb
    refine ⟨((j7 n hn).2 a hr).1, d1, d2, d3, by rw [kc _ la]; exact c1, by rw [kc _ la1]; exact c2, by rw [kc _ la2]; exact c3, by rw [kR _ _ la (by omega)]; exact f7, by rw [kR _ _ la (by omega)]; exact f8, ?_, ?_, ?_, ?_, k4, ?_, ?_, ?_, ?_, ?_, ?_⟩
    · rw [fa 0 (by omega), k0, e3 83 _ (by omega) (by omega) (by omega) (by omega) (by omega)]
    · rw [fa 1 (by omega), k1, e3 84 _ (by omega) (by omega) (by omega) (by omega) (by omega)]
    · rw [fa 2 (by omega), k2, e3 85 _ (by omega) (by omega) (by omega) (by omega) (by omega)]
    · rw [fa 3 (by omega), k3, e3 86 _ (by omega) (by omega) (by omega) (by omega) (by omega)]
    · rw [fa 5 (by omega), k5, e3 88 _ (by omega) (by omega) (by omega) (by omega) (by omega)]
    · rw [fa 6 (by omega), k6, e3 90 _ (by omega) (by omega) (by omega) (by omega) (by omega)]
    · intro p hp
      rw [e1 _ _ d2 na1.1 na1.2.1 na1.2.2 (by omega), kp p hp, e3 89 _ (by omega) (by omega) (by omega) (by omega) (by omega)]
    · rcases hf with rfl | rfl
      · exact kL
      · rw [kR a 9 la (by omega)]
        refine rL_fr (fun s e x hx => ?_) (fun x hx => e3 _ _ (by omega) (by omega) (by omega) (by omega) (by omega)) (fun q' _ => e3 _ _ (by omega) (by omega) (by omega) (by omega) (by omega)) kl
        obtain ⟨s1, s2, s3, s4, s5, s6, s7, s8, s9, s10⟩ := ol s 9 (Or.inl rfl) (by omega) e
        rcases hx with rfl | rfl
        · exact ⟨kc _ s1, fun y => e1 _ y s9 s1 s3 s4 (by omega), fun y => kR _ y s1 (by omega)⟩
        · exact ⟨kc _ s2, fun y => e1 _ y s10 s2 s5 s6 (by omega), fun y => kR _ y s2 (by omega)⟩
    · rcases hf with rfl | rfl
      · rw [kR a 10 la (by omega)]
        refine rL_fr (fun s e x hx => ?_) (fun x hx => e3 _ _ (by omega) (by omega) (by omega) (by omega) (by omega)) (fun q' _ => e3 _ _ (by omega) (by omega) (by omega) (by omega) (by omega)) kf
        obtain ⟨s1, s2, s3, s4, s5, s6, s7, s8, s9, s10⟩ := ol s 10 (Or.inr rfl) (by omega) e
        rcases hx with rfl | rfl
        · exact ⟨kc _ s1, fun y => e1 _ y s9 s1 s3 s4 (by omega), fun y => kR _ y s1 (by omega)⟩
        · exact ⟨kc _ s2, fun y => e1 _ y s10 s2 s5 s6 (by omega), fun y => kR _ y s2 (by omega)⟩
      · exact kL
    · intro t ht
      rw [kR (a + 2) t la2 (by omega)]
      refine rT_keep (kt t ht) (fun x hd hx => ?_) (e3 99 _ (by omega) (by omega) (by omega) (by omega) (by omega)) (fun q' _ => e3 100 _ (by omega) (by omega) (by omega) (by omega) (by omega))
      have z : x < gi_n h ∧ x ≠ r ∧ x ≠ r + 1 := by
        rcases hx with e | ⟨m, hm, e⟩
        · exact nr _ _ _ e (by decide) (by decide) (by decide)
        · exact nr _ _ _ e (by decide) (by decide) (fun z => absurd z.1 (by decide))
      have z2 := (la_ne hN (x := x) (by
        rcases hx with e | e
        · exact Or.inr (Or.inr (Or.inl e))
        · exact Or.inr (Or.inr (Or.inr e)))).1
      exact ⟨kc _ z.1, fun y => e1 _ y hd z.1 z.2.1 z.2.2 (by omega), fun y => kR _ y z.1 (by omega)⟩
  · exact fun b hb => Or.inl (by rw [kR5] at hb; exact hb)
  · intro b x s hb hx h2
    rw [kR5, hr] at hb
    cases hb
    by_cases e : x = 9 + f
    · subst e
      have := kr s h2
      subst this
      rcases hl with e | ⟨-, e⟩
      · exact Or.inl ⟨hr, e⟩
      · exact Or.inr (by omega)
    · exact Or.inl ⟨hr, by rw [kR a x la (by omega)] at h2; exact h2⟩
  · intro b s hb h1 h2
    rw [kR5, hr] at hb
    cases hb
    rcases hf with rfl | rfl
    · have := kr s h1
      subst this
      rw [kR a 10 la (by omega)] at h2
      exact (ol s 10 (Or.inr rfl) (by omega) h2).2.2.1 rfl
    · have := kr s h2
      subst this
      rw [kR a 9 la (by omega)] at h1
      exact (ol s 9 (Or.inl rfl) (by omega) h1).2.2.1 rfl
  · exact rA_c (fun x y hx => e2 x y (by unfold dy; omega) (by omega) (by omega) (by omega)) (fun x y hx => e3 _ _ (by omega) (by omega) (by omega) (by omega) (by omega)) j5
  · exact sA_c (fun x y hx => e3 _ _ (by omega) (by omega) (by omega) (by omega) (by omega)) j10
  · exact rQ_c (fun x y h1 h2 => e2 x y (by unfold dy; omega) (by omega) (by omega) (by omega)) (fun x y h1 h2 => e3 _ _ (by omega) (by omega) (by omega) (by omega) (by omega)) j6
  · exact sQ_c (Nat.le_succ c) (fun x y h1 h2 => e3 _ _ (by omega) (by omega) (by omega) (by omega) (by omega)) j11
  · refine rB_fr (fun p _ => kR 7 p (by omega) (by unfold dy at d1; omega)) (fun x hd hx => ?_) (fun x y hx => e3 _ _ (by omega) (by omega) (by omega) (by omega) (by omega)) j9
    have z : x < gi_n h ∧ x ≠ r ∧ x ≠ r + 1 := by
      rcases hx with e | e
      · exact nr _ _ _ e (by decide) (by decide) (by decide)
      · exact nr _ _ _ e (by decide) (by decide) (by decide)
    have z2 := (bl_ne hN hx).1
    exact ⟨kc _ z.1, fun y => e1 _ y hd z.1 z.2.1 z.2.2 (by omega), fun y => kR _ y z.1 (by omega)⟩
  · obtain ⟨s1, s2, s3, s4⟩ := j12
    obtain ⟨g1, g2, g3, g4, g5, g6, g7, g8, g9⟩ := s1.2 n hn
    refine ⟨sN_at s1 hn (fun j _ => ⟨e3 _ _ (by omega) (by omega) (by omega) (by omega) (by omega), e3 _ _ (by omega) (by omega) (by omega) (by omega) (by omega)⟩) (fun j _ ne => ⟨fun x hx => e3 _ _ (by omega) (by omega) (by omega) (by omega) (by omega), fun p hp => e3 _ _ (by omega) (by omega) (by omega) (by omega) (by omega)⟩) ?_ ?_ ?_ ?_ ?_ ?_, sL_at (i := n) s2 (fun l hl ne => ⟨e3 _ _ (by omega) (by omega) (by omega) (by omega) (by omega), e3 _ _ (by omega) (by omega) (by omega) (by omega) (by omega), fun x h1 h2 => e3 _ _ (by omega) (by omega) (by omega) (by omega) (by omega), fun q hq => e3 _ _ (by omega) (by omega) (by omega) (by omega) (by omega)⟩) ?_ ?_, sT_c (fun x y hx => e3 _ _ (by omega) (by omega) (by omega) (by omega) (by omega)) s3, sB_c (fun x y hx => e3 _ _ (by omega) (by omega) (by omega) (by omega) (by omega)) s4⟩
    · rw [e3 _ _ (by omega) (by omega) (by omega) (by omega) (by omega)]; exact g4
    · rw [e3 _ _ (by omega) (by omega) (by omega) (by omega) (by omega)]; exact g5
    · exact hm
    · rw [e3 _ _ (by omega) (by omega) (by omega) (by omega) (by omega)]; exact g7
    · rw [e3 _ _ (by omega) (by omega) (by omega) (by omega) (by omega)]; exact g8
    · intro p hp
      rw [e3 _ _ (by omega) (by omega) (by omega) (by omega) (by omega)]; exact g9 p hp
    · rcases hf with rfl | rfl
      · exact sl
      · have := s2 (2 * n) (by omega)
        rw [show 2 * n / 2 = n by omega] at this
        unfold sL1
        rw [show 2 * n / 2 = n by omega, k87 rfl, al_at (S := gi_I h) (e3 95 _ (by omega) (by omega) (by omega) (by omega) (by omega)) (fun k hk => e3 98 _ (by omega) (by omega) (by omega) (by omega) (by omega)), e3 93 _ (by omega) (by omega) (by omega) (by omega) (by omega), e3 94 _ (by omega) (by omega) (by omega) (by omega) (by omega), e3 95 _ (by omega) (by omega) (by omega) (by omega) (by omega), e3 96 _ (by omega) (by omega) (by omega) (by omega) (by omega), e3 97 _ (by omega) (by omega) (by omega) (by omega) (by omega), e3 83 _ (by omega) (by omega) (by omega) (by omega) (by omega), gi_ct_c 32 0 (fun k _ hk => by rw [e3 98 _ (by omega) (by omega) (by omega) (by omega) (by omega)])]
        exact ⟨this.1, this.2.1, fun k hk => by rw [e3 98 _ (by omega) (by omega) (by omega) (by omega) (by omega)]; exact this.2.2.1 k hk, this.2.2.2⟩
    · rcases hf with rfl | rfl
      · have := s2 (2 * n + 1) (by omega)
        rw [show (2 * n + 1) / 2 = n by omega, show (2 * n + 1) % 2 = 1 by omega, if_neg (by omega)] at this
        unfold sL1
        rw [show (2 * n + 1) / 2 = n by omega, show (2 * n + 1) % 2 = 1 by omega, if_neg (by omega), al_at (S := gi_I h) (e3 95 _ (by omega) (by omega) (by omega) (by omega) (by omega)) (fun k hk => e3 98 _ (by omega) (by omega) (by omega) (by omega) (by omega)), e3 93 _ (by omega) (by omega) (by omega) (by omega) (by omega), e3 94 _ (by omega) (by omega) (by omega) (by omega) (by omega), e3 95 _ (by omega) (by omega) (by omega) (by omega) (by omega), e3 96 _ (by omega) (by omega) (by omega) (by omega) (by omega), e3 97 _ (by omega) (by omega) (by omega) (by omega) (by omega), e3 83 _ (by omega) (by omega) (by omega) (by omega) (by omega), gi_ct_c 32 0 (fun k _ hk => by rw [e3 98 _ (by omega) (by omega) (by omega) (by omega) (by omega)])]
        exact ⟨this.1, this.2.1, fun k hk => by rw [e3 98 _ (by omega) (by omega) (by omega) (by omega) (by omega)]; exact this.2.2.1 k hk, this.2.2.2⟩
      · exact sl

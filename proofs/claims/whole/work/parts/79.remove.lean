/-! remove: the invariant -/
set_option maxRecDepth 100000

def hit (S : gi_Z) (n y : Nat) : Bool := hs S n y 0 12 || decide (y < 256 ∧ S 90 n = nI y)
theorem hit_e {S : gi_Z} {n y : Nat} (hn : n < 64) : hit S n y = true ↔ ∃ x, x < 832 ∧ ((12 * n ≤ x ∧ x < 12 * n + 12) ∨ x = 768 + n) ∧ y < 256 ∧ ref_ S x = nI y := by
  unfold hit
  rw [Bool.or_eq_true, hs_e, decide_eq_true_iff]
  constructor
  · rintro (⟨q, h1, h2, h3, h4⟩ | ⟨h3, h4⟩)
    · exact ⟨12 * n + q, by omega, Or.inl ⟨by omega, by omega⟩, h3, by rw [refP (by omega)]; exact h4⟩
    · exact ⟨768 + n, by omega, Or.inr rfl, h3, by unfold ref_; rw [if_neg (by omega), show 768 + n - 768 = n by omega]; exact h4⟩
  · rintro ⟨x, h0, h1 | h1, h3, h4⟩
    · refine Or.inl ⟨x - 12 * n, by omega, by omega, h3, ?_⟩
      rw [refP (by omega)] at h4
      rw [show 12 * n + (x - 12 * n) = x by omega]; exact h4
    · subst h1
      refine Or.inr ⟨h3, ?_⟩
      unfold ref_ at h4
      rw [if_neg (by omega), show 768 + n - 768 = n by omega] at h4; exact h4
theorem j_rm {L : Nat} {xs : Nat → Int32} {c n a : Nat} {h K : gi_H} {V : gi_T} (J : jH L xs c h) (hn : n < 64) (h0 : 0 < n) (hr : gi_R h 5 n = some a) (hN : rN h (gi_I h) n a)
    (kn : gi_n K = gi_n h) (ku : gi_u K = gi_u h) (kc : ∀ x, gi_c K x = gi_c h x)
    (kR : ∀ x y, gi_R K x y = if x = 5 ∧ y = n then none else if x = 7 ∧ hit (gi_I h) n y = true then none else gi_R h x y)
    (kI : ∀ x y, ¬ (11 ≤ x ∧ x < 75) → ¬ (x = 83 ∧ y = n) → ¬ (x = 89 ∧ 12 * n ≤ y ∧ y < 12 * n + 12) → ¬ (x = 90 ∧ y = n) → x ≠ 91 → ¬ (x = 99 ∧ 32 * n ≤ y ∧ y < 32 * n + 32) → ¬ (x = 102 ∨ x = 103 ∨ x = 104 ∨ x = 105 ∨ x = 107 ∨ x = 108) → gi_I K x y = gi_I h x y)
    (v83 : gi_I K 83 n = 0) (v89 : ∀ p, p < 12 → gi_I K 89 (12 * n + p) = -1) (v90 : gi_I K 90 n = -1) (e91 : ∀ y, gi_I K 91 y = if hit (gi_I h) n y = true then 0 else gi_I h 91 y) (v99 : ∀ t, t < 32 → gi_I K 99 (32 * n + t) = -1)
    (nolie : ∀ j, 0 < j → j < 64 → 0 < (gi_I h 83 j).toInt → gi_I h 84 j ≠ nI n)
    (hq : qk h K V) (hV : ∀ p, p < 64 → iv (gi_I h 103 p) (32 * (c + 1 : Nat)) (V p)) : jH L xs (c + 1) K := by
  obtain ⟨j1, j2, j3, j4, j5, j6, j7, j8, j9, j10, j11, j12, j13, j14⟩ := id J
  obtain ⟨s1, s2, s3, s4⟩ := j12
  have rN7 : ∀ x y, x ≠ 7 → x ≠ 5 → gi_R K x y = gi_R h x y := fun x y hx h5 => by rw [kR, if_neg (fun w => h5 w.1), if_neg (fun w => hx w.1)]
  have k5 : gi_R K 5 n = none := by rw [kR, if_pos ⟨rfl, rfl⟩]
  have ed : ∀ x y, dy x → gi_I K x y = gi_I h x y := fun x y hd => by
    unfold dy at hd
    exact kI x y (by omega) (by omega) (by omega) (by omega) (by omega) (by omega) (by omega)
  have re : ∀ x, x < 832 → ref_ (gi_I K) x = if (12 * n ≤ x ∧ x < 12 * n + 12) ∨ x = 768 + n then -1 else ref_ (gi_I h) x := fun x hx => by
    unfold ref_
    by_cases w : x < 768
    · rw [if_pos w, if_pos w]
      by_cases w2 : 12 * n ≤ x ∧ x < 12 * n + 12
      · rw [if_pos (Or.inl w2)]
        have := v89 (x - 12 * n) (by omega)
        rw [show 12 * n + (x - 12 * n) = x by omega] at this
        exact this
      · rw [if_neg (by omega)]; exact kI 89 x (by omega) (by omega) (by omega) (by omega) (by omega) (by omega) (by omega)
    · rw [if_neg w, if_neg w]
      by_cases w2 : x = 768 + n
      · rw [if_pos (Or.inr w2), w2, show 768 + n - 768 = n by omega, v90]
      · rw [if_neg (by omega)]; exact kI 90 _ (by omega) (by omega) (by omega) (by omega) (by omega) (by omega) (by omega)
  refine jX_of J hn (by omega) (by omega) (by omega) (fun x hx => by rw [kc]; exact j2 x (by omega)) (fun x _ => kc x) (fun x y _ w2 w3 => rN7 x y w3 w2) (fun j _ hj => by rw [kR, if_neg (by omega), if_neg (by omega)]) (fun y => kI 0 y (by omega) (by omega) (by omega) (by omega) (by omega) (by omega) (by omega)) ?_ ?_ ?_ ?_ ?_ ?_ ?_ ?_ ?_ ?_ ?_ ?_
  · intro x hd _ _
    exact ⟨fun y => ed x y hd, fun y => rN7 x y (by unfold dy at hd; omega) (by unfold dy at hd; omega)⟩
  · intro j hj nj
    exact ⟨fun x hx => kI x j (by omega) (by omega) (by omega) (by omega) (by omega) (by omega) (by omega), fun p hp => kI _ _ (by omega) (by omega) (by omega) (by omega) (by omega) (by omega) (by omega), fun l x hl h1 h2 => kI _ _ (by omega) (by omega) (by omega) (by omega) (by omega) (by omega) (by omega), fun l q hl hq => kI _ _ (by omega) (by omega) (by omega) (by omega) (by omega) (by omega) (by omega), fun t ht => kI _ _ (by omega) (by omega) (by omega) (by omega) (by omega) (by omega) (by omega), fun t q ht hq => kI _ _ (by omega) (by omega) (by omega) (by omega) (by omega) (by omega) (by omega)⟩
  · rw [k5]
    exact ⟨fun _ => v83, fun b e => (by cases e)⟩
  · intro b e; rw [k5] at e; cases e
  · intro b x r e; rw [k5] at e; cases e
  · intro b r e; rw [k5] at e; cases e
  · exact rA_c (fun x y hx => kI x y (by omega) (by omega) (by omega) (by omega) (by omega) (by omega) (by omega)) (fun x y hx => kI x y (by omega) (by omega) (by omega) (by omega) (by omega) (by omega) (by omega)) j5
  · exact sA_c (fun x y hx => kI x y (by omega) (by omega) (by omega) (by omega) (by omega) (by omega) (by omega)) j10
  · exact rQ_k J hq
  · exact sQ_k J hq hV
  · refine ⟨fun q hq' => ?_, fun q q2 b h1 h2 h3 h4 => ?_⟩
    · rw [kR, if_neg (by omega), e91]
      by_cases w : hit (gi_I h) n q = true
      · rw [if_pos ⟨rfl, w⟩, if_pos w]
        exact ⟨fun _ => rfl, fun b e => (by cases e)⟩
      · rw [if_neg (fun z => w z.2), if_neg w]
        refine ⟨(j9.1 q hq').1, fun b hb => ?_⟩
        obtain ⟨o0, o1, o2, o3, o4, o5, o6⟩ := (j9.1 q hq').2 b hb
        exact ⟨o0, o1, o2, by rw [kc]; exact o3, by rw [rN7 _ _ (by unfold dy at o1; omega) (by unfold dy at o1; omega)]; exact o4, by rw [kc]; exact o5, fun j hj => by rw [ed _ _ o2, kI 92 _ (by omega) (by omega) (by omega) (by omega) (by omega) (by omega) (by omega)]; exact o6 j hj⟩
    · rw [kR, if_neg (by omega)] at h3 h4
      by_cases w : hit (gi_I h) n q = true
      · rw [if_pos ⟨rfl, w⟩] at h3; cases h3
      · by_cases w2 : hit (gi_I h) n q2 = true
        · rw [if_pos ⟨rfl, w2⟩] at h4; cases h4
        · rw [if_neg (fun z => w z.2)] at h3
          rw [if_neg (fun z => w2 z.2)] at h4
          exact j9.2 q q2 b h1 h2 h3 h4
  · refine ⟨⟨?_, fun j hj => ?_⟩, sL_at (i := n) s2 (fun l hl nl => ⟨kI _ _ (by omega) (by omega) (by omega) (by omega) (by omega) (by omega) (by omega), kI _ _ (by omega) (by omega) (by omega) (by omega) (by omega) (by omega) (by omega), fun x h1 h2 => kI _ _ (by omega) (by omega) (by omega) (by omega) (by omega) (by omega) (by omega), fun q hq => kI _ _ (by omega) (by omega) (by omega) (by omega) (by omega) (by omega) (by omega)⟩) ?_ ?_, ⟨fun j hj => ?_, fun j hj => ?_⟩, fun q hq' => ?_, fun x hx z1 => ?_, fun x y hx hy z1 z2 => ?_, fun i p k h1 h2 h3 z1 z2 => ?_⟩
    · rw [kI 83 0 (by omega) (by omega) (by omega) (by omega) (by omega) (by omega) (by omega)]; exact s1.1
    · obtain ⟨g1, g2, g3, g4, g5, g6, g7, g8, g9⟩ := s1.2 j hj
      rw [kI 84 j (by omega) (by omega) (by omega) (by omega) (by omega) (by omega) (by omega), kI 85 j (by omega) (by omega) (by omega) (by omega) (by omega) (by omega) (by omega), kI 86 j (by omega) (by omega) (by omega) (by omega) (by omega) (by omega) (by omega), kI 87 j (by omega) (by omega) (by omega) (by omega) (by omega) (by omega) (by omega), kI 88 j (by omega) (by omega) (by omega) (by omega) (by omega) (by omega) (by omega)]
      by_cases e : j = n
      · subst e
        rw [v83, v90]
        refine ⟨by decide, g2, fun z => absurd z (by decide), g4, g5, g6, g7, by decide, fun p hp => ?_⟩
        rw [v89 p hp]
        exact ⟨by decide, fun _ => rfl⟩
      · rw [kI 83 j (by omega) (by omega) (by omega) (by omega) (by omega) (by omega) (by omega), kI 90 j (by omega) (by omega) (by omega) (by omega) (by omega) (by omega) (by omega)]
        refine ⟨g1, g2, fun z => ⟨?_, (g3 z).2⟩, g4, g5, g6, g7, g8, fun p hp => by rw [kI 89 _ (by omega) (by omega) (by omega) (by omega) (by omega) (by omega) (by omega)]; exact g9 p hp⟩
        obtain ⟨t, ht, et⟩ := vp_in_of g2 (by omega)
        have q := (g3 z).1
        have q2 := (g3 z).2
        rw [et, nI_clamp (by omega)] at q ⊢
        by_cases e2 : t = n
        · exfalso
          by_cases e3 : j = 0
          · have := q2 e3
            rw [et, e2] at this
            have := (nI_eq (a := n) (b := 0) (by omega) (by omega)).mp this
            omega
          · exact nolie j (by omega) hj z (by rw [et, e2])
        · rw [kI 83 t (by omega) (by omega) (by omega) (by omega) (by omega) (by omega) (by omega)]; exact q
    · obtain ⟨q1, q2, q3, -⟩ := s2 (2 * n) (by omega)
      unfold sL1
      rw [show 2 * n / 2 = n by omega, v83, kI 93 _ (by omega) (by omega) (by omega) (by omega) (by omega) (by omega) (by omega), kI 95 _ (by omega) (by omega) (by omega) (by omega) (by omega) (by omega) (by omega), kI 96 _ (by omega) (by omega) (by omega) (by omega) (by omega) (by omega) (by omega), kI 97 _ (by omega) (by omega) (by omega) (by omega) (by omega) (by omega) (by omega)]
      exact ⟨q1, q2, fun k hk => by rw [kI 98 _ (by omega) (by omega) (by omega) (by omega) (by omega) (by omega) (by omega)]; exact q3 k hk, fun z => absurd z (by decide)⟩
    · obtain ⟨q1, q2, q3, -⟩ := s2 (2 * n + 1) (by omega)
      unfold sL1
      rw [show (2 * n + 1) / 2 = n by omega, v83, kI 93 _ (by omega) (by omega) (by omega) (by omega) (by omega) (by omega) (by omega), kI 95 _ (by omega) (by omega) (by omega) (by omega) (by omega) (by omega) (by omega), kI 96 _ (by omega) (by omega) (by omega) (by omega) (by omega) (by omega) (by omega), kI 97 _ (by omega) (by omega) (by omega) (by omega) (by omega) (by omega) (by omega)]
      exact ⟨q1, q2, fun k hk => by rw [kI 98 _ (by omega) (by omega) (by omega) (by omega) (by omega) (by omega) (by omega)]; exact q3 k hk, fun z => absurd z (by decide)⟩
    · by_cases w : 32 * n ≤ j ∧ j < 32 * n + 32
      · have := v99 (j - 32 * n) (by omega)
        rw [show 32 * n + (j - 32 * n) = j by omega] at this
        rw [this]; decide
      · rw [kI 99 j (by omega) (by omega) (by omega) (by omega) (by omega) (by omega) (by omega)]; exact s3.1 j hj
    · by_cases e : j = n
      · subst e
        refine ⟨⟨0, 0, ly_m1 32 0 0 0 (fun q _ hq => v99 q (by omega)), by rw [v90]; decide⟩, fun _ t ht => v99 t ht⟩
      · obtain ⟨⟨t, s, q1, q2⟩, q3⟩ := s3.2 j hj
        refine ⟨⟨t, s, ?_, by rw [kI 90 j (by omega) (by omega) (by omega) (by omega) (by omega) (by omega) (by omega)]; exact q2⟩, fun z t' ht' => ?_⟩
        · rw [← q1]
          exact ly_c 32 0 0 0 (fun q _ hq => kI 99 _ (by omega) (by omega) (by omega) (by omega) (by omega) (by omega) (by omega))
        · rw [kI 83 j (by omega) (by omega) (by omega) (by omega) (by omega) (by omega) (by omega)] at z
          rw [kI 99 _ (by omega) (by omega) (by omega) (by omega) (by omega) (by omega) (by omega)]; exact q3 z t' ht'
    · rw [e91]
      split
      · exact Or.inl rfl
      · exact s4.1 q hq'
    · rw [re x hx] at z1 ⊢
      by_cases w : (12 * n ≤ x ∧ x < 12 * n + 12) ∨ x = 768 + n
      · rw [if_pos w] at z1; exact absurd z1 (by decide)
      · rw [if_neg w] at z1 ⊢
        rw [e91, if_neg]
        · exact s4.2.1 x hx z1
        · intro e
          obtain ⟨x', q1, q2, q3, q4⟩ := (hit_e hn).mp e
          obtain ⟨t, ht, et⟩ := nI_of (x := ref_ (gi_I h) x) (by rw [i32_lt, ti_0]; omega)
          rw [et, nI_clamp ht] at q3 q4
          have := s4.2.2.1 x x' hx q1 z1 (by rw [et, q4])
          subst this
          exact w q2
    · rw [re x hx] at z1 z2
      rw [re y hy] at z2
      by_cases w : (12 * n ≤ x ∧ x < 12 * n + 12) ∨ x = 768 + n
      · rw [if_pos w] at z1; exact absurd z1 (by decide)
      · rw [if_neg w] at z1 z2
        by_cases w2 : (12 * n ≤ y ∧ y < 12 * n + 12) ∨ y = 768 + n
        · rw [if_pos w2] at z2; rw [z2] at z1; exact absurd z1 (by decide)
        · rw [if_neg w2] at z2
          exact s4.2.2.1 x y hx hy z1 z2
    · rw [kI 92 _ (by omega) (by omega) (by omega) (by omega) (by omega) (by omega) (by omega)]
      by_cases e : i = n
      · subst e
        rw [v89 p h2] at z1
        exact absurd z1 (by decide)
      · rw [kI 89 _ (by omega) (by omega) (by omega) (by omega) (by omega) (by omega) (by omega)] at z1 ⊢
        rw [kI 88 i (by omega) (by omega) (by omega) (by omega) (by omega) (by omega) (by omega)] at z2
        exact s4.2.2.2 i p k h1 h2 h3 z1 z2

/-! blocks: taken and given back; an attribute told anew -/
set_option maxRecDepth 100000

theorem ref_r {S : gi_Z} (sn : sN S) {x : Nat} (hx : x < 832) : -1 ≤ (ref_ S x).toInt ∧ (ref_ S x).toInt ≤ 255 := by
  unfold ref_
  by_cases w : x < 768
  · rw [if_pos w]
    have := ((sn.2 (x / 12) (by omega)).2.2.2.2.2.2.2.2 (x % 12) (by omega)).1
    rw [show 12 * (x / 12) + x % 12 = x by omega] at this
    exact this
  · rw [if_neg w]
    exact (sn.2 (x - 768) (by omega)).2.2.2.2.2.2.2.1
/-- a block given back -/
theorem blk_rel {h K : gi_H} {b x0 : Nat} (hB : rB h (gi_I h)) (hs : sB (gi_I h)) (hx0 : x0 < 832) (hb : b < 256) (e0 : ref_ (gi_I h) x0 = nI b)
    (k7 : ∀ y, y < 256 → gi_R K 7 y = if y = b then none else gi_R h 7 y) (fr : ∀ x, dy x → gi_c h x = (8, 0) ∨ gi_c h x = (101, 64) → gi_c K x = gi_c h x ∧ (∀ y, gi_I K x y = gi_I h x y) ∧ (∀ y, gi_R K x y = gi_R h x y))
    (er : ∀ x, x < 832 → ref_ (gi_I K) x = if x = x0 then -1 else ref_ (gi_I h) x) (e91 : ∀ y, gi_I K 91 y = if y = b then 0 else gi_I h 91 y) (e92 : ∀ y, gi_I K 92 y = gi_I h 92 y) (e88 : ∀ j, j < 64 → gi_I K 88 j = gi_I h 88 j) : rB K (gi_I K) ∧ sB (gi_I K) := by
  refine ⟨⟨fun q hq' => ?_, fun q q2 B h1 h2 h3 h4 => ?_⟩, fun q hq' => ?_, fun x hx z1 => ?_, fun x y hx hy z1 z2 => ?_, fun i p k h1 h2 h3 z1 z2 => ?_⟩
  · rw [k7 q hq', e91]
    by_cases w : q = b
    · rw [if_pos w, if_pos w]
      exact ⟨fun _ => rfl, fun b e => (by cases e)⟩
    · rw [if_neg w, if_neg w]
      refine ⟨(hB.1 q hq').1, fun B hb => ?_⟩
      obtain ⟨o0, o1, o2, o3, o4, o5, o6⟩ := (hB.1 q hq').2 B hb
      obtain ⟨p1, p2, p3⟩ := fr B o1 (Or.inl o3)
      obtain ⟨q1, q2, q3⟩ := fr (B + 1) o2 (Or.inr o5)
      exact ⟨o0, o1, o2, by rw [p1]; exact o3, by rw [p3]; exact o4, by rw [q1]; exact o5, fun j hj => by rw [q2, e92]; exact o6 j hj⟩
  · rw [k7 q h1] at h3
    rw [k7 q2 h2] at h4
    by_cases w : q = b
    · rw [if_pos w] at h3; cases h3
    · by_cases w2 : q2 = b
      · rw [if_pos w2] at h4; cases h4
      · rw [if_neg w] at h3
        rw [if_neg w2] at h4
        exact hB.2 q q2 B h1 h2 h3 h4
  · rw [e91]
    split
    · exact Or.inl rfl
    · exact hs.1 q hq'
  · rw [er x hx] at z1 ⊢
    by_cases w : x = x0
    · rw [if_pos w] at z1; exact absurd z1 (by decide)
    · rw [if_neg w] at z1 ⊢
      rw [e91, if_neg]
      · exact hs.2.1 x hx z1
      · intro e
        obtain ⟨t, ht, et⟩ := nI_of (x := ref_ (gi_I h) x) (by rw [i32_lt, ti_0]; omega)
        rw [et, nI_clamp ht] at e
        exact w (hs.2.2.1 x x0 hx hx0 z1 (by rw [et, e0, e]))
  · rw [er x hx] at z1 z2
    rw [er y hy] at z2
    by_cases w : x = x0
    · rw [if_pos w] at z1; exact absurd z1 (by decide)
    · rw [if_neg w] at z1 z2
      by_cases w2 : y = x0
      · rw [if_pos w2] at z2; rw [z2] at z1; exact absurd z1 (by decide)
      · rw [if_neg w2] at z2
        exact hs.2.2.1 x y hx hy z1 z2
  · have e := er (12 * i + p) (by omega)
    rw [refP (by omega), refP (by omega)] at e
    rw [e92]
    rw [e] at z1 ⊢
    rw [e88 i h1] at z2
    by_cases w : 12 * i + p = x0
    · rw [if_pos w] at z1; exact absurd z1 (by decide)
    · rw [if_neg w] at z1 ⊢
      exact hs.2.2.2 i p k h1 h2 h3 z1 z2
/-- a block taken -/
theorem blk_cl {h K : gi_H} {b B x0 : Nat} (hB : rB h (gi_I h)) (hs : sB (gi_I h)) (hx0 : x0 < 832) (hb : b < 256) (u0 : gi_I h 91 b = 0) (bn : ∀ q Q, q < 256 → gi_R h 7 q = some Q → Q ≠ B) (dB : dy B) (dB1 : dy (B + 1)) (cB : gi_c K B = (8, 0)) (cB1 : gi_c K (B + 1) = (101, 64)) (rB0 : gi_R K B 0 = some (B + 1)) (iB : ∀ j, j < 64 → gi_I K (B + 1) j = 0)
    (k7 : ∀ y, y < 256 → gi_R K 7 y = if y = b then some B else gi_R h 7 y) (fr : ∀ q Q, q < 256 → gi_R h 7 q = some Q → ∀ x, x = Q ∨ x = Q + 1 → gi_c K x = gi_c h x ∧ (∀ y, gi_I K x y = gi_I h x y) ∧ (∀ y, gi_R K x y = gi_R h x y))
    (er : ∀ x, x < 832 → ref_ (gi_I K) x = if x = x0 then nI b else ref_ (gi_I h) x) (e91 : ∀ y, gi_I K 91 y = if y = b then 1 else gi_I h 91 y) (e92 : ∀ y, gi_I K 92 y = if 64 * b ≤ y ∧ y < 64 * b + 64 then 0 else gi_I h 92 y) (e88 : ∀ j, j < 64 → gi_I K 88 j = gi_I h 88 j) (rr : ∀ x, x < 832 → -1 ≤ (ref_ (gi_I h) x).toInt ∧ (ref_ (gi_I h) x).toInt ≤ 255) : rB K (gi_I K) ∧ sB (gi_I K) := by
  have nb : ∀ x, x < 832 → ref_ (gi_I h) x ≠ nI b := fun x hx e => by
    have := hs.2.1 x hx (by rw [e, nI_toInt (by omega)]; omega)
    rw [e, nI_clamp (by omega), u0] at this
    exact absurd this (by decide)
  refine ⟨⟨fun q hq' => ?_, fun q q2 Q h1 h2 h3 h4 => ?_⟩, fun q hq' => ?_, fun x hx z1 => ?_, fun x y hx hy z1 z2 => ?_, fun i p k h1 h2 h3 z1 z2 => ?_⟩
  · rw [k7 q hq', e91]
    by_cases w : q = b
    · rw [if_pos w, if_pos w]
      refine ⟨fun e => (by cases e), fun Q e => ?_⟩
      cases e
      exact ⟨rfl, dB, dB1, cB, rB0, cB1, fun j hj => by rw [iB j hj, e92, if_pos (by omega)]⟩
    · rw [if_neg w, if_neg w]
      refine ⟨(hB.1 q hq').1, fun Q hQ => ?_⟩
      obtain ⟨o0, o1, o2, o3, o4, o5, o6⟩ := (hB.1 q hq').2 Q hQ
      obtain ⟨p1, p2, p3⟩ := fr q Q hq' hQ Q (Or.inl rfl)
      obtain ⟨q1, q2, q3⟩ := fr q Q hq' hQ (Q + 1) (Or.inr rfl)
      exact ⟨o0, o1, o2, by rw [p1]; exact o3, by rw [p3]; exact o4, by rw [q1]; exact o5, fun j hj => by rw [q2, e92, if_neg (by omega)]; exact o6 j hj⟩
  · rw [k7 q h1] at h3
    rw [k7 q2 h2] at h4
    by_cases w : q = b
    · by_cases w2 : q2 = b
      · rw [w, w2]
      · rw [if_pos w] at h3
        rw [if_neg w2] at h4
        cases h3
        exact absurd rfl (bn q2 _ h2 h4)
    · rw [if_neg w] at h3
      by_cases w2 : q2 = b
      · rw [if_pos w2] at h4
        cases h4
        exact absurd rfl (bn q _ h1 h3)
      · rw [if_neg w2] at h4
        exact hB.2 q q2 Q h1 h2 h3 h4
  · rw [e91]
    split
    · exact Or.inr rfl
    · exact hs.1 q hq'
  · rw [er x hx] at z1 ⊢
    by_cases w : x = x0
    · rw [if_pos w, nI_clamp (by omega), e91, if_pos rfl]
    · rw [if_neg w] at z1 ⊢
      rw [e91]
      split
      · rfl
      · exact hs.2.1 x hx z1
  · rw [er x hx] at z1 z2
    rw [er y hy] at z2
    by_cases w : x = x0
    · by_cases w2 : y = x0
      · rw [w, w2]
      · rw [if_pos w, if_neg w2] at z2
        exact absurd z2.symm (nb y hy)
    · rw [if_neg w] at z1 z2
      by_cases w2 : y = x0
      · rw [if_pos w2] at z2
        exact absurd z2 (nb x hx)
      · rw [if_neg w2] at z2
        exact hs.2.2.1 x y hx hy z1 z2
  · have e := er (12 * i + p) (by omega)
    rw [refP (by omega), refP (by omega)] at e
    rw [e] at z1 ⊢
    rw [e88 i h1] at z2
    by_cases w : 12 * i + p = x0
    · rw [if_pos w, nI_clamp (by omega), e92, if_pos (by omega)]
    · rw [if_neg w] at z1 ⊢
      obtain ⟨t, ht, et⟩ := nI_of (x := gi_I h 89 (12 * i + p)) (by rw [i32_lt, ti_0]; omega)
      have r := rr (12 * i + p) (by omega)
      have n' := nb (12 * i + p) (by omega)
      rw [refP (by omega), et] at n'
      rw [refP (by omega), et, nI_toInt ht] at r
      have q := hs.2.2.2 i p k h1 h2 h3 z1 z2
      rw [et, nI_clamp ht] at q ⊢
      rw [e92, if_neg]
      · exact q
      · rintro ⟨w1, w2⟩
        exact n' (by rw [show t = b by omega])
/-- an attribute told anew -/
theorem j_at {L : Nat} {xs : Nat → Int32} {c n a t : Nat} {h K : gi_H} {V : gi_T} (J : jH L xs c h) (hn : n < 64) (hr : gi_R h 5 n = some a) (hN : rN h (gi_I h) n a) (ht : t < 32)
    (kn1 : gi_n h ≤ gi_n K) (kn2 : gi_n K ≤ gi_n h + 16) (ku : gi_u K ≤ gi_u h + 1000) (kF : rF K) (kc : ∀ x, x < gi_n h → gi_c K x = gi_c h x)
    (kR : ∀ x y, x < gi_n h → ¬ (x = a + 2 ∧ y = t) → x ≠ 7 → gi_R K x y = gi_R h x y)
    (kI : ∀ x y, x < gi_n h → x ≠ 1 → x ≠ 79 → ¬ (11 ≤ x ∧ x < 75) → ¬ (x = a ∧ y = 6) → ¬ (x = 90 ∧ y = n) → x ≠ 91 → x ≠ 92 → ¬ (x = 99 ∧ y = 32 * n + t) → ¬ (x = 100 ∧ 60 * (32 * n + t) ≤ y ∧ y < 60 * (32 * n + t) + 60) → ¬ (102 ≤ x ∧ x ≤ 105) → x ≠ 107 → x ≠ 108 → gi_I K x y = gi_I h x y)
    (k6 : gi_I K a 6 = gi_I K 90 n) (b5 : -1 ≤ (gi_I K 90 n).toInt ∧ (gi_I K 90 n).toInt ≤ 255)
    (hT : rT K (gi_I K) (32 * n + t) (gi_R K (a + 2) t)) (r99 : -1 ≤ (gi_I K 99 (32 * n + t)).toInt ∧ (gi_I K 99 (32 * n + t)).toInt ≤ 60)
    {t1 s1 : Nat} (ey : ly_ (fun j => gi_I K 99 (32 * n + j)) 0 32 0 0 = some (t1, s1)) (es : 0 ≤ (gi_I K 90 n).toInt ↔ 0 < s1)
    (hrA : rA K (gi_I K)) (hsA : sA (gi_I K)) (hq : qk h K V) (hV : ∀ p, p < 64 → iv (gi_I h 103 p) (32 * (c + 1 : Nat)) (V p)) (hB : rB K (gi_I K)) (hsB : sB (gi_I K)) : jH L xs (c + 1) K := by
  obtain ⟨j1, j2, j3, j4, j5, j6, j7, j8, j9, j10, j11, j12, j13, j14⟩ := id J
  obtain ⟨d1, d2, d3, c1, c2, c3, f7, f8, k0, k1, k2, k3, k4, k5, k6', kp, kl, kf, kt⟩ := id hN
  obtain ⟨s1', s2, s3, s4⟩ := j12
  have h109 := j1.1
  have dd1 := d1
  have dd2 := d2
  have dd3 := d3
  unfold dy at dd1 dd2 dd3
  have lt : ∀ x, gi_c h x ≠ (0, 0) → x < gi_n h := fun x hx => Nat.lt_of_not_le (fun w => hx (j2 x w))
  have la := lt a (by rw [c1]; decide)
  have la1 := lt (a + 1) (by rw [c2]; decide)
  have la2 := lt (a + 2) (by rw [c3]; decide)
  have e3 : ∀ x y, x < 109 → x ≠ 1 → x ≠ 79 → ¬ (11 ≤ x ∧ x < 75) → ¬ (x = 90 ∧ y = n) → x ≠ 91 → x ≠ 92 → ¬ (x = 99 ∧ y = 32 * n + t) → ¬ (x = 100 ∧ 60 * (32 * n + t) ≤ y ∧ y < 60 * (32 * n + t) + 60) → ¬ (102 ≤ x ∧ x ≤ 105) → x ≠ 107 → x ≠ 108 → ¬ dy x → gi_I K x y = gi_I h x y := fun x y w0 w1 w2 w3 w4 w5 w6 w7 w8 w9 w10 w11 w12 => kI x y (by omega) w1 w2 w3 (fun z => w12 (by rw [z.1]; exact d1)) w4 w5 w6 w7 w8 w9 w10 w11
  have ed : ∀ x y, dy x → x < gi_n h → ¬ (x = a ∧ y = 6) → gi_I K x y = gi_I h x y := fun x y hd hx w => by
    unfold dy at hd
    exact kI x y hx (by omega) (by omega) (by omega) w (by omega) (by omega) (by omega) (by omega) (by omega) (by omega) (by omega) (by omega)
  have E : ∀ x y, 79 < x → x < 101 → ¬ (x = 90 ∧ y = n) → x ≠ 91 → x ≠ 92 → ¬ (x = 99 ∧ y = 32 * n + t) → ¬ (x = 100 ∧ 60 * (32 * n + t) ≤ y ∧ y < 60 * (32 * n + t) + 60) → gi_I K x y = gi_I h x y := fun x y w1 w2 w3 w4 w5 w6 w7 => e3 x y (by omega) (by omega) (by omega) (by omega) w3 w4 w5 w6 w7 (by omega) (by omega) (by omega) (by unfold dy; omega)
  have k5' : gi_R K 5 n = some a := by rw [kR 5 n (by omega) (by omega) (by omega)]; exact hr
  refine jX_of J hn kn1 kn2 ku kF (fun x hx => kc x (lt x hx)) (fun x y w1 w2 w3 => kR x y (by unfold dy at w1; omega) (fun z => w1 (by rw [z.1]; exact d3)) w3) (fun j _ _ => kR 5 j (by omega) (by omega) (by omega)) (fun y => e3 0 y (by omega) (by omega) (by omega) (by omega) (by omega) (by omega) (by omega) (by omega) (by omega) (by omega) (by omega) (by omega) (by unfold dy; omega)) ?_ ?_ ?_ ?_ ?_ ?_ hrA hsA (rQ_k J hq) (sQ_k J hq hV) hB ?_
  · intro x hd hx hh
    have l0 := lt x hx
    have x1 : x ≠ a := fun e => hh (Or.inr ⟨a, hr, Or.inl e⟩)
    have x2 : x ≠ a + 2 := fun e => hh (Or.inr ⟨a, hr, Or.inr (Or.inr (Or.inl e))⟩)
    exact ⟨fun y => ed x y hd l0 (by omega), fun y => kR x y l0 (by omega) (by unfold dy at hd; omega)⟩
  · intro j hj nj
    exact ⟨fun x hx => E x j (by omega) (by omega) (by omega) (by omega) (by omega) (by omega) (by omega), fun p hp => E _ _ (by omega) (by omega) (by omega) (by omega) (by omega) (by omega) (by omega), fun l x hl h1 h2 => E _ _ (by omega) (by omega) (by omega) (by omega) (by omega) (by omega) (by omega), fun l q hl hq => E _ _ (by omega) (by omega) (by omega) (by omega) (by omega) (by omega) (by omega), fun q hq => E _ _ (by omega) (by omega) (by omega) (by omega) (by omega) (by omega) (by omega), fun q r hq hr' => E _ _ (by omega) (by omega) (by omega) (by omega) (by omega) (by omega) (by omega)⟩
  · rw [k5', E 83 n (by omega) (by omega) (by omega) (by omega) (by omega) (by omega) (by omega)]
    refine ⟨fun e => (by cases e), fun b e => ?_⟩
    cases e
    refine ⟨((j7 n hn).2 a hr).1, ?_⟩
    have lz : ∀ x, (gi_c h x = (6, 0) ∨ gi_c h x = (100, 32)) → x < gi_n h := fun x hx => lt x (by rcases hx with e | e <;> rw [e] <;> decide)
    refine rN_own2 hN (fun x hd hx => ?_) (kc _ la) (kc _ la1) (kc _ la2) (fun y => kR a y la (by omega) (by omega)) ?_ ?_ ?_ ?_ ?_ ?_ k6 ?_ ?_ ?_ ?_
    · have z := la_ne hN (x := x) (by rcases hx with e | e; exact Or.inl e; exact Or.inr (Or.inl e))
      exact ⟨kc x (lz x hx), fun y => ed x y hd (lz x hx) (fun w => z.1 w.1), fun y => kR x y (lz x hx) (fun w => z.2.2.1 w.1) (by unfold dy at hd; omega)⟩
    · rw [ed a 0 d1 la (by omega), k0, E 83 n (by omega) (by omega) (by omega) (by omega) (by omega) (by omega) (by omega)]
    · rw [ed a 1 d1 la (by omega), k1, E 84 n (by omega) (by omega) (by omega) (by omega) (by omega) (by omega) (by omega)]
    · rw [ed a 2 d1 la (by omega), k2, E 85 n (by omega) (by omega) (by omega) (by omega) (by omega) (by omega) (by omega)]
    · rw [ed a 3 d1 la (by omega), k3, E 86 n (by omega) (by omega) (by omega) (by omega) (by omega) (by omega) (by omega)]
    · rw [ed a 4 d1 la (by omega), k4, E 87 n (by omega) (by omega) (by omega) (by omega) (by omega) (by omega) (by omega)]
    · rw [ed a 5 d1 la (by omega), k5, E 88 n (by omega) (by omega) (by omega) (by omega) (by omega) (by omega) (by omega)]
    · intro p hp
      rw [ed (a + 1) p d2 la1 (by omega), kp p hp, E 89 _ (by omega) (by omega) (by omega) (by omega) (by omega) (by omega) (by omega)]
    · exact fun l x hl hx => E _ _ (by omega) (by omega) (by omega) (by omega) (by omega) (by omega) (by omega)
    · exact fun l q hl hq => E _ _ (by omega) (by omega) (by omega) (by omega) (by omega) (by omega) (by omega)
    · intro t' ht'
      by_cases e : t' = t
      · subst e; exact hT
      · rw [kR (a + 2) t' la2 (by omega) (by omega)]
        refine rT_keep (kt t' ht') (fun x hd hx => ?_) (E 99 _ (by omega) (by omega) (by omega) (by omega) (by omega) (by omega) (by omega)) (fun q _ => E 100 _ (by omega) (by omega) (by omega) (by omega) (by omega) (by omega) (by omega))
        have lx : x < gi_n h := lt x (by rcases hx with e | ⟨m, -, e⟩ <;> rw [e] <;> simp)
        have z := la_ne hN (x := x) (by rcases hx with e | e; exact Or.inr (Or.inr (Or.inl e)); exact Or.inr (Or.inr (Or.inr e)))
        exact ⟨kc x lx, fun y => ed x y hd lx (fun w => z.1 w.1), fun y => kR x y lx (fun w => z.2.2.1 w.1) (by unfold dy at hd; omega)⟩
  · exact fun b hb => Or.inl (by rw [k5'] at hb; rw [hr]; exact hb)
  · intro b x r hb hx h2
    rw [k5'] at hb
    cases hb
    exact Or.inl ⟨hr, by rw [kR a x la (by omega) (by omega)] at h2; exact h2⟩
  · intro b r hb h1 h2
    rw [k5'] at hb
    cases hb
    rw [kR a 9 la (by omega) (by omega)] at h1
    rw [kR a 10 la (by omega) (by omega)] at h2
    exact absurd (j8.2 n n a a 9 10 r hn hn hr hr (Or.inl rfl) (Or.inr rfl) h1 h2).2 (by decide)
  · obtain ⟨g1, g2, g3, g4, g5, g6, g7, g8, g9⟩ := s1'.2 n hn
    refine ⟨sN_at s1' hn (fun j _ => ⟨E _ _ (by omega) (by omega) (by omega) (by omega) (by omega) (by omega) (by omega), E _ _ (by omega) (by omega) (by omega) (by omega) (by omega) (by omega) (by omega)⟩) (fun j _ nj => ⟨fun x hx => E _ _ (by omega) (by omega) (by omega) (by omega) (by omega) (by omega) (by omega), fun p hp => E _ _ (by omega) (by omega) (by omega) (by omega) (by omega) (by omega) (by omega)⟩) ?_ ?_ ?_ ?_ b5 ?_, sL_c (fun x y hx => E x y (by omega) (by omega) (by omega) (by omega) (by omega) (by omega) (by omega)) s2, ⟨fun j hj => ?_, fun j hj => ?_⟩, hsB⟩
    · rw [E _ _ (by omega) (by omega) (by omega) (by omega) (by omega) (by omega) (by omega)]; exact g4
    · rw [E _ _ (by omega) (by omega) (by omega) (by omega) (by omega) (by omega) (by omega)]; exact g5
    · rw [E _ _ (by omega) (by omega) (by omega) (by omega) (by omega) (by omega) (by omega)]; exact g6
    · rw [E _ _ (by omega) (by omega) (by omega) (by omega) (by omega) (by omega) (by omega)]; exact g7
    · intro p hp
      rw [E _ _ (by omega) (by omega) (by omega) (by omega) (by omega) (by omega) (by omega)]; exact g9 p hp
    · by_cases e : j = 32 * n + t
      · rw [e]; exact r99
      · rw [E 99 j (by omega) (by omega) (by omega) (by omega) (by omega) (by omega) (by omega)]; exact s3.1 j hj
    · by_cases e : j = n
      · subst e
        refine ⟨⟨t1, s1, ey, es⟩, fun z => ?_⟩
        rw [E 83 j (by omega) (by omega) (by omega) (by omega) (by omega) (by omega) (by omega)] at z
        have := ((j7 j hn).2 a hr).1
        rw [z] at this
        exact absurd this (by decide)
      · obtain ⟨⟨t', s', q1, q2⟩, q3⟩ := s3.2 j hj
        rw [E 83 j (by omega) (by omega) (by omega) (by omega) (by omega) (by omega) (by omega), E 90 j (by omega) (by omega) (by omega) (by omega) (by omega) (by omega) (by omega)]
        refine ⟨⟨t', s', ?_, q2⟩, fun z a' ha' => ?_⟩
        · rw [← q1]
          exact ly_c 32 0 0 0 (fun q _ hq => E 99 _ (by omega) (by omega) (by omega) (by omega) (by omega) (by omega) (by omega))
        · rw [E 99 _ (by omega) (by omega) (by omega) (by omega) (by omega) (by omega) (by omega)]; exact q3 z a' ha'

/-! resize: the invariant -/
set_option maxRecDepth 100000

theorem j_cut {L : Nat} {xs : Nat → Int32} {c n a z p0 : Nat} {h K : gi_H} {V : gi_T} (J : jH L xs c h) (hn : n < 64) (hr : gi_R h 5 n = some a) (hN : rN h (gi_I h) n a) (hz : z ≤ 768) (ep : p0 = (z + 63) / 64)
    (kn : gi_n K = gi_n h) (ku : gi_u K = gi_u h) (kc : ∀ x, gi_c K x = gi_c h x)
    (kR : ∀ x y, gi_R K x y = if x = 7 ∧ hs (gi_I h) n y p0 (12 - p0) = true then none else gi_R h x y)
    (e0 : ∀ x y, x < 76 → ¬ (11 ≤ x ∧ x < 75) → gi_I K x y = gi_I h x y)
    (e1 : ∀ x y, dy x → x ≠ a → x ≠ a + 1 → gi_c h x ≠ (101, 64) → gi_I K x y = gi_I h x y)
    (em : ∀ x y, (79 ≤ x ∧ x ≤ 87) ∨ x = 90 ∨ (93 ≤ x ∧ x ≤ 101) ∨ x = 106 → gi_I K x y = gi_I h x y)
    (e88 : ∀ j, j ≠ n → gi_I K 88 j = gi_I h 88 j) (v88 : gi_I K 88 n = nI z)
    (e89 : ∀ i, gi_I K 89 i = if 12 * n + p0 ≤ i ∧ i < 12 * n + 12 then -1 else gi_I h 89 i)
    (e91 : ∀ y, gi_I K 91 y = if hs (gi_I h) n y p0 (12 - p0) = true then 0 else gi_I h 91 y)
    (fa : ∀ y, y ≠ 5 → gi_I K a y = gi_I h a y) (f5 : gi_I K a 5 = nI z) (fp : ∀ p, p < 12 → gi_I K (a + 1) p = if p0 ≤ p then -1 else gi_I h (a + 1) p)
    (kB : ∀ q B, q < 256 → gi_R h 7 q = some B → hs (gi_I h) n q p0 (12 - p0) = false → ∀ j, j < 64 → gi_I K (B + 1) j = gi_I K 92 (64 * q + j))
    (k92 : ∀ q j, q < 256 → j < 64 → gi_I K 92 (64 * q + j) = gi_I h 92 (64 * q + j) ∨ gi_I K 92 (64 * q + j) = 0)
    (kz : ∀ p k b, p < p0 → k < 64 → z ≤ 64 * p + k → b < 256 → gi_I h 89 (12 * n + p) = nI b → gi_I K 92 (64 * b + k) = 0)
    (hq : qk h K V) (hV : ∀ p, p < 64 → iv (gi_I h 103 p) (32 * (c + 1 : Nat)) (V p)) : jH L xs (c + 1) K := by
  obtain ⟨j1, j2, j3, j4, j5, j6, j7, j8, j9, j10, j11, j12, j13, j14⟩ := id J
  obtain ⟨d1, d2, d3, c1, c2, c3, f7, f8, k0, k1, k2, k3, k4, k5, k6, kp, kl, kf, kt⟩ := id hN
  obtain ⟨s1, s2, s3, s4⟩ := j12
  obtain ⟨g1, g2, g3, g4, g5, g6, g7, g8, g9⟩ := s1.2 n hn
  have rN7 : ∀ x y, x ≠ 7 → gi_R K x y = gi_R h x y := fun x y hx => by rw [kR, if_neg (fun w => hx w.1)]
  have ad : a ≠ 7 := by unfold dy at d1; omega
  have re : ∀ x, x < 832 → ref_ (gi_I K) x = if 12 * n + p0 ≤ x ∧ x < 12 * n + 12 then -1 else ref_ (gi_I h) x := fun x hx => by
    unfold ref_
    by_cases w : x < 768
    · rw [if_pos w, if_pos w, e89]
    · rw [if_neg w, if_neg w, if_neg (by omega), em 90 _ (by omega)]
  refine jF (V := V) J hn hr hN (by omega) (by omega) (by omega) (fun x hx => by rw [kc]; exact j2 x (by omega)) (fun x _ => kc x) (fun x y _ hx => rN7 x y hx) (fun x y hd _ => rN7 x y (by unfold dy at hd; omega)) e0 (fun x y hd _ hx hx1 hx2 => e1 x y hd hx hx1 hx2) (fun x y hx => em x y (by omega)) ?_ ?_ (fa 0 (by omega)) (fa 1 (by omega)) (fa 4 (by omega)) ?_ ?_ ?_ ?_ ?_ ?_ ?_ ?_ ?_ ?_ hq hV ?_ ?_ ?_
  · intro x j hx ne
    rcases hx with rfl | rfl | rfl | rfl
    · exact em _ _ (by omega)
    · exact em _ _ (by omega)
    · exact e88 j ne
    · exact em _ _ (by omega)
  · intro j p ne hp
    rw [e89, if_neg (by omega)]
  · rw [fa 2 (by omega), k2, em 85 n (by omega)]
  · rw [fa 3 (by omega), k3, em 86 n (by omega)]
  · rw [f5, v88]
  · rw [fa 6 (by omega), k6, em 90 n (by omega)]
  · intro p hp
    rw [fp p hp, e89, kp p hp]
    by_cases w : p0 ≤ p
    · rw [if_pos w, if_pos (by omega)]
    · rw [if_neg w, if_neg (by omega)]
  · rw [em 85 n (by omega)]; exact g4
  · rw [em 86 n (by omega)]; exact g5
  · rw [v88, nI_toInt (by omega)]; omega
  · rw [em 90 n (by omega)]; exact g8
  · intro p hp
    rw [e89]
    split
    · decide
    · exact (g9 p hp).1
  · refine ⟨fun q hq' => ?_, fun q q2 b h1 h2 h3 h4 => ?_⟩
    · rw [kR, e91]
      by_cases w : hs (gi_I h) n q p0 (12 - p0) = true
      · rw [if_pos ⟨rfl, w⟩, if_pos w]
        exact ⟨fun _ => rfl, fun b e => (by cases e)⟩
      · rw [if_neg (fun z => w z.2), if_neg w]
        refine ⟨(j9.1 q hq').1, fun b hb => ?_⟩
        obtain ⟨o0, o1, o2, o3, o4, o5, o6⟩ := (j9.1 q hq').2 b hb
        exact ⟨o0, o1, o2, by rw [kc]; exact o3, by rw [rN7 _ _ (by unfold dy at o1; omega)]; exact o4, by rw [kc]; exact o5, fun j hj => kB q b hq' hb (by cases e : hs (gi_I h) n q p0 (12 - p0) with | false => rfl | true => exact absurd e w) j hj⟩
    · rw [kR] at h3 h4
      by_cases w : hs (gi_I h) n q p0 (12 - p0) = true
      · rw [if_pos ⟨rfl, w⟩] at h3; cases h3
      · by_cases w2 : hs (gi_I h) n q2 p0 (12 - p0) = true
        · rw [if_pos ⟨rfl, w2⟩] at h4; cases h4
        · rw [if_neg (fun z => w z.2)] at h3
          rw [if_neg (fun z => w2 z.2)] at h4
          exact j9.2 q q2 b h1 h2 h3 h4
  · exact sT_c (fun x y hx => em x y (by omega)) s3
  · refine ⟨fun q hq' => ?_, fun x hx z1 => ?_, fun x y hx hy z1 z2 => ?_, fun i p k h1 h2 h3 z1 z2 => ?_⟩
    · rw [e91]
      split
      · exact Or.inl rfl
      · exact s4.1 q hq'
    · rw [re x hx] at z1 ⊢
      by_cases w : 12 * n + p0 ≤ x ∧ x < 12 * n + 12
      · rw [if_pos w] at z1; exact absurd z1 (by decide)
      · rw [if_neg w] at z1 ⊢
        rw [e91, if_neg]
        · exact s4.2.1 x hx z1
        · intro e
          obtain ⟨q', q1, q2, q3, q4⟩ := (hs_e (12 - p0)).mp e
          obtain ⟨t, ht, et⟩ := nI_of (x := ref_ (gi_I h) x) (by rw [i32_lt, ti_0]; omega)
          rw [et, nI_clamp ht] at q3 q4
          have := s4.2.2.1 x (12 * n + q') hx (by omega) z1 (by rw [refP (x := 12 * n + q') (by omega), et, q4])
          omega
    · rw [re x hx] at z1 z2
      rw [re y hy] at z2
      by_cases w : 12 * n + p0 ≤ x ∧ x < 12 * n + 12
      · rw [if_pos w] at z1; exact absurd z1 (by decide)
      · rw [if_neg w] at z1 z2
        by_cases w2 : 12 * n + p0 ≤ y ∧ y < 12 * n + 12
        · rw [if_pos w2] at z2; rw [z2] at z1; exact absurd z1 (by decide)
        · rw [if_neg w2] at z2
          exact s4.2.2.1 x y hx hy z1 z2
    · rw [e89] at z1 ⊢
      by_cases w : 12 * n + p0 ≤ 12 * i + p ∧ 12 * i + p < 12 * n + 12
      · rw [if_pos w] at z1; exact absurd z1 (by decide)
      · rw [if_neg w] at z1 ⊢
        obtain ⟨t, ht, et⟩ := nI_of (x := gi_I h 89 (12 * i + p)) (by rw [i32_lt, ti_0]; omega)
        have r := ((s1.2 i h1).2.2.2.2.2.2.2.2 p h2).1
        rw [et, nI_toInt ht] at r
        rw [et, nI_clamp ht]
        by_cases e : i = n
        · subst e
          rw [v88, nI_toInt (by omega)] at z2
          exact kz p k t (by omega) h3 (by omega) (by omega) et
        · rw [e88 i e] at z2
          rcases k92 t k (by omega) h3 with q | q
          · rw [q]
            have := s4.2.2.2 i p k h1 h2 h3 z1 z2
            rw [et, nI_clamp ht] at this
            exact this
          · exact q
/-- a larger size -/
theorem j_grow {L : Nat} {xs : Nat → Int32} {c n a z : Nat} {h : gi_H} (J : jH L xs c h) (hn : n < 64) (hr : gi_R h 5 n = some a) (hN : rN h (gi_I h) n a) (hz : z ≤ 768) (ge : (gi_I h 88 n).toInt ≤ z) : jH L xs (c + 1) (gi_pI (gi_pI h a 5 (nI z)) 88 n (nI z)) := by
  obtain ⟨j1, j2, j3, j4, j5, j6, j7, j8, j9, j10, j11, j12, j13, j14⟩ := id J
  obtain ⟨d1, d2, d3, c1, c2, c3, f7, f8, k0, k1, k2, k3, k4, k5, k6, kp, kl, kf, kt⟩ := id hN
  obtain ⟨s1, s2, s3, s4⟩ := j12
  obtain ⟨g1, g2, g3, g4, g5, g6, g7, g8, g9⟩ := s1.2 n hn
  have dd := d1
  unfold dy at dd
  generalize hK : gi_pI (gi_pI h a 5 (nI z)) 88 n (nI z) = K
  have eI : ∀ x y, gi_I K x y = if x = 88 ∧ y = n then nI z else if x = a ∧ y = 5 then nI z else gi_I h x y := fun x y => by rw [← hK]; rfl
  have eR : ∀ x y, gi_R K x y = gi_R h x y := fun x y => by rw [← hK]; rfl
  have ec : ∀ x, gi_c K x = gi_c h x := fun x => by rw [← hK]; rfl
  have en : gi_n K = gi_n h := by rw [← hK]; rfl
  have eu : gi_u K = gi_u h := by rw [← hK]; rfl
  clear hK
  have e1 : ∀ x y, ¬ (x = 88 ∧ y = n) → ¬ (x = a ∧ y = 5) → gi_I K x y = gi_I h x y := fun x y w1 w2 => by rw [eI, if_neg w1, if_neg w2]
  have v88 : gi_I K 88 n = nI z := by rw [eI, if_pos ⟨rfl, rfl⟩]
  refine jF (V := fun p => (gi_I h 102 p, gi_I h 105 p)) J hn hr hN (by omega) (by omega) (by omega) (fun x hx => by rw [ec]; exact j2 x (by omega)) (fun x _ => ec x) (fun x y _ _ => eR x y) (fun x y _ _ => eR x y) (fun x y w1 w2 => e1 x y (by omega) (by omega)) (fun x y hd _ hx _ _ => e1 x y (by unfold dy at hd; omega) (by omega)) (fun x y hx => e1 x y (by omega) (by omega)) (fun x j hx ne => e1 x j (by omega) (by omega)) (fun j p ne hp => e1 _ _ (by omega) (by omega)) (e1 _ _ (by omega) (by omega)) (e1 _ _ (by omega) (by omega)) (e1 _ _ (by omega) (by omega)) ?_ ?_ ?_ ?_ ?_ ?_ ?_ ?_ ?_ ?_ (fun p hp => ?_) (fun p hp => iv_up (iv_J J hp)) ?_ ?_ ?_
  · rw [e1 a 2 (by omega) (by omega), k2, e1 85 n (by omega) (by omega)]
  · rw [e1 a 3 (by omega) (by omega), k3, e1 86 n (by omega) (by omega)]
  · rw [v88, eI, if_neg (by omega), if_pos ⟨rfl, rfl⟩]
  · rw [e1 a 6 (by omega) (by omega), k6, e1 90 n (by omega) (by omega)]
  · intro p hp
    rw [e1 _ _ (by unfold dy at d2; omega) (by omega), kp p hp, e1 89 _ (by omega) (by omega)]
  · rw [e1 85 n (by omega) (by omega)]; exact g4
  · rw [e1 86 n (by omega) (by omega)]; exact g5
  · rw [v88, nI_toInt (by omega)]; omega
  · rw [e1 90 n (by omega) (by omega)]; exact g8
  · intro p hp
    rw [e1 89 _ (by omega) (by omega)]; exact (g9 p hp).1
  · obtain ⟨q1, q2, q3, q4⟩ := j6 p hp
    refine ⟨⟨?_, ?_, ?_, ?_⟩, ⟨?_, ?_⟩, ?_, ?_⟩
    · rw [e1 _ _ (by omega) (by omega)]; exact q1
    · rw [e1 _ _ (by omega) (by omega)]; exact q2
    · exact e1 _ _ (by omega) (by omega)
    · exact e1 _ _ (by omega) (by omega)
    · exact e1 _ _ (by omega) (by omega)
    · exact e1 _ _ (by omega) (by omega)
    · exact e1 _ _ (by omega) (by omega)
    · exact e1 _ _ (by omega) (by omega)
  · exact rB_fr (fun q _ => eR 7 q) (fun x hd hx => ⟨ec x, fun y => e1 x y (by unfold dy at hd; omega) (fun q => (bl_ne hN hx).1 q.1), eR x⟩) (fun x y hx => e1 x y (by omega) (by omega)) j9
  · exact sT_c (fun x y hx => e1 x y (by omega) (by omega)) s3
  · refine ⟨fun q hq' => by rw [e1 91 q (by omega) (by omega)]; exact s4.1 q hq', fun x hx => ?_, fun x y hx hy => ?_, fun i p k h1 h2 h3 z1 z2 => ?_⟩
    · rw [ref_c (fun a' k hk => e1 a' k (by omega) (by omega)), e1 91 _ (by omega) (by omega)]; exact s4.2.1 x hx
    · rw [ref_c (fun a' k hk => e1 a' k (by omega) (by omega)), ref_c (fun a' k hk => e1 a' k (by omega) (by omega))]; exact s4.2.2.1 x y hx hy
    · rw [e1 89 _ (by omega) (by omega)] at z1 ⊢
      rw [e1 92 _ (by omega) (by omega)]
      refine s4.2.2.2 i p k h1 h2 h3 z1 ?_
      by_cases e : i = n
      · subst e
        rw [v88, nI_toInt (by omega)] at z2
        omega
      · rw [e1 88 i (by omega) (by omega)] at z2; exact z2

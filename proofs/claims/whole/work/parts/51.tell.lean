/-! quotas between calls; an inode told anew with its quotas -/
set_option maxRecDepth 100000
theorem QC_J {L : Nat} {xs : Nat → Int32} {c : Nat} {h : gi_H} (J : jH L xs c h) : QC h (gi_I h) := by
  obtain ⟨r1, r2, r3, r4, r5, r6, r7⟩ := J.2.2.2.2.1
  exact ⟨fun p hp => ⟨(J.2.2.2.2.2.1 p hp).2.2.1, (J.2.2.2.2.2.1 p hp).2.2.2⟩, r1, r5⟩
theorem QS_J {h : gi_H} : QS h (gi_I h) := ⟨fun _ _ => ⟨rfl, rfl⟩, rfl, fun _ _ => rfl⟩
theorem QR_J {L : Nat} {xs : Nat → Int32} {c : Nat} {h : gi_H} (J : jH L xs c h) (hc : c ≤ 7142) : QR h (gi_I h) := by
  obtain ⟨s1, s2, s3, s4, s5⟩ := J.2.2.2.2.2.2.2.2.2.1
  refine ⟨QC_J J, fun p hp => ?_, s1, s3⟩
  obtain ⟨g1, g2, g3, g4⟩ := J.2.2.2.2.2.1 p hp
  obtain ⟨b1, b2, b3, b4, b5⟩ := J.2.2.2.2.2.2.2.2.2.2.1 p hp
  rw [g1, g2]
  exact ⟨by omega, by omega, by omega, by omega⟩
theorem gr_J {L : Nat} {xs : Nat → Int32} {c : Nat} {h : gi_H} (J : jH L xs c h) {p : Nat} (hp : p < 64) : (0 ≤ (gi_I h 79 0).toInt ∧ (gi_I h 79 0).toInt ≤ 1000000) ∧ (0 ≤ (gr_ (gi_I h) p).toInt ∧ (gr_ (gi_I h) p).toInt ≤ 100000) := by
  obtain ⟨s1, s2, s3, s4, s5⟩ := J.2.2.2.2.2.2.2.2.2.1
  exact ⟨s1, s3 _ (by omega)⟩
/-- a place's state before a call -/
theorem U0_J {L : Nat} {xs : Nat → Int32} {c : Nat} {h : gi_H} (J : jH L xs c h) {p : Nat} (hp : p < 64) : U0 h p = (gi_I h 102 p, gi_I h 105 p) := by
  obtain ⟨g1, g2, g3, g4⟩ := J.2.2.2.2.2.1 p hp
  unfold U0
  rw [g1, g2]
theorem T0_J {h : gi_H} {p : Nat} (hp : p < 64) : T0 h p = (gi_I h 102 p, gi_I h 105 p) := if_pos hp
theorem iv_J {L : Nat} {xs : Nat → Int32} {c : Nat} {h : gi_H} (J : jH L xs c h) {p : Nat} (hp : p < 64) : iv (gi_I h 103 p) (32 * c) (gi_I h 102 p, gi_I h 105 p) := by
  obtain ⟨b1, b2, b3, b4, b5⟩ := J.2.2.2.2.2.2.2.2.2.2.1 p hp
  exact ⟨b1, b4, b5⟩
theorem AD_iv {L : Nat} {xs : Nat → Int32} {c : Nat} {h : gi_H} (J : jH L xs c h) (hc : c ≤ 7142) {p : Nat} (hp : p < 64) {m : Int32} (hm : -32 ≤ m.toInt ∧ m.toInt ≤ 32) : iv (gi_I h 103 p) (32 * (c + 1 : Nat)) (AD (gi_I h) m p (gi_I h 102 p, gi_I h 105 p)) := by
  obtain ⟨g1, g2⟩ := gr_J J hp
  have := ad_iv (C := 32) (iv_J J hp) (by omega) hm g1 g2
  rw [show (32 * (c + 1 : Nat) : Int) = 32 * (c : Int) + 32 by omega]
  exact this
theorem CH_n {L : Nat} {xs : Nat → Int32} {c : Nat} {h : gi_H} (J : jH L xs c h) (hc : c ≤ 7142) {p : Nat} (hp : p < 64) (n : Nat) (hn : n ≤ 100) : it_ (CH (gi_I h) p) n (gi_I h 102 p, gi_I h 105 p) = AD (gi_I h) (nI n) p (gi_I h 102 p, gi_I h 105 p) := by
  obtain ⟨g1, g2⟩ := gr_J J hp
  exact ch_n (iv_J J hp) g1 g2 n (by omega)
theorem DS_n {L : Nat} {xs : Nat → Int32} {c : Nat} {h : gi_H} (J : jH L xs c h) (hc : c ≤ 7142) {p : Nat} (hp : p < 64) (n : Nat) (hn : n ≤ 100) : it_ (DS (gi_I h) p) n (gi_I h 102 p, gi_I h 105 p) = AD (gi_I h) (-(nI n)) p (gi_I h 102 p, gi_I h 105 p) :=
  ds_n (iv_J J hp) n (by omega)
theorem iv_up {s : Int32} {c : Nat} {x : Int32 × Int32} (h : iv s (32 * c) x) : iv s (32 * (c + 1 : Nat)) x := ⟨by have := h.1; omega, h.2⟩
/-- quotas told anew on both sides -/
def qk (h k : gi_H) (V : gi_T) : Prop := ∀ p, p < 64 → (gi_I k (11 + p) 0 = (V p).1 ∧ gi_I k (11 + p) 1 = (V p).2 ∧ gi_I k (11 + p) 2 = gi_I h (11 + p) 2 ∧ gi_I k (11 + p) 3 = gi_I h (11 + p) 3) ∧ (gi_I k 102 p = (V p).1 ∧ gi_I k 105 p = (V p).2) ∧ gi_I k 103 p = gi_I h 103 p ∧ gi_I k 104 p = gi_I h 104 p
theorem rQ_k {L : Nat} {xs : Nat → Int32} {c : Nat} {h k : gi_H} {V : gi_T} (J : jH L xs c h) (H : qk h k V) : rQ k (gi_I k) := fun p hp => by
  obtain ⟨⟨a1, a2, a3, a4⟩, ⟨b1, b2⟩, b3, b4⟩ := H p hp
  obtain ⟨g1, g2, g3, g4⟩ := J.2.2.2.2.2.1 p hp
  exact ⟨by rw [a1, b1], by rw [a2, b2], by rw [a3, b3, g3], by rw [a4, b4, g4]⟩
theorem sQ_k {L : Nat} {xs : Nat → Int32} {c : Nat} {h k : gi_H} {V : gi_T} (J : jH L xs c h) (H : qk h k V) (hV : ∀ p, p < 64 → iv (gi_I h 103 p) (32 * (c + 1 : Nat)) (V p)) : sQ (gi_I k) (c + 1) := fun p hp => by
  obtain ⟨⟨a1, a2, a3, a4⟩, ⟨b1, b2⟩, b3, b4⟩ := H p hp
  obtain ⟨g1, g2, g3, g4, g5⟩ := J.2.2.2.2.2.2.2.2.2.2.1 p hp
  obtain ⟨v1, v2, v3⟩ := hV p hp
  rw [b1, b2, b3, b4]
  exact ⟨by omega, g2, g3, v2, v3⟩
theorem jF {L : Nat} {xs : Nat → Int32} {c n a : Nat} {h k : gi_H} {V : gi_T} (J : jH L xs c h) (hn : n < 64) (hr : gi_R h 5 n = some a) (hN : rN h (gi_I h) n a)
    (hn1 : gi_n h ≤ gi_n k) (hn2 : gi_n k ≤ gi_n h + 16) (hu : gi_u k ≤ gi_u h + 1000) (hF : rF k)
    (ec : ∀ x, gi_c h x ≠ (0, 0) → gi_c k x = gi_c h x)
    (eR : ∀ x y, ¬ dy x → x ≠ 7 → gi_R k x y = gi_R h x y)
    (eD : ∀ x y, dy x → gi_c h x ≠ (0, 0) → gi_R k x y = gi_R h x y)
    (e0 : ∀ x y, x < 76 → ¬ (11 ≤ x ∧ x < 75) → gi_I k x y = gi_I h x y)
    (e1 : ∀ x y, dy x → gi_c h x ≠ (0, 0) → x ≠ a → x ≠ a + 1 → gi_c h x ≠ (101, 64) → gi_I k x y = gi_I h x y)
    (em : ∀ x y, (79 ≤ x ∧ x ≤ 84) ∨ x = 87 ∨ (93 ≤ x ∧ x ≤ 101) ∨ x = 106 → gi_I k x y = gi_I h x y)
    (eo : ∀ x j, x = 85 ∨ x = 86 ∨ x = 88 ∨ x = 90 → j ≠ n → gi_I k x j = gi_I h x j)
    (ep : ∀ j p, j ≠ n → p < 12 → gi_I k 89 (12 * j + p) = gi_I h 89 (12 * j + p))
    (f0 : gi_I k a 0 = gi_I h a 0) (f1 : gi_I k a 1 = gi_I h a 1) (f4 : gi_I k a 4 = gi_I h a 4)
    (f2 : gi_I k a 2 = gi_I k 85 n) (f3 : gi_I k a 3 = gi_I k 86 n) (f5 : gi_I k a 5 = gi_I k 88 n) (f6 : gi_I k a 6 = gi_I k 90 n) (fp : ∀ p, p < 12 → gi_I k (a + 1) p = gi_I k 89 (12 * n + p))
    (b1 : vp_in (gi_I k 85 n) 16) (b2 : vp_in (gi_I k 86 n) 16) (b4 : 0 ≤ (gi_I k 88 n).toInt ∧ (gi_I k 88 n).toInt ≤ 768) (b5 : -1 ≤ (gi_I k 90 n).toInt ∧ (gi_I k 90 n).toInt ≤ 255) (b6 : ∀ p, p < 12 → (-1 ≤ (gi_I k 89 (12 * n + p)).toInt ∧ (gi_I k 89 (12 * n + p)).toInt ≤ 255))
    (hq : qk h k V) (hV : ∀ p, p < 64 → iv (gi_I h 103 p) (32 * (c + 1 : Nat)) (V p)) (hB : rB k (gi_I k)) (hT : sT (gi_I k)) (hs : sB (gi_I k)) : jH L xs (c + 1) k := by
  obtain ⟨j1, j2, j3, j4, j5, j6, j7, j8, j9, j10, j11, j12, j13, j14⟩ := id J
  obtain ⟨d1, d2, d3, c1, c2, c3, f7, f8, k0, k1, k2, k3, k4, k5, k6, kp, kl, kf, kt⟩ := id hN
  have z1 : gi_c h a ≠ (0, 0) := nz c1 (by decide)
  have z2 : gi_c h (a + 1) ≠ (0, 0) := nz c2 (by decide)
  have z3 : gi_c h (a + 2) ≠ (0, 0) := nz c3 (by decide)
  have h5 : ∀ j, gi_R k 5 j = gi_R h 5 j := fun j => eR 5 j (by unfold dy; omega) (by omega)
  refine jX_of J hn hn1 hn2 hu hF ec (fun x y hx _ h7 => eR x y hx h7) (fun j _ _ => h5 j) (fun y => e0 0 y (by omega) (by omega)) ?_ ?_ ?_ ?_ ?_ ?_ ?_ ?_ (rQ_k J hq) (sQ_k J hq hV) hB ?_
  · intro x hd hx ht
    exact ⟨fun y => e1 x y hd hx (fun e => ht (Or.inr ⟨a, hr, Or.inl e⟩)) (fun e => ht (Or.inr ⟨a, hr, Or.inr (Or.inl e)⟩)) (fun e => ht (Or.inl e)), fun y => eD x y hd hx⟩
  · intro j hj ne
    refine ⟨fun x hx => ?_, fun p hp => ep j p ne hp, fun l x hl h1 h2 => em x l (by omega), fun l q hl hq => em _ _ (by omega), fun t ht => em _ _ (by omega), fun t q ht hq => em _ _ (by omega)⟩
    by_cases e : x = 85 ∨ x = 86 ∨ x = 88 ∨ x = 90
    · exact eo x j e ne
    · exact em x j (by omega)
  · rw [h5, hr, em 83 n (by omega)]
    refine ⟨fun e => (by cases e), fun b hb => ?_⟩
    cases hb
    refine ⟨((j7 n hn).2 a hr).1, ?_⟩
    refine rN_own hN (fun x hd hx => ?_) (ec _ z1) (ec _ z2) (ec _ z3) (fun y => eD a y d1 z1) (fun y => eD _ y d3 z3) ?_ ?_ f2 f3 ?_ f5 f6 fp ?_ ?_ ?_ ?_
    · obtain ⟨g1, g2, g3, g4, g5, g6⟩ := la_ne hN hx
      exact ⟨ec x g6, fun y => e1 x y hd g6 g1 g2 g4, fun y => eD x y hd g6⟩
    · rw [f0, k0, em 83 n (by omega)]
    · rw [f1, k1, em 84 n (by omega)]
    · rw [f4, k4, em 87 n (by omega)]
    · exact fun l x hl hx => em _ _ (by omega)
    · exact fun l q hl hq => em _ _ (by omega)
    · exact fun t ht => em _ _ (by omega)
    · exact fun t q ht hq => em _ _ (by omega)
  · exact fun b hb => Or.inl (by rw [h5] at hb; exact hb)
  · intro b x r hb hx h2
    rw [h5] at hb
    rw [hr] at hb; cases hb
    rw [eD a x d1 z1] at h2
    exact Or.inl ⟨hr, h2⟩
  · intro b r hb h1 h2
    rw [h5] at hb
    rw [hr] at hb; cases hb
    rw [eD a _ d1 z1] at h1 h2
    exact absurd (j8.2 n n a a 9 10 r hn hn hr hr (Or.inl rfl) (Or.inr rfl) h1 h2).2 (by decide)
  · exact rA_c (fun x y hx => e0 x y (by omega) (by omega)) (fun x y hx => em _ _ (by omega)) j5
  · exact sA_c (fun x y hx => em _ _ (by omega)) j10
  · obtain ⟨s1, s2, s3, s4⟩ := j12
    obtain ⟨g1, g2, g3, g4, g5, g6, g7, g8, g9⟩ := s1.2 n hn
    refine ⟨sN_at s1 hn (fun j _ => ⟨em _ _ (by omega), em _ _ (by omega)⟩) (fun j _ ne => ⟨fun x hx => ?_, fun p hp => ep j p ne hp⟩) b1 b2 (by rw [em 87 n (by omega)]; exact g6) b4 b5 (fun p hp => ⟨b6 p hp, fun z => ?_⟩), sL_c (fun x y hx => em _ _ (by omega)) s2, hT, hs⟩
    · by_cases e : x = 85 ∨ x = 86 ∨ x = 88 ∨ x = 90
      · exact eo x j e ne
      · exact em x j (by omega)
    · have := ((j7 n hn).2 a hr).1
      rw [z, ti_0] at this
      omega

/-! pair: take -/
set_option maxRecDepth 100000

theorem vp31 {x : Int32} : (0 ≤ x ∧ x ≤ 31) = vp_in x 32 := propext (by rw [vp_in_iff, i32_le, i32_le, ti_0, ti_31]; omega)
theorem lcm0 {x y : Int64} : (lg_cmp x y = 0) = (x = y) := propext (by
  unfold lg_cmp
  by_cases e : x = y
  · subst e
    simp [Int64.lt_irrefl]
  · by_cases l : y < x <;> simp [l, e])
theorem rA_cell {h K : gi_H} (j5 : rA h (gi_I h)) (h1 : ∀ x y, x = 1 ∨ x = 2 ∨ x = 3 ∨ x = 4 ∨ x = 8 ∨ x = 10 ∨ x = 75 → gi_I K x y = gi_I h x y) (h2 : ∀ x y, x = 79 ∨ x = 80 ∨ x = 81 ∨ x = 82 ∨ x = 106 ∨ x = 101 → gi_I K x y = gi_I h x y) : rA K (gi_I K) := rA_c h1 h2 j5
theorem tk_N {L : Nat} {xs : Nat → Int32} {c n a t t1 s1 : Nat} {h : gi_H} (J : jH L xs c h) (hn : n < 64) (hr : gi_R h 5 n = some a) (hN : rN h (gi_I h) n a) (ht : t < 32) (ey : ly_ (lf_ (gi_I h) n (nI t) (-1)) 0 32 0 0 = some (t1, s1)) (es : 0 ≤ (gi_I h 90 n).toInt ↔ 0 < s1) : jH L xs (c + 1) (gi_pI (gi_pR h (a + 2) t none) 99 (32 * n + t) (-1)) := by
  obtain ⟨j1, j2, j3, j4, j5, j6, j7, j8, j9, j10, j11, j12, j13, j14⟩ := id J
  obtain ⟨d1, d2, d3, c1, c2, c3, f7, f8, k0, k1, k2, k3, k4, k5, k6, kp, kl, kf, kt⟩ := id hN
  have h109 := j1.1
  have sn := j12.1
  generalize hK : gi_pI (gi_pR h (a + 2) t none) 99 (32 * n + t) (-1) = K
  have eI : ∀ x y, gi_I K x y = if x = 99 ∧ y = 32 * n + t then -1 else gi_I h x y := fun x y => by rw [← hK]; rfl
  have eR : ∀ x y, gi_R K x y = if x = a + 2 ∧ y = t then none else gi_R h x y := fun x y => by rw [← hK]; rfl
  have ec : ∀ x, gi_c K x = gi_c h x := fun x => by rw [← hK]; rfl
  have en : gi_n K = gi_n h := by rw [← hK]; rfl
  have eu : gi_u K = gi_u h := by rw [← hK]; rfl
  clear hK
  have dd1 := d1
  have dd3 := d3
  unfold dy at dd1 dd3
  have e1 : ∀ x y, x ≠ 99 → gi_I K x y = gi_I h x y := fun x y w => by rw [eI, if_neg (fun z => w z.1)]
  refine j_at (t1 := t1) (s1 := s1) (V := fun p => (gi_I h 102 p, gi_I h 105 p)) J hn hr hN ht (by omega) (by omega) (by omega) (fun x hx => by rw [ec]; exact j2 x (by omega)) (fun x _ => ec x) (fun x y _ w _ => by rw [eR, if_neg w]) (fun x y _ _ _ _ _ _ _ _ w _ _ _ _ => by rw [eI, if_neg w]) ?_ ?_ ?_ ?_ ?_ ?_ ?_ ?_ (fun p hp => ?_) (fun p hp => iv_up (iv_J J hp)) ?_ ?_
  · rw [e1 a 6 (by omega), e1 90 n (by omega)]; exact k6
  · rw [e1 90 n (by omega)]; exact (sn.2 n hn).2.2.2.2.2.2.2.1
  · rw [eR, if_pos ⟨rfl, rfl⟩]
    exact ⟨fun _ => by rw [eI, if_pos ⟨rfl, rfl⟩], fun b e => (by cases e)⟩
  · rw [eI, if_pos ⟨rfl, rfl⟩]; decide
  · rw [← ey]
    refine ly_c 32 0 0 0 (fun j _ hj => ?_)
    unfold lf_
    rw [eI]
    by_cases e : j = t
    · rw [if_pos ⟨rfl, by omega⟩, if_pos (by rw [e])]
    · rw [if_neg (by omega), if_neg (fun z => e ((nI_eq (by omega) (by omega)).mp z))]
  · rw [e1 90 n (by omega)]; exact es
  · exact rA_c (fun x y hx => e1 x y (by omega)) (fun x y hx => e1 x y (by omega)) j5
  · exact sA_c (fun x y hx => e1 x y (by omega)) j10
  · obtain ⟨q1, q2, q3, q4⟩ := j6 p hp
    exact ⟨⟨by rw [e1 _ _ (by omega)]; exact q1, by rw [e1 _ _ (by omega)]; exact q2, e1 _ _ (by omega), e1 _ _ (by omega)⟩, ⟨e1 _ _ (by omega), e1 _ _ (by omega)⟩, e1 _ _ (by omega), e1 _ _ (by omega)⟩
  · refine rB_fr (fun q _ => by rw [eR, if_neg (by omega)]) (fun x hd hx => ⟨ec x, fun y => e1 x y (by unfold dy at hd; omega), fun y => ?_⟩) (fun x y hx => e1 x y (by omega)) j9
    rw [eR, if_neg (fun z => (bl_ne hN hx).2.2 z.1)]
  · exact sB_c (fun x y hx => e1 x y (by omega)) j12.2.2.2
theorem tk_R {L : Nat} {xs : Nat → Int32} {c n a t t1 ow gr b : Nat} {h : gi_H} (J : jH L xs c h) (hc : c ≤ 7142) (hn : n < 64) (hr : gi_R h 5 n = some a) (hN : rN h (gi_I h) n a) (ht : t < 32) (ho : ow < 16) (hg : gr < 16) (hb : b < 256) (e90 : gi_I h 90 n = nI b) (ey : ly_ (lf_ (gi_I h) n (nI t) (-1)) 0 32 0 0 = some (t1, 0)) : jH L xs (c + 1) (gi_pI (rw2 (rw2 (gi_pI (gi_pI (qst (gi_pI (gi_pR (gi_pR h (a + 2) t none) 7 b none) a 6 (-1)) (qz n (AD (gi_I h) (-1)) (2 * ow + 0) (32 + 2 * gr + 0) (U0 h))) 91 b 0) 90 n (-1)) 107 108 (qz n (DS (gi_I h)) (2 * ow + 0) (32 + 2 * gr + 0) (T0 (qst (gi_pI (gi_pR (gi_pR h (a + 2) t none) 7 b none) a 6 (-1)) (qz n (AD (gi_I h) (-1)) (2 * ow + 0) (32 + 2 * gr + 0) (U0 h)))))) 102 105 (K0 (gi_pI (gi_pI (qst (gi_pI (gi_pR (gi_pR h (a + 2) t none) 7 b none) a 6 (-1)) (qz n (AD (gi_I h) (-1)) (2 * ow + 0) (32 + 2 * gr + 0) (U0 h))) 91 b 0) 90 n (-1)) (qz n (DS (gi_I h)) (2 * ow + 0) (32 + 2 * gr + 0) (T0 (qst (gi_pI (gi_pR (gi_pR h (a + 2) t none) 7 b none) a 6 (-1)) (qz n (AD (gi_I h) (-1)) (2 * ow + 0) (32 + 2 * gr + 0) (U0 h))))))) 99 (32 * n + t) (-1)) := by
  obtain ⟨j1, j2, j3, j4, j5, j6, j7, j8, j9, j10, j11, j12, j13, j14⟩ := id J
  obtain ⟨d1, d2, d3, c1, c2, c3, f7, f8, k0, k1, k2, k3, k4, k5, k6, kp, kl, kf, kt⟩ := id hN
  have h109 := j1.1
  have sn := j12.1
  have dd1 := d1
  have dd3 := d3
  unfold dy at dd1 dd3
  generalize hk : (qst (gi_pI (gi_pR (gi_pR h (a + 2) t none) 7 b none) a 6 (-1)) (qz n (AD (gi_I h) (-1)) (2 * ow + 0) (32 + 2 * gr + 0) (U0 h))) = k
  have eIk : ∀ x y, gi_I k x y = if 11 ≤ x ∧ x < 75 ∧ y = 0 then ((qz n (AD (gi_I h) (-1)) (2 * ow + 0) (32 + 2 * gr + 0) (U0 h)) (x - 11)).1 else if 11 ≤ x ∧ x < 75 ∧ y = 1 then ((qz n (AD (gi_I h) (-1)) (2 * ow + 0) (32 + 2 * gr + 0) (U0 h)) (x - 11)).2 else if x = a ∧ y = 6 then -1 else gi_I h x y := fun x y => by rw [← hk]; rfl
  have eRk : ∀ x y, gi_R k x y = if x = 7 ∧ y = b then none else if x = a + 2 ∧ y = t then none else gi_R h x y := fun x y => by rw [← hk]; rfl
  have eck : ∀ x, gi_c k x = gi_c h x := fun x => by rw [← hk]; rfl
  have enk : gi_n k = gi_n h := by rw [← hk]; rfl
  have euk : gi_u k = gi_u h := by rw [← hk]; rfl
  clear hk
  have rows : ∀ x y, 79 ≤ x → x < 109 → gi_I k x y = gi_I h x y := fun x y w1 w2 => by rw [eIk, if_neg (by omega), if_neg (by omega), if_neg (by omega)]
  have eT : ∀ p, p < 64 → T0 k p = (gi_I h 102 p, gi_I h 105 p) := fun p hp => by rw [T0_c (h := h) (fun x y hx => rows x y (by omega) (by omega)), T0_J hp]
  generalize hT : qz n (DS (gi_I h)) (2 * ow + 0) (32 + 2 * gr + 0) (T0 k) = T
  have tv : ∀ p, p < 64 → T p = (qz n (AD (gi_I h) (-1)) (2 * ow + 0) (32 + 2 * gr + 0) (U0 h)) p := fun p hp => by
    rw [← hT]
    unfold qz
    by_cases w : n = 0
    · rw [if_pos w, if_pos w, eT p hp, U0_J J hp]
    · rw [if_neg w, if_neg w, bo_v, bo_v, eT p hp, U0_J J hp]
      by_cases w1 : p = 2 * ow + 0 ∨ p = 32 + 2 * gr + 0
      · rw [if_pos w1, if_pos w1]
        exact DS_n J hc hp 1 (by omega)
      · rw [if_neg w1, if_neg w1]
  clear hT
  have hV : ∀ p, p < 64 → iv (gi_I h 103 p) (32 * (c + 1 : Nat)) ((qz n (AD (gi_I h) (-1)) (2 * ow + 0) (32 + 2 * gr + 0) (U0 h)) p) := fun p hp => by
    unfold qz
    by_cases w : n = 0
    · rw [if_pos w, U0_J J hp]; exact iv_up (iv_J J hp)
    · rw [if_neg w, bo_v, U0_J J hp]
      by_cases w1 : p = 2 * ow + 0 ∨ p = 32 + 2 * gr + 0
      · rw [if_pos w1]; exact AD_iv J hc hp (by decide)
      · rw [if_neg w1]; exact iv_up (iv_J J hp)
  generalize hK : (gi_pI (rw2 (rw2 (gi_pI (gi_pI k 91 b 0) 90 n (-1)) 107 108 T) 102 105 (K0 (gi_pI (gi_pI k 91 b 0) 90 n (-1)) T)) 99 (32 * n + t) (-1)) = K
  have eI : ∀ x y, gi_I K x y = if x = 99 ∧ y = 32 * n + t then -1 else if x = 102 then (K0 (gi_pI (gi_pI k 91 b 0) 90 n (-1)) T y).1 else if x = 105 then (K0 (gi_pI (gi_pI k 91 b 0) 90 n (-1)) T y).2 else if x = 107 then (T y).1 else if x = 108 then (T y).2 else if x = 90 ∧ y = n then -1 else if x = 91 ∧ y = b then 0 else gi_I k x y := fun x y => by rw [← hK]; rfl
  have eR : ∀ x y, gi_R K x y = if x = 7 ∧ y = b then none else if x = a + 2 ∧ y = t then none else gi_R h x y := fun x y => by rw [← eRk, ← hK]; rfl
  have ec : ∀ x, gi_c K x = gi_c h x := fun x => by rw [← eck, ← hK]; rfl
  have en : gi_n K = gi_n h := by rw [← enk, ← hK]; rfl
  have eu : gi_u K = gi_u h := by rw [← euk, ← hK]; rfl
  clear hK
  have ek : ∀ x y, ¬ (x = 99 ∧ y = 32 * n + t) → ¬ (x = 102 ∨ x = 105 ∨ x = 107 ∨ x = 108) → ¬ (x = 90 ∧ y = n) → ¬ (x = 91 ∧ y = b) → gi_I K x y = gi_I k x y := fun x y w1 w2 w3 w4 => by
    rw [eI, if_neg w1, if_neg (by omega), if_neg (by omega), if_neg (by omega), if_neg (by omega), if_neg w3, if_neg w4]
  have eh : ∀ x y, ¬ (x = 99 ∧ y = 32 * n + t) → ¬ (x = 102 ∨ x = 105 ∨ x = 107 ∨ x = 108) → ¬ (x = 90 ∧ y = n) → ¬ (x = 91 ∧ y = b) → ¬ (11 ≤ x ∧ x < 75 ∧ (y = 0 ∨ y = 1)) → ¬ (x = a ∧ y = 6) → gi_I K x y = gi_I h x y := fun x y w1 w2 w3 w4 w5 w6 => by
    rw [ek x y w1 w2 w3 w4, eIk, if_neg (by omega), if_neg (by omega), if_neg w6]
  have v90 : gi_I K 90 n = -1 := by rw [eI, if_neg (by omega), if_neg (by omega), if_neg (by omega), if_neg (by omega), if_neg (by omega), if_pos ⟨rfl, rfl⟩]
  have BB := blk_rel (h := h) (K := K) (b := b) (x0 := 768 + n) j9 j12.2.2.2 (by omega) hb (by unfold ref_; rw [if_neg (by omega), show 768 + n - 768 = n by omega]; exact e90) (fun y _ => by
      rw [eR]
      by_cases w : y = b
      · rw [if_pos ⟨rfl, w⟩, if_pos w]
      · rw [if_neg (fun z => w z.2), if_neg (by omega), if_neg w]) (fun x hd hx => ⟨ec x, fun y => by
        unfold dy at hd
        exact eh x y (by omega) (by omega) (by omega) (by omega) (by omega) (fun z => (bl_ne hN hx).1 z.1), fun y => by
        unfold dy at hd
        rw [eR, if_neg (by omega), if_neg (fun z => (bl_ne hN hx).2.2 z.1)]⟩) (fun x hx => by
      unfold ref_
      by_cases w : x < 768
      · rw [if_pos w, if_pos w, if_neg (by omega)]
        exact eh _ _ (by omega) (by omega) (by omega) (by omega) (by omega) (by omega)
      · rw [if_neg w, if_neg w]
        by_cases w2 : x = 768 + n
        · rw [if_pos w2, w2, show 768 + n - 768 = n by omega, v90]
        · rw [if_neg w2]
          exact eh _ _ (by omega) (by omega) (by omega) (by omega) (by omega) (by omega)) (fun y => by
      by_cases w : y = b
      · rw [eI, if_neg (by omega), if_neg (by omega), if_neg (by omega), if_neg (by omega), if_neg (by omega), if_neg (by omega), if_pos ⟨rfl, w⟩, if_pos w]
      · rw [if_neg w]
        exact eh _ _ (by omega) (by omega) (by omega) (by omega) (by omega) (by omega)) (fun y => eh _ _ (by omega) (by omega) (by omega) (by omega) (by omega) (by omega)) (fun y _ => eh _ _ (by omega) (by omega) (by omega) (by omega) (by omega) (by omega))
  refine j_at (t1 := t1) (s1 := 0) (V := (qz n (AD (gi_I h) (-1)) (2 * ow + 0) (32 + 2 * gr + 0) (U0 h))) J hn hr hN ht (by omega) (by omega) (by omega) (fun x hx => by rw [ec]; exact j2 x (by omega)) (fun x _ => ec x) (fun x y _ w w7 => by rw [eR, if_neg (by omega), if_neg w]) (fun x y w0 w1 w2 w3 w4 w5 w6 w7 w8 w9 w10 w11 w12 => eh x y w8 (by omega) w5 (by omega) (by omega) w4) ?_ ?_ ?_ ?_ ?_ ?_ ?_ ?_ (fun p hp => ?_) hV BB.1 BB.2
  · rw [v90, ek a 6 (by omega) (by omega) (by omega) (by omega), eIk, if_neg (by omega), if_neg (by omega), if_pos ⟨rfl, rfl⟩]
  · rw [v90]; decide
  · rw [eR, if_neg (by omega), if_pos ⟨rfl, rfl⟩]
    exact ⟨fun _ => by rw [eI, if_pos ⟨rfl, rfl⟩], fun b e => (by cases e)⟩
  · rw [eI, if_pos ⟨rfl, rfl⟩]; decide
  · rw [← ey]
    refine ly_c 32 0 0 0 (fun j _ hj => ?_)
    unfold lf_
    by_cases e : j = t
    · rw [eI, if_pos ⟨rfl, by omega⟩, if_pos (by rw [e])]
    · rw [eh _ _ (by omega) (by omega) (by omega) (by omega) (by omega) (by omega), if_neg (fun z => e ((nI_eq (by omega) (by omega)).mp z))]
  · rw [v90]; decide
  · exact rA_c (fun x y hx => eh x y (by omega) (by omega) (by omega) (by omega) (by omega) (by omega)) (fun x y hx => eh x y (by omega) (by omega) (by omega) (by omega) (by omega) (by omega)) j5
  · exact sA_c (fun x y hx => eh x y (by omega) (by omega) (by omega) (by omega) (by omega) (by omega)) j10
  · have kk0 : K0 (gi_pI (gi_pI k 91 b 0) 90 n (-1)) T p = (qz n (AD (gi_I h) (-1)) (2 * ow + 0) (32 + 2 * gr + 0) (U0 h)) p := by unfold K0 cp_; rw [if_pos hp, tv p hp]
    refine ⟨⟨?_, ?_, ?_, ?_⟩, ⟨?_, ?_⟩, ?_, ?_⟩
    · rw [ek _ _ (by omega) (by omega) (by omega) (by omega), eIk, if_pos ⟨by omega, by omega, rfl⟩, show 11 + p - 11 = p by omega]
    · rw [ek _ _ (by omega) (by omega) (by omega) (by omega), eIk, if_neg (by omega), if_pos ⟨by omega, by omega, rfl⟩, show 11 + p - 11 = p by omega]
    · exact eh _ _ (by omega) (by omega) (by omega) (by omega) (by omega) (by omega)
    · exact eh _ _ (by omega) (by omega) (by omega) (by omega) (by omega) (by omega)
    · rw [eI, if_neg (by omega), if_pos rfl, kk0]
    · rw [eI, if_neg (by omega), if_neg (by omega), if_pos rfl, kk0]
    · exact eh _ _ (by omega) (by omega) (by omega) (by omega) (by omega) (by omega)
    · exact eh _ _ (by omega) (by omega) (by omega) (by omega) (by omega) (by omega)

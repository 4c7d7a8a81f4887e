/-! pair: resize -/
set_option maxRecDepth 100000

theorem rs_A {L : Nat} {xs : Nat → Int32} {c n a z p0 ow gr : Nat} {h : gi_H} (J : jH L xs c h) (hc : c ≤ 7142) (hn : n < 64) (hr : gi_R h 5 n = some a) (hN : rN h (gi_I h) n a) (hz : z < 768) (ho : ow < 16) (hg : gr < 16) (ep : p0 = (z + 63) / 64) (wA : z % 64 = 0 ∨ gi_I h 89 (12 * n + z / 64) = -1) : jH L xs (c + 1) (gi_pI (rw2 (rw2 (dH (gi_pI (qst (cutH h a n p0 (12 - p0)) (bo_ (AD (gi_I h) (-(nI (cs (gi_I h) n p0 (12 - p0))))) (2 * ow + 0) (32 + 2 * gr + 0) (U0 h))) a 5 (nI z)) n p0 (12 - p0)) 107 108 (dsc (gi_I h) (cs (gi_I (gi_pI (qst (cutH h a n p0 (12 - p0)) (bo_ (AD (gi_I h) (-(nI (cs (gi_I h) n p0 (12 - p0))))) (2 * ow + 0) (32 + 2 * gr + 0) (U0 h))) a 5 (nI z))) n p0 (12 - p0)) ow gr (T0 (gi_pI (qst (cutH h a n p0 (12 - p0)) (bo_ (AD (gi_I h) (-(nI (cs (gi_I h) n p0 (12 - p0))))) (2 * ow + 0) (32 + 2 * gr + 0) (U0 h))) a 5 (nI z))))) 102 105 (K0 (dH (gi_pI (qst (cutH h a n p0 (12 - p0)) (bo_ (AD (gi_I h) (-(nI (cs (gi_I h) n p0 (12 - p0))))) (2 * ow + 0) (32 + 2 * gr + 0) (U0 h))) a 5 (nI z)) n p0 (12 - p0)) (dsc (gi_I h) (cs (gi_I (gi_pI (qst (cutH h a n p0 (12 - p0)) (bo_ (AD (gi_I h) (-(nI (cs (gi_I h) n p0 (12 - p0))))) (2 * ow + 0) (32 + 2 * gr + 0) (U0 h))) a 5 (nI z))) n p0 (12 - p0)) ow gr (T0 (gi_pI (qst (cutH h a n p0 (12 - p0)) (bo_ (AD (gi_I h) (-(nI (cs (gi_I h) n p0 (12 - p0))))) (2 * ow + 0) (32 + 2 * gr + 0) (U0 h))) a 5 (nI z)))))) 88 n (nI z)) := by
  have hS := J.1
  have h109 := hS.1
  obtain ⟨j1, j2, j3, j4, j5, j6, j7, j8, j9, j10, j11, j12, j13, j14⟩ := id J
  obtain ⟨d1, d2, d3, c1, c2, c3, f7, f8, k0, k1, k2, k3, k4, k5, k6, kp, kl, kf, kt⟩ := id hN
  have dd1 := d1
  have dd2 := d2
  unfold dy at dd1 dd2
  generalize hk : (gi_pI (qst (cutH h a n p0 (12 - p0)) (bo_ (AD (gi_I h) (-(nI (cs (gi_I h) n p0 (12 - p0))))) (2 * ow + 0) (32 + 2 * gr + 0) (U0 h))) a 5 (nI z)) = k
  have eIk : ∀ x y, gi_I k x y = if x = a ∧ y = 5 then nI z else if 11 ≤ x ∧ x < 75 ∧ y = 0 then ((bo_ (AD (gi_I h) (-(nI (cs (gi_I h) n p0 (12 - p0))))) (2 * ow + 0) (32 + 2 * gr + 0) (U0 h)) (x - 11)).1 else if 11 ≤ x ∧ x < 75 ∧ y = 1 then ((bo_ (AD (gi_I h) (-(nI (cs (gi_I h) n p0 (12 - p0))))) (2 * ow + 0) (32 + 2 * gr + 0) (U0 h)) (x - 11)).2 else if x = a + 1 ∧ p0 ≤ y ∧ y < p0 + (12 - p0) then -1 else gi_I h x y := fun x y => by rw [← hk]; rfl
  have eRk : ∀ x y, gi_R k x y = if x = 7 ∧ hs (gi_I h) n y p0 (12 - p0) = true then none else gi_R h x y := fun x y => by rw [← hk]; rfl
  have eck : ∀ x, gi_c k x = gi_c h x := fun x => by rw [← hk]; rfl
  have enk : gi_n k = gi_n h := by rw [← hk]; rfl
  have euk : gi_u k = gi_u h := by rw [← hk]; rfl
  clear hk
  have rows : ∀ x y, 79 ≤ x → x < 109 → gi_I k x y = gi_I h x y := fun x y w1 w2 => by
    rw [eIk, if_neg (by omega), if_neg (by omega), if_neg (by omega), if_neg (by omega)]
  have ehs : ∀ y, hs (gi_I k) n y p0 (12 - p0) = hs (gi_I h) n y p0 (12 - p0) := fun y => hs_c (fun q => rows _ _ (by omega) (by omega)) _
  have ecs : cs (gi_I k) n p0 (12 - p0) = cs (gi_I h) n p0 (12 - p0) := cs_c (fun q => rows _ _ (by omega) (by omega)) _
  have eT : ∀ p, p < 64 → T0 k p = (gi_I h 102 p, gi_I h 105 p) := fun p hp => by rw [T0_c (h := h) (fun x y hx => rows x y (by omega) (by omega)), T0_J hp]
  rw [ecs]
  generalize hT : dsc (gi_I h) (cs (gi_I h) n p0 (12 - p0)) ow gr (T0 k) = T
  have tv : ∀ p, p < 64 → T p = (bo_ (AD (gi_I h) (-(nI (cs (gi_I h) n p0 (12 - p0))))) (2 * ow + 0) (32 + 2 * gr + 0) (U0 h)) p := fun p hp => by
    rw [← hT]
    unfold dsc
    rw [bo_v, bo_v, eT p hp, U0_J J hp]
    by_cases w : p = 2 * ow + 0 ∨ p = 32 + 2 * gr + 0
    · rw [if_pos w, if_pos w]
      exact DS_n J hc hp _ (by have := cs_le (S := gi_I h) (n := n) (p := p0) (12 - p0); omega)
    · rw [if_neg w, if_neg w]
  clear hT
  have hV : ∀ p, p < 64 → iv (gi_I h 103 p) (32 * (c + 1 : Nat)) ((bo_ (AD (gi_I h) (-(nI (cs (gi_I h) n p0 (12 - p0))))) (2 * ow + 0) (32 + 2 * gr + 0) (U0 h)) p) := fun p hp => by
    rw [bo_v, U0_J J hp]
    by_cases w : p = 2 * ow + 0 ∨ p = 32 + 2 * gr + 0
    · rw [if_pos w]
      have le := cs_le (S := gi_I h) (n := n) (p := p0) (12 - p0)
      exact AD_iv J hc hp (by rw [neg_i (by omega)]; omega)
    · rw [if_neg w]; exact iv_up (iv_J J hp)
  generalize hK : (gi_pI (rw2 (rw2 (dH k n p0 (12 - p0)) 107 108 T) 102 105 (K0 (dH k n p0 (12 - p0)) T)) 88 n (nI z)) = K
  have eI : ∀ x y, gi_I K x y = if x = 88 ∧ y = n then nI z else if x = 102 then (K0 (dH k n p0 (12 - p0)) T y).1 else if x = 105 then (K0 (dH k n p0 (12 - p0)) T y).2 else if x = 107 then (T y).1 else if x = 108 then (T y).2 else if x = 89 ∧ 12 * n + p0 ≤ y ∧ y < 12 * n + (p0 + (12 - p0)) then -1 else if x = 91 ∧ hs (gi_I k) n y p0 (12 - p0) = true then 0 else gi_I k x y := fun x y => by rw [← hK]; rfl
  have eR : ∀ x y, gi_R K x y = if x = 7 ∧ hs (gi_I h) n y p0 (12 - p0) = true then none else gi_R h x y := fun x y => by rw [← eRk, ← hK]; rfl
  have ec : ∀ x, gi_c K x = gi_c h x := fun x => by rw [← eck, ← hK]; rfl
  have en : gi_n K = gi_n h := by rw [← enk, ← hK]; rfl
  have eu : gi_u K = gi_u h := by rw [← euk, ← hK]; rfl
  clear hK
  have ek : ∀ x y, ¬ (x = 88 ∧ y = n) → x ≠ 102 → x ≠ 105 → x ≠ 107 → x ≠ 108 → x ≠ 89 → x ≠ 91 → gi_I K x y = gi_I k x y := fun x y w1 w2 w3 w4 w5 w6 w7 => by
    rw [eI, if_neg w1, if_neg w2, if_neg w3, if_neg w4, if_neg w5, if_neg (fun q => w6 q.1), if_neg (fun q => w7 q.1)]
  have eh : ∀ x y, ¬ (x = 88 ∧ y = n) → x ≠ 102 → x ≠ 105 → x ≠ 107 → x ≠ 108 → x ≠ 89 → x ≠ 91 → ¬ (x = a ∧ y = 5) → ¬ (11 ≤ x ∧ x < 75 ∧ (y = 0 ∨ y = 1)) → ¬ (x = a + 1 ∧ p0 ≤ y ∧ y < 12) → gi_I K x y = gi_I h x y := fun x y w1 w2 w3 w4 w5 w6 w7 w9 w10 w12 => by
    rw [ek x y w1 w2 w3 w4 w5 w6 w7, eIk, if_neg w9, if_neg (by omega), if_neg (by omega), if_neg (by omega)]
  refine j_cut (V := (bo_ (AD (gi_I h) (-(nI (cs (gi_I h) n p0 (12 - p0))))) (2 * ow + 0) (32 + 2 * gr + 0) (U0 h))) J hn hr hN (by omega) ep en eu ec eR ?_ ?_ ?_ ?_ ?_ ?_ ?_ ?_ ?_ ?_ ?_ ?_ ?_ ?_ hV
  · intro x y w1 w2
    exact eh x y (by omega) (by omega) (by omega) (by omega) (by omega) (by omega) (by omega) (by omega) (by omega) (by omega)
  · intro x y hd w1 w2 w3
    unfold dy at hd
    exact eh x y (by omega) (by omega) (by omega) (by omega) (by omega) (by omega) (by omega) (by omega) (by omega) (by omega)
  · intro x y hx
    exact eh x y (by omega) (by omega) (by omega) (by omega) (by omega) (by omega) (by omega) (by omega) (by omega) (by omega)
  · intro j ne
    exact eh _ _ (by omega) (by omega) (by omega) (by omega) (by omega) (by omega) (by omega) (by omega) (by omega) (by omega)
  · rw [eI, if_pos ⟨rfl, rfl⟩]
  · intro i
    rw [eI, if_neg (by omega), if_neg (by omega), if_neg (by omega), if_neg (by omega), if_neg (by omega)]
    by_cases w : 12 * n + p0 ≤ i ∧ i < 12 * n + 12
    · rw [if_pos ⟨rfl, w.1, by omega⟩, if_pos w]
    · rw [if_neg (by omega), if_neg (by omega), if_neg w]; exact rows _ _ (by omega) (by omega)
  · intro y
    rw [eI, if_neg (by omega), if_neg (by omega), if_neg (by omega), if_neg (by omega), if_neg (by omega), if_neg (by omega), ehs]
    by_cases w : hs (gi_I h) n y p0 (12 - p0) = true
    · rw [if_pos ⟨rfl, w⟩, if_pos w]
    · rw [if_neg (fun q => w q.2), if_neg w]; exact rows _ _ (by omega) (by omega)
  · intro y hy
    exact eh _ _ (by omega) (by omega) (by omega) (by omega) (by omega) (by omega) (by omega) (by omega) (by omega) (by omega)
  · rw [ek _ _ (by omega) (by omega) (by omega) (by omega) (by omega) (by omega) (by omega), eIk, if_pos ⟨rfl, rfl⟩]
  · intro p hp
    rw [ek _ _ (by omega) (by omega) (by omega) (by omega) (by omega) (by omega) (by omega), eIk, if_neg (by omega), if_neg (by omega), if_neg (by omega)]
    by_cases w : p0 ≤ p
    · rw [if_pos ⟨rfl, w, by omega⟩, if_pos w]
    · rw [if_neg (by omega), if_neg w]
  · intro q B' hq hB' hh j hj
    obtain ⟨o0, o1, o2, o3, o4, o5, o6⟩ := (j9.1 q hq).2 B' hB'
    have b1 : a ≠ B' + 1 := ne_c (by rw [c1, o5]; decide)
    have b2 : a + 1 ≠ B' + 1 := ne_c (by rw [c2, o5]; decide)
    unfold dy at o2
    rw [eh _ _ (by omega) (by omega) (by omega) (by omega) (by omega) (by omega) (by omega) (by omega) (by omega) (by omega), eh 92 _ (by omega) (by omega) (by omega) (by omega) (by omega) (by omega) (by omega) (by omega) (by omega) (by omega)]
    exact o6 j hj
  · intro q j hq hj
    exact Or.inl (eh 92 _ (by omega) (by omega) (by omega) (by omega) (by omega) (by omega) (by omega) (by omega) (by omega) (by omega))
  · intro p k' b hp hk' hzp hb eb
    rcases wA with wA | wA
    · omega
    · have : p = z / 64 := by omega
      subst this
      rw [wA] at eb
      have := congrArg Int32.toInt eb
      rw [nI_toInt (by omega), ti_m1] at this
      omega
  · intro p hp
    have kk0 : K0 (dH k n p0 (12 - p0)) T p = (bo_ (AD (gi_I h) (-(nI (cs (gi_I h) n p0 (12 - p0))))) (2 * ow + 0) (32 + 2 * gr + 0) (U0 h)) p := by unfold K0 cp_; rw [if_pos hp, tv p hp]
    have o11 : ∀ y, gi_I K (11 + p) y = gi_I k (11 + p) y := fun y => ek _ _ (by omega) (by omega) (by omega) (by omega) (by omega) (by omega) (by omega)
    refine ⟨⟨?_, ?_, ?_, ?_⟩, ⟨?_, ?_⟩, ?_, ?_⟩
    · rw [o11, eIk, if_neg (by omega), if_pos ⟨by omega, by omega, rfl⟩, show 11 + p - 11 = p by omega]
    · rw [o11, eIk, if_neg (by omega), if_neg (by omega), if_pos ⟨by omega, by omega, rfl⟩, show 11 + p - 11 = p by omega]
    · exact eh _ _ (by omega) (by omega) (by omega) (by omega) (by omega) (by omega) (by omega) (by omega) (by omega) (by omega)
    · exact eh _ _ (by omega) (by omega) (by omega) (by omega) (by omega) (by omega) (by omega) (by omega) (by omega) (by omega)
    · rw [eI, if_neg (by omega), if_pos rfl, kk0]
    · rw [eI, if_neg (by omega), if_neg (by omega), if_pos rfl, kk0]
    · exact eh _ _ (by omega) (by omega) (by omega) (by omega) (by omega) (by omega) (by omega) (by omega) (by omega) (by omega)
    · exact eh _ _ (by omega) (by omega) (by omega) (by omega) (by omega) (by omega) (by omega) (by omega) (by omega) (by omega)
theorem rs_B {L : Nat} {xs : Nat → Int32} {c n a z p0 ow gr : Nat} {h : gi_H} (J : jH L xs c h) (hc : c ≤ 7142) (hn : n < 64) (hr : gi_R h 5 n = some a) (hN : rN h (gi_I h) n a) (hz : z < 768) (ho : ow < 16) (hg : gr < 16) (ep : p0 = (z + 63) / 64) {b B : Nat} (hb : b < 256) (wz : ¬ z % 64 = 0) (eb : gi_I h 89 (12 * n + z / 64) = nI b) (eB : gi_R h 7 b = some B) : jH L xs (c + 1) (gi_pI (zM (rw2 (rw2 (dH (gi_pI (qst (zH (cutH h a n p0 (12 - p0)) B (z % 64) (64 - z % 64)) (bo_ (AD (gi_I h) (-(nI (cs (gi_I h) n p0 (12 - p0))))) (2 * ow + 0) (32 + 2 * gr + 0) (U0 h))) a 5 (nI z)) n p0 (12 - p0)) 107 108 (dsc (gi_I h) (cs (gi_I (gi_pI (qst (zH (cutH h a n p0 (12 - p0)) B (z % 64) (64 - z % 64)) (bo_ (AD (gi_I h) (-(nI (cs (gi_I h) n p0 (12 - p0))))) (2 * ow + 0) (32 + 2 * gr + 0) (U0 h))) a 5 (nI z))) n p0 (12 - p0)) ow gr (T0 (gi_pI (qst (zH (cutH h a n p0 (12 - p0)) B (z % 64) (64 - z % 64)) (bo_ (AD (gi_I h) (-(nI (cs (gi_I h) n p0 (12 - p0))))) (2 * ow + 0) (32 + 2 * gr + 0) (U0 h))) a 5 (nI z))))) 102 105 (K0 (dH (gi_pI (qst (zH (cutH h a n p0 (12 - p0)) B (z % 64) (64 - z % 64)) (bo_ (AD (gi_I h) (-(nI (cs (gi_I h) n p0 (12 - p0))))) (2 * ow + 0) (32 + 2 * gr + 0) (U0 h))) a 5 (nI z)) n p0 (12 - p0)) (dsc (gi_I h) (cs (gi_I (gi_pI (qst (zH (cutH h a n p0 (12 - p0)) B (z % 64) (64 - z % 64)) (bo_ (AD (gi_I h) (-(nI (cs (gi_I h) n p0 (12 - p0))))) (2 * ow + 0) (32 + 2 * gr + 0) (U0 h))) a 5 (nI z))) n p0 (12 - p0)) ow gr (T0 (gi_pI (qst (zH (cutH h a n p0 (12 - p0)) B (z % 64) (64 - z % 64)) (bo_ (AD (gi_I h) (-(nI (cs (gi_I h) n p0 (12 - p0))))) (2 * ow + 0) (32 + 2 * gr + 0) (U0 h))) a 5 (nI z)))))) b (z % 64) (64 - z % 64)) 88 n (nI z)) := by
  have hS := J.1
  have h109 := hS.1
  obtain ⟨j1, j2, j3, j4, j5, j6, j7, j8, j9, j10, j11, j12, j13, j14⟩ := id J
  obtain ⟨d1, d2, d3, c1, c2, c3, f7, f8, k0, k1, k2, k3, k4, k5, k6, kp, kl, kf, kt⟩ := id hN
  have dd1 := d1
  have dd2 := d2
  unfold dy at dd1 dd2
  obtain ⟨o0, o1, o2, o3, o4, o5, o6⟩ := (j9.1 b hb).2 B eB
  have do2 := o2
  unfold dy at do2
  have aB : a ≠ B + 1 := ne_c (by rw [c1, o5]; decide)
  have aB1 : a + 1 ≠ B + 1 := ne_c (by rw [c2, o5]; decide)
  have hsb : hs (gi_I h) n b p0 (12 - p0) = false := hs_ne J hn (by omega) (q := z / 64) (by omega) (by omega) hb eb
  generalize hk : (gi_pI (qst (zH (cutH h a n p0 (12 - p0)) B (z % 64) (64 - z % 64)) (bo_ (AD (gi_I h) (-(nI (cs (gi_I h) n p0 (12 - p0))))) (2 * ow + 0) (32 + 2 * gr + 0) (U0 h))) a 5 (nI z)) = k
  have eIk : ∀ x y, gi_I k x y = if x = a ∧ y = 5 then nI z else if 11 ≤ x ∧ x < 75 ∧ y = 0 then ((bo_ (AD (gi_I h) (-(nI (cs (gi_I h) n p0 (12 - p0))))) (2 * ow + 0) (32 + 2 * gr + 0) (U0 h)) (x - 11)).1 else if 11 ≤ x ∧ x < 75 ∧ y = 1 then ((bo_ (AD (gi_I h) (-(nI (cs (gi_I h) n p0 (12 - p0))))) (2 * ow + 0) (32 + 2 * gr + 0) (U0 h)) (x - 11)).2 else if x = B + 1 ∧ z % 64 ≤ y ∧ y < z % 64 + (64 - z % 64) then 0 else if x = a + 1 ∧ p0 ≤ y ∧ y < p0 + (12 - p0) then -1 else gi_I h x y := fun x y => by rw [← hk]; rfl
  have eRk : ∀ x y, gi_R k x y = if x = 7 ∧ hs (gi_I h) n y p0 (12 - p0) = true then none else gi_R h x y := fun x y => by rw [← hk]; rfl
  have eck : ∀ x, gi_c k x = gi_c h x := fun x => by rw [← hk]; rfl
  have enk : gi_n k = gi_n h := by rw [← hk]; rfl
  have euk : gi_u k = gi_u h := by rw [← hk]; rfl
  clear hk
  have rows : ∀ x y, 79 ≤ x → x < 109 → gi_I k x y = gi_I h x y := fun x y w1 w2 => by
    rw [eIk, if_neg (by omega), if_neg (by omega), if_neg (by omega), if_neg (by omega), if_neg (by omega)]
  have ehs : ∀ y, hs (gi_I k) n y p0 (12 - p0) = hs (gi_I h) n y p0 (12 - p0) := fun y => hs_c (fun q => rows _ _ (by omega) (by omega)) _
  have ecs : cs (gi_I k) n p0 (12 - p0) = cs (gi_I h) n p0 (12 - p0) := cs_c (fun q => rows _ _ (by omega) (by omega)) _
  have eT : ∀ p, p < 64 → T0 k p = (gi_I h 102 p, gi_I h 105 p) := fun p hp => by rw [T0_c (h := h) (fun x y hx => rows x y (by omega) (by omega)), T0_J hp]
  rw [ecs]
  generalize hT : dsc (gi_I h) (cs (gi_I h) n p0 (12 - p0)) ow gr (T0 k) = T
  have tv : ∀ p, p < 64 → T p = (bo_ (AD (gi_I h) (-(nI (cs (gi_I h) n p0 (12 - p0))))) (2 * ow + 0) (32 + 2 * gr + 0) (U0 h)) p := fun p hp => by
    rw [← hT]
    unfold dsc
    rw [bo_v, bo_v, eT p hp, U0_J J hp]
    by_cases w : p = 2 * ow + 0 ∨ p = 32 + 2 * gr + 0
    · rw [if_pos w, if_pos w]
      exact DS_n J hc hp _ (by have := cs_le (S := gi_I h) (n := n) (p := p0) (12 - p0); omega)
    · rw [if_neg w, if_neg w]
  clear hT
  have hV : ∀ p, p < 64 → iv (gi_I h 103 p) (32 * (c + 1 : Nat)) ((bo_ (AD (gi_I h) (-(nI (cs (gi_I h) n p0 (12 - p0))))) (2 * ow + 0) (32 + 2 * gr + 0) (U0 h)) p) := fun p hp => by
    rw [bo_v, U0_J J hp]
    by_cases w : p = 2 * ow + 0 ∨ p = 32 + 2 * gr + 0
    · rw [if_pos w]
      have le := cs_le (S := gi_I h) (n := n) (p := p0) (12 - p0)
      exact AD_iv J hc hp (by rw [neg_i (by omega)]; omega)
    · rw [if_neg w]; exact iv_up (iv_J J hp)
  generalize hK : (gi_pI (zM (rw2 (rw2 (dH k n p0 (12 - p0)) 107 108 T) 102 105 (K0 (dH k n p0 (12 - p0)) T)) b (z % 64) (64 - z % 64)) 88 n (nI z)) = K
  have eI : ∀ x y, gi_I K x y = if x = 88 ∧ y = n then nI z else if x = 92 ∧ 64 * b + z % 64 ≤ y ∧ y < 64 * b + (z % 64 + (64 - z % 64)) then 0 else if x = 102 then (K0 (dH k n p0 (12 - p0)) T y).1 else if x = 105 then (K0 (dH k n p0 (12 - p0)) T y).2 else if x = 107 then (T y).1 else if x = 108 then (T y).2 else if x = 89 ∧ 12 * n + p0 ≤ y ∧ y < 12 * n + (p0 + (12 - p0)) then -1 else if x = 91 ∧ hs (gi_I k) n y p0 (12 - p0) = true then 0 else gi_I k x y := fun x y => by rw [← hK]; rfl
  have eR : ∀ x y, gi_R K x y = if x = 7 ∧ hs (gi_I h) n y p0 (12 - p0) = true then none else gi_R h x y := fun x y => by rw [← eRk, ← hK]; rfl
  have ec : ∀ x, gi_c K x = gi_c h x := fun x => by rw [← eck, ← hK]; rfl
  have en : gi_n K = gi_n h := by rw [← enk, ← hK]; rfl
  have eu : gi_u K = gi_u h := by rw [← euk, ← hK]; rfl
  clear hK
  have ek : ∀ x y, ¬ (x = 88 ∧ y = n) → x ≠ 102 → x ≠ 105 → x ≠ 107 → x ≠ 108 → x ≠ 89 → x ≠ 91 → ¬ (x = 92 ∧ 64 * b + z % 64 ≤ y ∧ y < 64 * b + 64) → gi_I K x y = gi_I k x y := fun x y w1 w2 w3 w4 w5 w6 w7 w8 => by
    rw [eI, if_neg w1, if_neg (by omega), if_neg w2, if_neg w3, if_neg w4, if_neg w5, if_neg (fun q => w6 q.1), if_neg (fun q => w7 q.1)]
  have eh : ∀ x y, ¬ (x = 88 ∧ y = n) → x ≠ 102 → x ≠ 105 → x ≠ 107 → x ≠ 108 → x ≠ 89 → x ≠ 91 → ¬ (x = 92 ∧ 64 * b + z % 64 ≤ y ∧ y < 64 * b + 64) → ¬ (x = a ∧ y = 5) → ¬ (11 ≤ x ∧ x < 75 ∧ (y = 0 ∨ y = 1)) → ¬ (x = B + 1 ∧ z % 64 ≤ y ∧ y < 64) → ¬ (x = a + 1 ∧ p0 ≤ y ∧ y < 12) → gi_I K x y = gi_I h x y := fun x y w1 w2 w3 w4 w5 w6 w7 w8 w9 w10 w11 w12 => by
    rw [ek x y w1 w2 w3 w4 w5 w6 w7 w8, eIk, if_neg w9, if_neg (by omega), if_neg (by omega), if_neg (by omega), if_neg (by omega)]
  refine j_cut (V := (bo_ (AD (gi_I h) (-(nI (cs (gi_I h) n p0 (12 - p0))))) (2 * ow + 0) (32 + 2 * gr + 0) (U0 h))) J hn hr hN (by omega) ep en eu ec eR ?_ ?_ ?_ ?_ ?_ ?_ ?_ ?_ ?_ ?_ ?_ ?_ ?_ ?_ hV
  · intro x y w1 w2
    exact eh x y (by omega) (by omega) (by omega) (by omega) (by omega) (by omega) (by omega) (by omega) (by omega) (by omega) (by omega) (by omega)
  · intro x y hd w1 w2 w3
    have nx : x ≠ B + 1 := fun q => w3 (by rw [q, o5])
    unfold dy at hd
    exact eh x y (by omega) (by omega) (by omega) (by omega) (by omega) (by omega) (by omega) (by omega) (by omega) (by omega) (by omega) (by omega)
  · intro x y hx
    exact eh x y (by omega) (by omega) (by omega) (by omega) (by omega) (by omega) (by omega) (by omega) (by omega) (by omega) (by omega) (by omega)
  · intro j ne
    exact eh _ _ (by omega) (by omega) (by omega) (by omega) (by omega) (by omega) (by omega) (by omega) (by omega) (by omega) (by omega) (by omega)
  · rw [eI, if_pos ⟨rfl, rfl⟩]
  · intro i
    rw [eI, if_neg (by omega), if_neg (by omega), if_neg (by omega), if_neg (by omega), if_neg (by omega), if_neg (by omega)]
    by_cases w : 12 * n + p0 ≤ i ∧ i < 12 * n + 12
    · rw [if_pos ⟨rfl, w.1, by omega⟩, if_pos w]
    · rw [if_neg (by omega), if_neg (by omega), if_neg w]; exact rows _ _ (by omega) (by omega)
  · intro y
    rw [eI, if_neg (by omega), if_neg (by omega), if_neg (by omega), if_neg (by omega), if_neg (by omega), if_neg (by omega), if_neg (by omega), ehs]
    by_cases w : hs (gi_I h) n y p0 (12 - p0) = true
    · rw [if_pos ⟨rfl, w⟩, if_pos w]
    · rw [if_neg (fun q => w q.2), if_neg w]; exact rows _ _ (by omega) (by omega)
  · intro y hy
    exact eh _ _ (by omega) (by omega) (by omega) (by omega) (by omega) (by omega) (by omega) (by omega) (by omega) (by omega) (by omega) (by omega)
  · rw [ek _ _ (by omega) (by omega) (by omega) (by omega) (by omega) (by omega) (by omega) (by omega), eIk, if_pos ⟨rfl, rfl⟩]
  · intro p hp
    rw [ek _ _ (by omega) (by omega) (by omega) (by omega) (by omega) (by omega) (by omega) (by omega), eIk, if_neg (by omega), if_neg (by omega), if_neg (by omega), if_neg (by omega)]
    by_cases w : p0 ≤ p
    · rw [if_pos ⟨rfl, w, by omega⟩, if_pos w]
    · rw [if_neg (by omega), if_neg w]
  · intro q B' hq hB' hh j hj
    obtain ⟨p0', p1', p2', p3', p4', p5', p6'⟩ := (j9.1 q hq).2 B' hB'
    have b1 : a ≠ B' + 1 := ne_c (by rw [c1, p5']; decide)
    have b2 : a + 1 ≠ B' + 1 := ne_c (by rw [c2, p5']; decide)
    unfold dy at p2'
    rw [ek _ _ (by omega) (by omega) (by omega) (by omega) (by omega) (by omega) (by omega) (by omega), eIk, if_neg (by omega), if_neg (by omega), if_neg (by omega)]
    by_cases e : q = b
    · subst e
      rw [eB] at hB'
      cases hB'
      by_cases w : z % 64 ≤ j
      · rw [if_pos ⟨rfl, w, by omega⟩, eI, if_neg (by omega), if_pos ⟨rfl, by omega, by omega⟩]
      · rw [if_neg (by omega), if_neg (by omega), eh 92 _ (by omega) (by omega) (by omega) (by omega) (by omega) (by omega) (by omega) (by omega) (by omega) (by omega) (by omega) (by omega)]
        exact p6' j hj
    · have nB : B' + 1 ≠ B + 1 := fun w => e (j9.2 q b B' hq hb hB' (by rw [eB]; congr 1; omega))
      rw [if_neg (fun w => nB w.1), if_neg (by omega), eh 92 _ (by omega) (by omega) (by omega) (by omega) (by omega) (by omega) (by omega) (by omega) (by omega) (by omega) (by omega) (by omega)]
      exact p6' j hj
  · intro q j hq hj
    by_cases w : 64 * b + z % 64 ≤ 64 * q + j ∧ 64 * q + j < 64 * b + 64
    · exact Or.inr (by rw [eI, if_neg (by omega), if_pos ⟨rfl, by omega, by omega⟩])
    · exact Or.inl (eh 92 _ (by omega) (by omega) (by omega) (by omega) (by omega) (by omega) (by omega) (by omega) (by omega) (by omega) (by omega) (by omega))
  · intro p k' b' hp hk' hzp hb' eb'
    have : p = z / 64 := by omega
    subst this
    rw [eb] at eb'
    have : b = b' := (nI_eq (by omega) (by omega)).mp eb'
    subst this
    rw [eI, if_neg (by omega), if_pos ⟨rfl, by omega, by omega⟩]
  · intro p hp
    have kk0 : K0 (dH k n p0 (12 - p0)) T p = (bo_ (AD (gi_I h) (-(nI (cs (gi_I h) n p0 (12 - p0))))) (2 * ow + 0) (32 + 2 * gr + 0) (U0 h)) p := by unfold K0 cp_; rw [if_pos hp, tv p hp]
    have o11 : ∀ y, gi_I K (11 + p) y = gi_I k (11 + p) y := fun y => ek _ _ (by omega) (by omega) (by omega) (by omega) (by omega) (by omega) (by omega) (by omega)
    refine ⟨⟨?_, ?_, ?_, ?_⟩, ⟨?_, ?_⟩, ?_, ?_⟩
    · rw [o11, eIk, if_neg (by omega), if_pos ⟨by omega, by omega, rfl⟩, show 11 + p - 11 = p by omega]
    · rw [o11, eIk, if_neg (by omega), if_neg (by omega), if_pos ⟨by omega, by omega, rfl⟩, show 11 + p - 11 = p by omega]
    · exact eh _ _ (by omega) (by omega) (by omega) (by omega) (by omega) (by omega) (by omega) (by omega) (by omega) (by omega) (by omega) (by omega)
    · exact eh _ _ (by omega) (by omega) (by omega) (by omega) (by omega) (by omega) (by omega) (by omega) (by omega) (by omega) (by omega) (by omega)
    · rw [eI, if_neg (by omega), if_neg (by omega), if_pos rfl, kk0]
    · rw [eI, if_neg (by omega), if_neg (by omega), if_neg (by omega), if_pos rfl, kk0]
    · exact eh _ _ (by omega) (by omega) (by omega) (by omega) (by omega) (by omega) (by omega) (by omega) (by omega) (by omega) (by omega) (by omega)
    · exact eh _ _ (by omega) (by omega) (by omega) (by omega) (by omega) (by omega) (by omega) (by omega) (by omega) (by omega) (by omega) (by omega)

/-! pair: remove -/
set_option maxRecDepth 100000

theorem rm_A {L : Nat} {xs : Nat → Int32} {c n a ow gr nb : Nat} {h : gi_H} (J : jH L xs c h) (hc : c ≤ 7142) (hn : n < 64) (h0 : 0 < n) (hr : gi_R h 5 n = some a) (hN : rN h (gi_I h) n a) (ho : ow < 16) (hg : gr < 16) (w : gi_I h 90 n = -1) (enb : (if gi_I h 90 n < 0 then 0 else 1) + gi_ct (fun p => !decide (gi_I h 89 (12 * n + p) < 0)) 0 12 = nb) (nolie : ∀ j, 0 < j → j < 64 → 0 < (gi_I h 83 j).toInt → gi_I h 84 j ≠ nI n) : jH L xs (c + 1) (gi_pI (lnH (rw2 (rw2 (dH (gi_pR (rlH (qst h (bo_ (AD (gi_I h) (-1)) (2 * ow + 1) (32 + 2 * gr + 1) (bo_ (AD (gi_I h) (-(nI nb))) (2 * ow + 0) (32 + 2 * gr + 0) (U0 h)))) (gi_I h) n 12) 5 n none) n 0 12) 107 108 (dsc (gi_I h) (cs (gi_I (gi_pR (rlH (qst h (bo_ (AD (gi_I h) (-1)) (2 * ow + 1) (32 + 2 * gr + 1) (bo_ (AD (gi_I h) (-(nI nb))) (2 * ow + 0) (32 + 2 * gr + 0) (U0 h)))) (gi_I h) n 12) 5 n none)) n 0 12) ow gr (bo_ (DS (gi_I h)) (2 * ow + 1) (32 + 2 * gr + 1) (T0 (gi_pR (rlH (qst h (bo_ (AD (gi_I h) (-1)) (2 * ow + 1) (32 + 2 * gr + 1) (bo_ (AD (gi_I h) (-(nI nb))) (2 * ow + 0) (32 + 2 * gr + 0) (U0 h)))) (gi_I h) n 12) 5 n none))))) 102 105 (K0 (dH (gi_pR (rlH (qst h (bo_ (AD (gi_I h) (-1)) (2 * ow + 1) (32 + 2 * gr + 1) (bo_ (AD (gi_I h) (-(nI nb))) (2 * ow + 0) (32 + 2 * gr + 0) (U0 h)))) (gi_I h) n 12) 5 n none) n 0 12) (dsc (gi_I h) (cs (gi_I (gi_pR (rlH (qst h (bo_ (AD (gi_I h) (-1)) (2 * ow + 1) (32 + 2 * gr + 1) (bo_ (AD (gi_I h) (-(nI nb))) (2 * ow + 0) (32 + 2 * gr + 0) (U0 h)))) (gi_I h) n 12) 5 n none)) n 0 12) ow gr (bo_ (DS (gi_I h)) (2 * ow + 1) (32 + 2 * gr + 1) (T0 (gi_pR (rlH (qst h (bo_ (AD (gi_I h) (-1)) (2 * ow + 1) (32 + 2 * gr + 1) (bo_ (AD (gi_I h) (-(nI nb))) (2 * ow + 0) (32 + 2 * gr + 0) (U0 h)))) (gi_I h) n 12) 5 n none)))))) n 32) 83 n 0) := by
  have hS := J.1
  have h109 := hS.1
  obtain ⟨j1, j2, j3, j4, j5, j6, j7, j8, j9, j10, j11, j12, j13, j14⟩ := id J
  have sn := j12.1
  rw [cs_ct (fun p hp => ((sn.2 n hn).2.2.2.2.2.2.2.2 p hp).1.1) 12 (by omega)] at enb
  have le := cs_le (S := gi_I h) (n := n) (p := 0) 12
  have enb' : nb = cs (gi_I h) n 0 12 := by
    rw [← enb]
    rw [if_pos (by rw [w]; decide), Nat.zero_add]
  have eh : ∀ y, hit (gi_I h) n y = hs (gi_I h) n y 0 12 := fun y => by
    unfold hit
    rw [decide_eq_false, Bool.or_false]
    rintro ⟨w1, w2⟩
    rw [w] at w2
    have := congrArg Int32.toInt w2
    rw [nI_toInt (by omega), ti_m1] at this
    omega
  generalize hk : (gi_pR (rlH (qst h (bo_ (AD (gi_I h) (-1)) (2 * ow + 1) (32 + 2 * gr + 1) (bo_ (AD (gi_I h) (-(nI nb))) (2 * ow + 0) (32 + 2 * gr + 0) (U0 h)))) (gi_I h) n 12) 5 n none) = k
  have eIk : ∀ x y, gi_I k x y = if 11 ≤ x ∧ x < 75 ∧ y = 0 then ((bo_ (AD (gi_I h) (-1)) (2 * ow + 1) (32 + 2 * gr + 1) (bo_ (AD (gi_I h) (-(nI nb))) (2 * ow + 0) (32 + 2 * gr + 0) (U0 h))) (x - 11)).1 else if 11 ≤ x ∧ x < 75 ∧ y = 1 then ((bo_ (AD (gi_I h) (-1)) (2 * ow + 1) (32 + 2 * gr + 1) (bo_ (AD (gi_I h) (-(nI nb))) (2 * ow + 0) (32 + 2 * gr + 0) (U0 h))) (x - 11)).2 else gi_I h x y := fun x y => by rw [← hk]; rfl
  have eRk : ∀ x y, gi_R k x y = if x = 5 ∧ y = n then none else if x = 7 ∧ hs (gi_I h) n y 0 12 = true then none else gi_R h x y := fun x y => by rw [← hk]; rfl
  have eck : ∀ x, gi_c k x = gi_c h x := fun x => by rw [← hk]; rfl
  have enk : gi_n k = gi_n h := by rw [← hk]; rfl
  have euk : gi_u k = gi_u h := by rw [← hk]; rfl
  clear hk
  have rows : ∀ x y, ¬ (11 ≤ x ∧ x < 75) → gi_I k x y = gi_I h x y := fun x y w1 => by
    rw [eIk, if_neg (by omega), if_neg (by omega)]
  have ehs : ∀ y, hs (gi_I k) n y 0 12 = hs (gi_I h) n y 0 12 := fun y => hs_c (fun q => rows _ _ (by omega)) _
  have ecs : cs (gi_I k) n 0 12 = cs (gi_I h) n 0 12 := cs_c (fun q => rows _ _ (by omega)) _
  have eT : ∀ p, p < 64 → T0 k p = (gi_I h 102 p, gi_I h 105 p) := fun p hp => by rw [T0_c (h := h) (fun x y hx => rows x y (by omega)), T0_J hp]
  rw [ecs, ← enb']
  generalize hT : dsc (gi_I h) nb ow gr (bo_ (DS (gi_I h)) (2 * ow + 1) (32 + 2 * gr + 1) (T0 k)) = T
  have tv : ∀ p, p < 64 → T p = (bo_ (AD (gi_I h) (-1)) (2 * ow + 1) (32 + 2 * gr + 1) (bo_ (AD (gi_I h) (-(nI nb))) (2 * ow + 0) (32 + 2 * gr + 0) (U0 h))) p := fun p hp => by
    rw [← hT]
    unfold dsc
    rw [bo_v, bo_v, bo_v, bo_v, eT p hp, U0_J J hp]
    by_cases w1 : p = 2 * ow + 0 ∨ p = 32 + 2 * gr + 0
    · rw [if_pos w1, if_neg (by omega), if_neg (by omega), if_pos w1]
      exact DS_n J hc hp nb (by omega)
    · rw [if_neg w1]
      by_cases w2 : p = 2 * ow + 1 ∨ p = 32 + 2 * gr + 1
      · rw [if_pos w2, if_pos w2, if_neg w1]
        exact DS_n J hc hp 1 (by omega)
      · rw [if_neg w2, if_neg w2, if_neg w1]
  clear hT
  have hV : ∀ p, p < 64 → iv (gi_I h 103 p) (32 * (c + 1 : Nat)) ((bo_ (AD (gi_I h) (-1)) (2 * ow + 1) (32 + 2 * gr + 1) (bo_ (AD (gi_I h) (-(nI nb))) (2 * ow + 0) (32 + 2 * gr + 0) (U0 h))) p) := fun p hp => by
    rw [bo_v, bo_v, U0_J J hp]
    by_cases w1 : p = 2 * ow + 0 ∨ p = 32 + 2 * gr + 0
    · rw [if_neg (by omega), if_pos w1]
      exact AD_iv J hc hp (by rw [neg_i (by omega)]; omega)
    · by_cases w2 : p = 2 * ow + 1 ∨ p = 32 + 2 * gr + 1
      · rw [if_pos w2, if_neg w1]
        exact AD_iv J hc hp (by decide)
      · rw [if_neg w2, if_neg w1]; exact iv_up (iv_J J hp)
  generalize hK : (gi_pI (lnH (rw2 (rw2 (dH k n 0 12) 107 108 T) 102 105 (K0 (dH k n 0 12) T)) n 32) 83 n 0) = K
  have eI : ∀ x y, gi_I K x y = if x = 83 ∧ y = n then 0 else if x = 99 ∧ 32 * n ≤ y ∧ y < 32 * n + 32 then -1 else if x = 102 then (K0 (dH k n 0 12) T y).1 else if x = 105 then (K0 (dH k n 0 12) T y).2 else if x = 107 then (T y).1 else if x = 108 then (T y).2 else if x = 89 ∧ 12 * n + 0 ≤ y ∧ y < 12 * n + (0 + 12) then -1 else if x = 91 ∧ hs (gi_I k) n y 0 12 = true then 0 else gi_I k x y := fun x y => by rw [← hK]; rfl
  have eR : ∀ x y, gi_R K x y = gi_R k x y := fun x y => by rw [← hK]; rfl
  have ec : ∀ x, gi_c K x = gi_c h x := fun x => by rw [← eck, ← hK]; rfl
  have en : gi_n K = gi_n h := by rw [← enk, ← hK]; rfl
  have eu : gi_u K = gi_u h := by rw [← euk, ← hK]; rfl
  clear hK
  have ek : ∀ x y, ¬ (x = 83 ∧ y = n) → ¬ (x = 89 ∧ 12 * n ≤ y ∧ y < 12 * n + 12) → ¬ (x = 90 ∧ y = n) → x ≠ 91 → ¬ (x = 99 ∧ 32 * n ≤ y ∧ y < 32 * n + 32) → ¬ (x = 102 ∨ x = 105 ∨ x = 107 ∨ x = 108) → gi_I K x y = gi_I k x y := fun x y w1 w2 w3 w4 w5 w6 => by
    rw [eI, if_neg w1, if_neg w5, if_neg (by omega), if_neg (by omega), if_neg (by omega), if_neg (by omega), if_neg (by omega), if_neg (fun q => w4 q.1)]
  refine j_rm (V := (bo_ (AD (gi_I h) (-1)) (2 * ow + 1) (32 + 2 * gr + 1) (bo_ (AD (gi_I h) (-(nI nb))) (2 * ow + 0) (32 + 2 * gr + 0) (U0 h)))) J hn h0 hr hN en eu ec (fun x y => ?_) (fun x y w1 w2 w3 w4 w5 w6 w7 => ?_) ?_ ?_ ?_ ?_ ?_ nolie (fun p hp => ?_) hV
  · rw [eR, eRk, eh]
    skip
  · rw [ek x y w2 w3 w4 w5 w6 (by omega)]
    exact rows x y w1
  · rw [eI, if_pos ⟨rfl, rfl⟩]
  · intro p hp
    rw [eI, if_neg (by omega), if_neg (by omega), if_neg (by omega), if_neg (by omega), if_neg (by omega), if_neg (by omega), if_pos ⟨rfl, by omega, by omega⟩]
  · rw [eI, if_neg (by omega), if_neg (by omega), if_neg (by omega), if_neg (by omega), if_neg (by omega), if_neg (by omega), if_neg (by omega), if_neg (by omega), rows _ _ (by omega), w]
  · intro y
    rw [eI, if_neg (by omega), if_neg (by omega), if_neg (by omega), if_neg (by omega), if_neg (by omega), if_neg (by omega), eh]
    rw [if_neg (by omega), ehs]
    by_cases w1 : hs (gi_I h) n y 0 12 = true
    · rw [if_pos ⟨rfl, w1⟩, if_pos w1]
    · rw [if_neg (fun q => w1 q.2), if_neg w1]; exact rows _ _ (by omega)
  · intro t ht
    rw [eI, if_neg (by omega), if_pos ⟨rfl, by omega, by omega⟩]
  · have kk0 : K0 (dH k n 0 12) T p = (bo_ (AD (gi_I h) (-1)) (2 * ow + 1) (32 + 2 * gr + 1) (bo_ (AD (gi_I h) (-(nI nb))) (2 * ow + 0) (32 + 2 * gr + 0) (U0 h))) p := by unfold K0 cp_; rw [if_pos hp, tv p hp]
    have o11 : ∀ y, gi_I K (11 + p) y = gi_I k (11 + p) y := fun y => ek _ _ (by omega) (by omega) (by omega) (by omega) (by omega) (by omega)
    refine ⟨⟨?_, ?_, ?_, ?_⟩, ⟨?_, ?_⟩, ?_, ?_⟩
    · rw [o11, eIk, if_pos ⟨by omega, by omega, rfl⟩, show 11 + p - 11 = p by omega]
    · rw [o11, eIk, if_neg (by omega), if_pos ⟨by omega, by omega, rfl⟩, show 11 + p - 11 = p by omega]
    · rw [o11, eIk, if_neg (by omega), if_neg (by omega)]
    · rw [o11, eIk, if_neg (by omega), if_neg (by omega)]
    · rw [eI, if_neg (by omega), if_neg (by omega), if_pos rfl, kk0]
    · rw [eI, if_neg (by omega), if_neg (by omega), if_neg (by omega), if_pos rfl, kk0]
    · rw [ek _ _ (by omega) (by omega) (by omega) (by omega) (by omega) (by omega)]; exact rows _ _ (by omega)
    · rw [ek _ _ (by omega) (by omega) (by omega) (by omega) (by omega) (by omega)]; exact rows _ _ (by omega)
theorem rm_B {L : Nat} {xs : Nat → Int32} {c n a ow gr nb : Nat} {h : gi_H} (J : jH L xs c h) (hc : c ≤ 7142) (hn : n < 64) (h0 : 0 < n) (hr : gi_R h 5 n = some a) (hN : rN h (gi_I h) n a) (ho : ow < 16) (hg : gr < 16) {b : Nat} (hb : b < 256) (eb : gi_I h 90 n = nI b) (enb : (if gi_I h 90 n < 0 then 0 else 1) + gi_ct (fun p => !decide (gi_I h 89 (12 * n + p) < 0)) 0 12 = nb) (nolie : ∀ j, 0 < j → j < 64 → 0 < (gi_I h 83 j).toInt → gi_I h 84 j ≠ nI n) : jH L xs (c + 1) (gi_pI (lnH (rw2 (rw2 (gi_pI (gi_pI (dH (gi_pR (rlH (gi_pR (qst h (bo_ (AD (gi_I h) (-1)) (2 * ow + 1) (32 + 2 * gr + 1) (bo_ (AD (gi_I h) (-(nI nb))) (2 * ow + 0) (32 + 2 * gr + 0) (U0 h)))) 7 b none) (gi_I h) n 12) 5 n none) n 0 12) 91 b 0) 90 n (-1)) 107 108 (dsc (gi_I h) (cs (gi_I (gi_pR (rlH (gi_pR (qst h (bo_ (AD (gi_I h) (-1)) (2 * ow + 1) (32 + 2 * gr + 1) (bo_ (AD (gi_I h) (-(nI nb))) (2 * ow + 0) (32 + 2 * gr + 0) (U0 h)))) 7 b none) (gi_I h) n 12) 5 n none)) n 0 12 + 1) ow gr (bo_ (DS (gi_I h)) (2 * ow + 1) (32 + 2 * gr + 1) (T0 (gi_pR (rlH (gi_pR (qst h (bo_ (AD (gi_I h) (-1)) (2 * ow + 1) (32 + 2 * gr + 1) (bo_ (AD (gi_I h) (-(nI nb))) (2 * ow + 0) (32 + 2 * gr + 0) (U0 h)))) 7 b none) (gi_I h) n 12) 5 n none))))) 102 105 (K0 (gi_pI (gi_pI (dH (gi_pR (rlH (gi_pR (qst h (bo_ (AD (gi_I h) (-1)) (2 * ow + 1) (32 + 2 * gr + 1) (bo_ (AD (gi_I h) (-(nI nb))) (2 * ow + 0) (32 + 2 * gr + 0) (U0 h)))) 7 b none) (gi_I h) n 12) 5 n none) n 0 12) 91 b 0) 90 n (-1)) (dsc (gi_I h) (cs (gi_I (gi_pR (rlH (gi_pR (qst h (bo_ (AD (gi_I h) (-1)) (2 * ow + 1) (32 + 2 * gr + 1) (bo_ (AD (gi_I h) (-(nI nb))) (2 * ow + 0) (32 + 2 * gr + 0) (U0 h)))) 7 b none) (gi_I h) n 12) 5 n none)) n 0 12 + 1) ow gr (bo_ (DS (gi_I h)) (2 * ow + 1) (32 + 2 * gr + 1) (T0 (gi_pR (rlH (gi_pR (qst h (bo_ (AD (gi_I h) (-1)) (2 * ow + 1) (32 + 2 * gr + 1) (bo_ (AD (gi_I h) (-(nI nb))) (2 * ow + 0) (32 + 2 * gr + 0) (U0 h)))) 7 b none) (gi_I h) n 12) 5 n none)))))) n 32) 83 n 0) := by
  have hS := J.1
  have h109 := hS.1
  obtain ⟨j1, j2, j3, j4, j5, j6, j7, j8, j9, j10, j11, j12, j13, j14⟩ := id J
  have sn := j12.1
  rw [cs_ct (fun p hp => ((sn.2 n hn).2.2.2.2.2.2.2.2 p hp).1.1) 12 (by omega)] at enb
  have le := cs_le (S := gi_I h) (n := n) (p := 0) 12
  have enb' : nb = cs (gi_I h) n 0 12 + 1 := by
    rw [← enb]
    rw [if_neg (by rw [eb, i32_lt, nI_toInt (by omega), ti_0]; omega), Nat.add_comm]
  have eh : ∀ y, hit (gi_I h) n y = (hs (gi_I h) n y 0 12 || decide (y = b)) := fun y => by
    unfold hit
    congr 1
    rw [eb]
    by_cases w1 : y = b
    · subst w1; simp [hb]
    · rw [decide_eq_false w1]
      refine decide_eq_false ?_
      rintro ⟨w2, w3⟩
      exact w1 ((nI_eq (by omega) (by omega)).mp w3).symm
  generalize hk : (gi_pR (rlH (gi_pR (qst h (bo_ (AD (gi_I h) (-1)) (2 * ow + 1) (32 + 2 * gr + 1) (bo_ (AD (gi_I h) (-(nI nb))) (2 * ow + 0) (32 + 2 * gr + 0) (U0 h)))) 7 b none) (gi_I h) n 12) 5 n none) = k
  have eIk : ∀ x y, gi_I k x y = if 11 ≤ x ∧ x < 75 ∧ y = 0 then ((bo_ (AD (gi_I h) (-1)) (2 * ow + 1) (32 + 2 * gr + 1) (bo_ (AD (gi_I h) (-(nI nb))) (2 * ow + 0) (32 + 2 * gr + 0) (U0 h))) (x - 11)).1 else if 11 ≤ x ∧ x < 75 ∧ y = 1 then ((bo_ (AD (gi_I h) (-1)) (2 * ow + 1) (32 + 2 * gr + 1) (bo_ (AD (gi_I h) (-(nI nb))) (2 * ow + 0) (32 + 2 * gr + 0) (U0 h))) (x - 11)).2 else gi_I h x y := fun x y => by rw [← hk]; rfl
  have eRk : ∀ x y, gi_R k x y = if x = 5 ∧ y = n then none else if x = 7 ∧ hs (gi_I h) n y 0 12 = true then none else if x = 7 ∧ y = b then none else gi_R h x y := fun x y => by rw [← hk]; rfl
  have eck : ∀ x, gi_c k x = gi_c h x := fun x => by rw [← hk]; rfl
  have enk : gi_n k = gi_n h := by rw [← hk]; rfl
  have euk : gi_u k = gi_u h := by rw [← hk]; rfl
  clear hk
  have rows : ∀ x y, ¬ (11 ≤ x ∧ x < 75) → gi_I k x y = gi_I h x y := fun x y w1 => by
    rw [eIk, if_neg (by omega), if_neg (by omega)]
  have ehs : ∀ y, hs (gi_I k) n y 0 12 = hs (gi_I h) n y 0 12 := fun y => hs_c (fun q => rows _ _ (by omega)) _
  have ecs : cs (gi_I k) n 0 12 = cs (gi_I h) n 0 12 := cs_c (fun q => rows _ _ (by omega)) _
  have eT : ∀ p, p < 64 → T0 k p = (gi_I h 102 p, gi_I h 105 p) := fun p hp => by rw [T0_c (h := h) (fun x y hx => rows x y (by omega)), T0_J hp]
  rw [ecs, ← enb']
  generalize hT : dsc (gi_I h) nb ow gr (bo_ (DS (gi_I h)) (2 * ow + 1) (32 + 2 * gr + 1) (T0 k)) = T
  have tv : ∀ p, p < 64 → T p = (bo_ (AD (gi_I h) (-1)) (2 * ow + 1) (32 + 2 * gr + 1) (bo_ (AD (gi_I h) (-(nI nb))) (2 * ow + 0) (32 + 2 * gr + 0) (U0 h))) p := fun p hp => by
    rw [← hT]
    unfold dsc
    rw [bo_v, bo_v, bo_v, bo_v, eT p hp, U0_J J hp]
    by_cases w1 : p = 2 * ow + 0 ∨ p = 32 + 2 * gr + 0
    · rw [if_pos w1, if_neg (by omega), if_neg (by omega), if_pos w1]
      exact DS_n J hc hp nb (by omega)
    · rw [if_neg w1]
      by_cases w2 : p = 2 * ow + 1 ∨ p = 32 + 2 * gr + 1
      · rw [if_pos w2, if_pos w2, if_neg w1]
        exact DS_n J hc hp 1 (by omega)
      · rw [if_neg w2, if_neg w2, if_neg w1]
  clear hT
  have hV : ∀ p, p < 64 → iv (gi_I h 103 p) (32 * (c + 1 : Nat)) ((bo_ (AD (gi_I h) (-1)) (2 * ow + 1) (32 + 2 * gr + 1) (bo_ (AD (gi_I h) (-(nI nb))) (2 * ow + 0) (32 + 2 * gr + 0) (U0 h))) p) := fun p hp => by
    rw [bo_v, bo_v, U0_J J hp]
    by_cases w1 : p = 2 * ow + 0 ∨ p = 32 + 2 * gr + 0
    · rw [if_neg (by omega), if_pos w1]
      exact AD_iv J hc hp (by rw [neg_i (by omega)]; omega)
    · by_cases w2 : p = 2 * ow + 1 ∨ p = 32 + 2 * gr + 1
      · rw [if_pos w2, if_neg w1]
        exact AD_iv J hc hp (by decide)
      · rw [if_neg w2, if_neg w1]; exact iv_up (iv_J J hp)
  generalize hK : (gi_pI (lnH (rw2 (rw2 (gi_pI (gi_pI (dH k n 0 12) 91 b 0) 90 n (-1)) 107 108 T) 102 105 (K0 (gi_pI (gi_pI (dH k n 0 12) 91 b 0) 90 n (-1)) T)) n 32) 83 n 0) = K
  have eI : ∀ x y, gi_I K x y = if x = 83 ∧ y = n then 0 else if x = 99 ∧ 32 * n ≤ y ∧ y < 32 * n + 32 then -1 else if x = 102 then (K0 (gi_pI (gi_pI (dH k n 0 12) 91 b 0) 90 n (-1)) T y).1 else if x = 105 then (K0 (gi_pI (gi_pI (dH k n 0 12) 91 b 0) 90 n (-1)) T y).2 else if x = 107 then (T y).1 else if x = 108 then (T y).2 else if x = 90 ∧ y = n then -1 else if x = 91 ∧ y = b then 0 else if x = 89 ∧ 12 * n + 0 ≤ y ∧ y < 12 * n + (0 + 12) then -1 else if x = 91 ∧ hs (gi_I k) n y 0 12 = true then 0 else gi_I k x y := fun x y => by rw [← hK]; rfl
  have eR : ∀ x y, gi_R K x y = gi_R k x y := fun x y => by rw [← hK]; rfl
  have ec : ∀ x, gi_c K x = gi_c h x := fun x => by rw [← eck, ← hK]; rfl
  have en : gi_n K = gi_n h := by rw [← enk, ← hK]; rfl
  have eu : gi_u K = gi_u h := by rw [← euk, ← hK]; rfl
  clear hK
  have ek : ∀ x y, ¬ (x = 83 ∧ y = n) → ¬ (x = 89 ∧ 12 * n ≤ y ∧ y < 12 * n + 12) → ¬ (x = 90 ∧ y = n) → x ≠ 91 → ¬ (x = 99 ∧ 32 * n ≤ y ∧ y < 32 * n + 32) → ¬ (x = 102 ∨ x = 105 ∨ x = 107 ∨ x = 108) → gi_I K x y = gi_I k x y := fun x y w1 w2 w3 w4 w5 w6 => by
    rw [eI, if_neg w1, if_neg w5, if_neg (by omega), if_neg (by omega), if_neg (by omega), if_neg (by omega), if_neg (by omega), if_neg (by omega), if_neg (by omega), if_neg (fun q => w4 q.1)]
  refine j_rm (V := (bo_ (AD (gi_I h) (-1)) (2 * ow + 1) (32 + 2 * gr + 1) (bo_ (AD (gi_I h) (-(nI nb))) (2 * ow + 0) (32 + 2 * gr + 0) (U0 h)))) J hn h0 hr hN en eu ec (fun x y => ?_) (fun x y w1 w2 w3 w4 w5 w6 w7 => ?_) ?_ ?_ ?_ ?_ ?_ nolie (fun p hp => ?_) hV
  · rw [eR, eRk, eh]
    by_cases w1 : x = 5 ∧ y = n
    · rw [if_pos w1, if_pos w1]
    · rw [if_neg w1, if_neg w1]
      by_cases w2 : x = 7
      · by_cases w3 : hs (gi_I h) n y 0 12 = true
        · rw [if_pos ⟨w2, w3⟩, if_pos ⟨w2, by rw [w3, Bool.true_or]⟩]
        · rw [if_neg (fun z => w3 z.2)]
          by_cases w4 : y = b
          · rw [if_pos ⟨w2, w4⟩, if_pos ⟨w2, by rw [decide_eq_true w4, Bool.or_true]⟩]
          · rw [if_neg (fun z => w4 z.2), if_neg (fun z => by rw [decide_eq_false w4, Bool.or_false] at z; exact w3 z.2)]
      · rw [if_neg (fun z => w2 z.1), if_neg (fun z => w2 z.1), if_neg (fun z => w2 z.1)]
  · rw [ek x y w2 w3 w4 w5 w6 (by omega)]
    exact rows x y w1
  · rw [eI, if_pos ⟨rfl, rfl⟩]
  · intro p hp
    rw [eI, if_neg (by omega), if_neg (by omega), if_neg (by omega), if_neg (by omega), if_neg (by omega), if_neg (by omega), if_neg (by omega), if_neg (by omega), if_pos ⟨rfl, by omega, by omega⟩]
  · rw [eI, if_neg (by omega), if_neg (by omega), if_neg (by omega), if_neg (by omega), if_neg (by omega), if_neg (by omega), if_pos ⟨rfl, rfl⟩]
  · intro y
    rw [eI, if_neg (by omega), if_neg (by omega), if_neg (by omega), if_neg (by omega), if_neg (by omega), if_neg (by omega), eh]
    rw [if_neg (by omega)]
    by_cases w4 : y = b
    · rw [if_pos ⟨rfl, w4⟩, if_pos (by rw [decide_eq_true w4, Bool.or_true])]
    · rw [if_neg (fun z => w4 z.2), if_neg (by omega), ehs, decide_eq_false w4, Bool.or_false]
      by_cases w1 : hs (gi_I h) n y 0 12 = true
      · rw [if_pos ⟨rfl, w1⟩, if_pos w1]
      · rw [if_neg (fun q => w1 q.2), if_neg w1]; exact rows _ _ (by omega)
  · intro t ht
    rw [eI, if_neg (by omega), if_pos ⟨rfl, by omega, by omega⟩]
  · have kk0 : K0 (gi_pI (gi_pI (dH k n 0 12) 91 b 0) 90 n (-1)) T p = (bo_ (AD (gi_I h) (-1)) (2 * ow + 1) (32 + 2 * gr + 1) (bo_ (AD (gi_I h) (-(nI nb))) (2 * ow + 0) (32 + 2 * gr + 0) (U0 h))) p := by unfold K0 cp_; rw [if_pos hp, tv p hp]
    have o11 : ∀ y, gi_I K (11 + p) y = gi_I k (11 + p) y := fun y => ek _ _ (by omega) (by omega) (by omega) (by omega) (by omega) (by omega)
    refine ⟨⟨?_, ?_, ?_, ?_⟩, ⟨?_, ?_⟩, ?_, ?_⟩
    · rw [o11, eIk, if_pos ⟨by omega, by omega, rfl⟩, show 11 + p - 11 = p by omega]
    · rw [o11, eIk, if_neg (by omega), if_pos ⟨by omega, by omega, rfl⟩, show 11 + p - 11 = p by omega]
    · rw [o11, eIk, if_neg (by omega), if_neg (by omega)]
    · rw [o11, eIk, if_neg (by omega), if_neg (by omega)]
    · rw [eI, if_neg (by omega), if_neg (by omega), if_pos rfl, kk0]
    · rw [eI, if_neg (by omega), if_neg (by omega), if_neg (by omega), if_pos rfl, kk0]
    · rw [ek _ _ (by omega) (by omega) (by omega) (by omega) (by omega) (by omega)]; exact rows _ _ (by omega)
    · rw [ek _ _ (by omega) (by omega) (by omega) (by omega) (by omega) (by omega)]; exact rows _ _ (by omega)

/-! put: assembled -/
set_option maxRecDepth 100000

theorem pt_N {L : Nat} {xs : Nat → Int32} {c n a t t1 s1 m ow gr b : Nat} {h : gi_H} (J : jH L xs c h) (hc : c ≤ 7142) (hn : n < 64) (hr : gi_R h 5 n = some a) (hN : rN h (gi_I h) n a) (ht : t < 32) (hm : m ≤ 60) (ho : ow < 16) (hg : gr < 16) (ey : ly_ (lf_ (gi_I h) n (nI t) (nI m)) 0 32 0 0 = some (t1, s1)) (es : 0 ≤ (gi_I h 90 n).toInt ↔ 0 < s1) : jH L xs (c + 1) (gi_pI (vlH (gi_pI (gi_pI (gi_pR (na h m) (a + 2) t (some (gi_n h))) 1 7 0) 99 (32 * n + t) (nI m)) (32 * n + t) m) 79 23 0) := by
  obtain ⟨j1, j2, j3, j4, j5, j6, j7, j8, j9, j10, j11, j12, j13, j14⟩ := id J
  obtain ⟨d1, d2, d3, c1, c2, c3, f7, f8, k0, k1, k2, k3, k4, k5, k6, kp, kl, kf, kt⟩ := id hN
  have h109 := j1.1
  have sn := j12.1
  have dd1 := d1
  have dd3 := d3
  unfold dy at dd1 dd3
  have lt : ∀ x, gi_c h x ≠ (0, 0) → x < gi_n h := fun x hx => Nat.lt_of_not_le (fun w => hx (j2 x w))
  have la := lt a (by rw [c1]; decide)
  have la2 := lt (a + 2) (by rw [c3]; decide)
  generalize hk : (gi_pI (gi_pR (na h m) (a + 2) t (some (gi_n h))) 1 7 0) = k
  have eIk : ∀ x y, gi_I k x y = if x = 1 ∧ y = 7 then 0 else if x = gi_n h then 0 else if x = gi_n h + 1 then (if y < m then gi_I h 75 y else 0) else gi_I h x y := fun x y => by rw [← hk]; rfl
  have eRk : ∀ x y, gi_R k x y = if x = a + 2 ∧ y = t then some (gi_n h) else if x = gi_n h then (if y = 0 then some (gi_n h + 1) else none) else if x = gi_n h + 1 then none else gi_R h x y := fun x y => by rw [← hk]; rfl
  have eck : ∀ x, gi_c k x = if x = gi_n h then (7, 0) else if x = gi_n h + 1 then (101, m) else gi_c h x := fun x => by rw [← hk]; rfl
  have enk : gi_n k = gi_n h + 2 := by rw [← hk]; rfl
  have euk : gi_u k = gi_u h + 1 + m := by rw [← hk]; rfl
  clear hk
  have rows : ∀ x y, 79 ≤ x → x < 109 → gi_I k x y = gi_I h x y := fun x y w1 w2 => by rw [eIk, if_neg (by omega), if_neg (by omega), if_neg (by omega)]

  generalize hK : (gi_pI (vlH (gi_pI k 99 (32 * n + t) (nI m)) (32 * n + t) m) 79 23 0) = K
  have eI : ∀ x y, gi_I K x y = if x = 79 ∧ y = 23 then 0 else if x = 100 ∧ 60 * (32 * n + t) ≤ y ∧ y < 60 * (32 * n + t) + m then gi_I (gi_pI k 99 (32 * n + t) (nI m)) 101 (y - 60 * (32 * n + t)) else if x = 99 ∧ y = 32 * n + t then nI m else gi_I k x y := fun x y => by rw [← hK]; rfl
  have eR : ∀ x y, gi_R K x y = gi_R k x y := fun x y => by rw [← hK]; rfl
  have ec : ∀ x, gi_c K x = gi_c k x := fun x => by rw [← hK]; rfl
  have en : gi_n K = gi_n h + 2 := by rw [← enk, ← hK]; rfl
  have eu : gi_u K = gi_u h + 1 + m := by rw [← euk, ← hK]; rfl
  have m101 : ∀ y, gi_I (gi_pI k 99 (32 * n + t) (nI m)) 101 y = gi_I h 101 y := fun y => by
    rw [← rows 101 y (by omega) (by omega)]
    rw [I_pI, if_neg (by omega)]
  clear hK
  have ek : ∀ x y, ¬ (x = 79 ∧ y = 23) → ¬ (x = 100 ∧ 60 * (32 * n + t) ≤ y ∧ y < 60 * (32 * n + t) + m) → ¬ (x = 99 ∧ y = 32 * n + t) → ¬ (x = 102 ∨ x = 105 ∨ x = 107 ∨ x = 108) → ¬ (x = 90 ∧ y = n) → x ≠ 91 → x ≠ 92 → gi_I K x y = gi_I k x y := fun x y w1 w2 w3 w4 w5 w6 w7 => by
    rw [eI, if_neg w1, if_neg w2, if_neg w3]
  have eh : ∀ x y, x < gi_n h → ¬ (x = 79 ∧ y = 23) → ¬ (x = 100 ∧ 60 * (32 * n + t) ≤ y ∧ y < 60 * (32 * n + t) + m) → ¬ (x = 99 ∧ y = 32 * n + t) → ¬ (x = 102 ∨ x = 105 ∨ x = 107 ∨ x = 108) → ¬ (x = 90 ∧ y = n) → x ≠ 91 → x ≠ 92 → ¬ (x = 1 ∧ y = 7) → ¬ (11 ≤ x ∧ x < 75 ∧ (y = 0 ∨ y = 1)) → ¬ (x = a ∧ y = 6) → gi_I K x y = gi_I h x y := fun x y w0 w1 w2 w3 w4 w5 w6 w7 w8 w9 w10 => by
    rw [ek x y w1 w2 w3 w4 w5 w6 w7, eIk, if_neg w8, if_neg (by omega), if_neg (by omega)]
  have cx : ∀ x, x < gi_n h → gi_c K x = gi_c h x := fun x hx => by rw [ec, eck, if_neg (by omega), if_neg (by omega)]
  have Rx : ∀ x y, x < gi_n h → x ≠ 7 → ¬ (x = a + 2 ∧ y = t) → gi_R K x y = gi_R h x y := fun x y hx w7 w2 => by rw [eR, eRk, if_neg w2, if_neg (by omega), if_neg (by omega)]
  have v90 : gi_I K 90 n = gi_I h 90 n := by
    rw [eI, if_neg (by omega), if_neg (by omega), if_neg (by omega)]; exact rows _ _ (by omega) (by omega)
  have BB : rB K (gi_I K) ∧ sB (gi_I K) := by
    have e91 : ∀ x y, x = 83 ∨ (88 ≤ x ∧ x ≤ 92) → gi_I K x y = gi_I h x y := fun x y hx => by
      rw [eI, if_neg (by omega), if_neg (by omega), if_neg (by omega)]; exact rows _ _ (by omega) (by omega)
    refine ⟨rB_fr (fun q _ => by rw [eR, eRk, if_neg (by omega), if_neg (by omega), if_neg (by omega)]) (fun x hd hx => ?_) (fun x y hx => e91 x y (by omega)) j9, sB_c e91 j12.2.2.2⟩
    have lx := lt x (by rcases hx with e | e <;> rw [e] <;> decide)
    have bn := bl_ne hN hx
    unfold dy at hd
    exact ⟨cx x lx, fun y => eh x y lx (by omega) (by omega) (by omega) (by omega) (by omega) (by omega) (by omega) (by omega) (by omega) (fun z => bn.1 z.1), fun y => Rx x y lx (by omega) (fun z => bn.2.2 z.1)⟩
  refine j_at (t1 := t1) (s1 := s1) (V := (fun p => (gi_I h 102 p, gi_I h 105 p))) J hn hr hN ht (by omega) (by omega) (by omega) (fun x hx => ?_) cx (fun x y w0 w w7 => Rx x y w0 w7 w) (fun x y w0 w1 w2 w3 w4 w5 w6 w7 w8 w9 w10 w11 w12 => eh x y w0 (by omega) (by omega) w8 (by omega) w5 w6 w7 (by omega) (by omega) w4) ?_ ?_ ?_ ?_ ?_ ?_ ?_ ?_ (fun p hp => ?_) ?_ BB.1 BB.2
  · rw [en] at hx
    rw [ec, eck, if_neg (by omega), if_neg (by omega)]
    exact j2 x (by omega)
  · rw [v90, ek a 6 (by omega) (by omega) (by omega) (by omega) (by omega) (by omega) (by omega), eIk, if_neg (by omega), if_neg (by omega), if_neg (by omega)]; exact k6
  · rw [v90]; exact (sn.2 n hn).2.2.2.2.2.2.2.1
  · have r : gi_R K (a + 2) t = some (gi_n h) := by rw [eR, eRk, if_pos ⟨rfl, rfl⟩]
    rw [r]
    refine ⟨fun e => (by cases e), fun b' e => ?_⟩
    cases e
    have v99 : gi_I K 99 (32 * n + t) = nI m := by rw [eI, if_neg (by omega), if_neg (by omega), if_pos ⟨rfl, rfl⟩]
    refine ⟨by unfold dy; omega, by unfold dy; omega, ?_, ?_, ?_, ?_, ?_, fun j hj => ?_⟩
    · rw [ec, eck, if_pos rfl]
    · rw [eR, eRk, if_neg (by omega), if_pos rfl, if_pos rfl]
    · rw [v99, nI_clamp (by omega), ec, eck, if_neg (by omega), if_pos rfl]
    · rw [v99, nI_toInt (by omega)]; omega
    · rw [v99, nI_toInt (by omega)]; omega
    · rw [v99, nI_clamp (by omega)] at hj
      rw [ek _ _ (by omega) (by omega) (by omega) (by omega) (by omega) (by omega) (by omega), eIk, if_neg (by omega), if_neg (by omega), if_pos rfl, if_pos hj, eI, if_neg (by omega), if_pos ⟨rfl, by omega, by omega⟩, m101, show 60 * (32 * n + t) + j - 60 * (32 * n + t) = j by omega]
      exact j5.2.2.2.2.2.2 j (by omega)
  · rw [eI, if_neg (by omega), if_neg (by omega), if_pos ⟨rfl, rfl⟩, nI_toInt (by omega)]; omega
  · rw [← ey]
    refine ly_c 32 0 0 0 (fun j _ hj => ?_)
    unfold lf_
    by_cases e : j = t
    · rw [eI, if_neg (by omega), if_neg (by omega), if_pos ⟨rfl, by omega⟩, if_pos (by rw [e])]
    · rw [eh _ _ (by omega) (by omega) (by omega) (by omega) (by omega) (by omega) (by omega) (by omega) (by omega) (by omega) (by omega), if_neg (fun z => e ((nI_eq (by omega) (by omega)).mp z))]
  · rw [v90]; exact es
  · obtain ⟨r1, r2, r3, r4, r5, r6, r7⟩ := j5
    have E := fun x y (w0 : x < 109) (w1 : x ≠ 79 ∨ y = 0) (w2 : x ≠ 100) (w3 : x ≠ 99) (w4 : ¬ (102 ≤ x ∧ x ≤ 108 ∧ x ≠ 106)) (w5 : ¬ (90 ≤ x ∧ x ≤ 92)) (w6 : ¬ (x = 1 ∧ y = 7)) (w7 : ¬ (11 ≤ x ∧ x < 75)) (w8 : ¬ dy x) => eh x y (by omega) (by omega) (by omega) (by omega) (by omega) (by omega) (by omega) (by omega) w6 (by omega) (fun z => w8 (by rw [z.1]; exact d1))
    refine ⟨?_, fun u hu => ?_, fun u hu => ?_, fun u hu => ?_, fun u hu => ?_, ?_, fun u hu => ?_⟩
    · rw [E 8 0 (by omega) (by omega) (by omega) (by omega) (by omega) (by omega) (by omega) (by omega) (by unfold dy; omega), E 79 0 (by omega) (by omega) (by omega) (by omega) (by omega) (by omega) (by omega) (by omega) (by unfold dy; omega)]; exact r1
    · rw [E 2 u (by omega) (by omega) (by omega) (by omega) (by omega) (by omega) (by omega) (by omega) (by unfold dy; omega), E 80 u (by omega) (by omega) (by omega) (by omega) (by omega) (by omega) (by omega) (by omega) (by unfold dy; omega)]; exact r2 u hu
    · rw [E 3 u (by omega) (by omega) (by omega) (by omega) (by omega) (by omega) (by omega) (by omega) (by unfold dy; omega), E 81 u (by omega) (by omega) (by omega) (by omega) (by omega) (by omega) (by omega) (by omega) (by unfold dy; omega)]; exact r3 u hu
    · rw [E 4 u (by omega) (by omega) (by omega) (by omega) (by omega) (by omega) (by omega) (by omega) (by unfold dy; omega), E 82 u (by omega) (by omega) (by omega) (by omega) (by omega) (by omega) (by omega) (by omega) (by unfold dy; omega)]; exact r4 u hu
    · rw [E 10 u (by omega) (by omega) (by omega) (by omega) (by omega) (by omega) (by omega) (by omega) (by unfold dy; omega), E 106 u (by omega) (by omega) (by omega) (by omega) (by omega) (by omega) (by omega) (by omega) (by unfold dy; omega)]; exact r5 u hu
    · rw [ek _ _ (by omega) (by omega) (by omega) (by omega) (by omega) (by omega) (by omega), eIk, if_pos ⟨rfl, rfl⟩, eI, if_pos ⟨rfl, rfl⟩]
    · rw [E 75 u (by omega) (by omega) (by omega) (by omega) (by omega) (by omega) (by omega) (by omega) (by unfold dy; omega), E 101 u (by omega) (by omega) (by omega) (by omega) (by omega) (by omega) (by omega) (by omega) (by unfold dy; omega)]; exact r7 u hu
  · obtain ⟨q1, q2, q3, q4, q5⟩ := j10
    refine ⟨?_, fun u hu => ?_, fun u hu => ?_, ?_, fun u hu => ?_⟩
    · rw [eh _ _ (by omega) (by omega) (by omega) (by omega) (by omega) (by omega) (by omega) (by omega) (by omega) (by omega) (by omega)]; exact q1
    · rw [eh _ _ (by omega) (by omega) (by omega) (by omega) (by omega) (by omega) (by omega) (by omega) (by omega) (by omega) (by omega)]; exact q2 u hu
    · rw [eh _ _ (by omega) (by omega) (by omega) (by omega) (by omega) (by omega) (by omega) (by omega) (by omega) (by omega) (by omega)]; exact q3 u hu
    · rw [eI, if_pos ⟨rfl, rfl⟩]; decide
    · rw [eh _ _ (by omega) (by omega) (by omega) (by omega) (by omega) (by omega) (by omega) (by omega) (by omega) (by omega) (by omega)]; exact q5 u hu
  · obtain ⟨q1, q2, q3, q4⟩ := j6 p hp
    have E := fun x y (w0 : x < 109) (w1 : x ≠ 79) (w2 : ¬ (90 ≤ x ∧ x ≤ 100)) (w3 : ¬ (x = 107 ∨ x = 108)) (w6 : x ≠ 1) (w8 : x ≠ a) => show gi_I K x y = gi_I h x y by rw [eI, if_neg (by omega), if_neg (by omega), if_neg (by omega), eIk, if_neg (by omega), if_neg (by omega), if_neg (by omega)]
    exact ⟨⟨by rw [E _ _ (by omega) (by omega) (by omega) (by omega) (by omega) (by omega)]; exact q1, by rw [E _ _ (by omega) (by omega) (by omega) (by omega) (by omega) (by omega)]; exact q2, E _ _ (by omega) (by omega) (by omega) (by omega) (by omega) (by omega), E _ _ (by omega) (by omega) (by omega) (by omega) (by omega) (by omega)⟩, ⟨E _ _ (by omega) (by omega) (by omega) (by omega) (by omega) (by omega), E _ _ (by omega) (by omega) (by omega) (by omega) (by omega) (by omega)⟩, E _ _ (by omega) (by omega) (by omega) (by omega) (by omega) (by omega), E _ _ (by omega) (by omega) (by omega) (by omega) (by omega) (by omega)⟩
  · exact fun p hp => iv_up (iv_J J hp)
theorem pt_R {L : Nat} {xs : Nat → Int32} {c n a t t1 s1 m ow gr b : Nat} {h : gi_H} (J : jH L xs c h) (hc : c ≤ 7142) (hn : n < 64) (hr : gi_R h 5 n = some a) (hN : rN h (gi_I h) n a) (ht : t < 32) (hm : m ≤ 60) (ho : ow < 16) (hg : gr < 16) (ey : ly_ (lf_ (gi_I h) n (nI t) (nI m)) 0 32 0 0 = some (t1, s1)) (hs1 : s1 = 0) (hb : b < 256) (e90 : gi_I h 90 n = nI b) : jH L xs (c + 1) (gi_pI (vlH (gi_pI (rw2 (rw2 (gi_pI (gi_pI (gi_pI (qst (gi_pI (gi_pR (gi_pR (na h m) (a + 2) t (some (gi_n h))) 7 b none) a 6 (-1)) (qz n (AD (gi_I h) (-1)) (2 * ow + 0) (32 + 2 * gr + 0) (U0 h))) 1 7 0) 91 b 0) 90 n (-1)) 107 108 (qz n (DS (gi_I h)) (2 * ow + 0) (32 + 2 * gr + 0) (T0 (gi_pI (qst (gi_pI (gi_pR (gi_pR (na h m) (a + 2) t (some (gi_n h))) 7 b none) a 6 (-1)) (qz n (AD (gi_I h) (-1)) (2 * ow + 0) (32 + 2 * gr + 0) (U0 h))) 1 7 0)))) 102 105 (K0 (gi_pI (gi_pI (gi_pI (qst (gi_pI (gi_pR (gi_pR (na h m) (a + 2) t (some (gi_n h))) 7 b none) a 6 (-1)) (qz n (AD (gi_I h) (-1)) (2 * ow + 0) (32 + 2 * gr + 0) (U0 h))) 1 7 0) 91 b 0) 90 n (-1)) (qz n (DS (gi_I h)) (2 * ow + 0) (32 + 2 * gr + 0) (T0 (gi_pI (qst (gi_pI (gi_pR (gi_pR (na h m) (a + 2) t (some (gi_n h))) 7 b none) a 6 (-1)) (qz n (AD (gi_I h) (-1)) (2 * ow + 0) (32 + 2 * gr + 0) (U0 h))) 1 7 0))))) 99 (32 * n + t) (nI m)) (32 * n + t) m) 79 23 0) := by
  obtain ⟨j1, j2, j3, j4, j5, j6, j7, j8, j9, j10, j11, j12, j13, j14⟩ := id J
  obtain ⟨d1, d2, d3, c1, c2, c3, f7, f8, k0, k1, k2, k3, k4, k5, k6, kp, kl, kf, kt⟩ := id hN
  have h109 := j1.1
  have sn := j12.1
  have dd1 := d1
  have dd3 := d3
  unfold dy at dd1 dd3
  have lt : ∀ x, gi_c h x ≠ (0, 0) → x < gi_n h := fun x hx => Nat.lt_of_not_le (fun w => hx (j2 x w))
  have la := lt a (by rw [c1]; decide)
  have la2 := lt (a + 2) (by rw [c3]; decide)
  generalize hk : (gi_pI (qst (gi_pI (gi_pR (gi_pR (na h m) (a + 2) t (some (gi_n h))) 7 b none) a 6 (-1)) (qz n (AD (gi_I h) (-1)) (2 * ow + 0) (32 + 2 * gr + 0) (U0 h))) 1 7 0) = k
  have eIk : ∀ x y, gi_I k x y = if x = 1 ∧ y = 7 then 0 else if 11 ≤ x ∧ x < 75 ∧ y = 0 then ((qz n (AD (gi_I h) (-1)) (2 * ow + 0) (32 + 2 * gr + 0) (U0 h)) (x - 11)).1 else if 11 ≤ x ∧ x < 75 ∧ y = 1 then ((qz n (AD (gi_I h) (-1)) (2 * ow + 0) (32 + 2 * gr + 0) (U0 h)) (x - 11)).2 else if x = a ∧ y = 6 then -1 else if x = gi_n h then 0 else if x = gi_n h + 1 then (if y < m then gi_I h 75 y else 0) else gi_I h x y := fun x y => by rw [← hk]; rfl
  have eRk : ∀ x y, gi_R k x y = if x = 7 ∧ y = b then none else if x = a + 2 ∧ y = t then some (gi_n h) else if x = gi_n h then (if y = 0 then some (gi_n h + 1) else none) else if x = gi_n h + 1 then none else gi_R h x y := fun x y => by rw [← hk]; rfl
  have eck : ∀ x, gi_c k x = if x = gi_n h then (7, 0) else if x = gi_n h + 1 then (101, m) else gi_c h x := fun x => by rw [← hk]; rfl
  have enk : gi_n k = gi_n h + 2 := by rw [← hk]; rfl
  have euk : gi_u k = gi_u h + 1 + m := by rw [← hk]; rfl
  clear hk
  have rows : ∀ x y, 79 ≤ x → x < 109 → gi_I k x y = gi_I h x y := fun x y w1 w2 => by rw [eIk, if_neg (by omega), if_neg (by omega), if_neg (by omega), if_neg (by omega), if_neg (by omega), if_neg (by omega)]
  have eT : ∀ p, p < 64 → T0 k p = (gi_I h 102 p, gi_I h 105 p) := fun p hp => by rw [T0_c (h := h) (fun x y hx => rows x y (by omega) (by omega)), T0_J hp]
  generalize hT : qz n (DS (gi_I h)) (2 * ow + 0) (32 + 2 * gr + 0) (T0 k) = T
  have tv : ∀ p, p < 64 → T p = (qz n (AD (gi_I h) (-1)) (2 * ow + 0) (32 + 2 * gr + 0) (U0 h)) p := fun p hp => by
    rw [← hT]
    unfold qz
    by_cases w : n = 0
    · rw [if_pos w, if_pos w, eT p hp, U0_J J hp]
    · rw [if_neg w, if_neg w, bo_v, bo_v, eT p hp, U0_J J hp]
      by_cases w1 : p = 2 * ow + 0 ∨ p = 32 + 2 * gr + 0
      · rw [if_pos w1, if_pos w1]
        exact DS_n J hc hp 1 (by omega)
      · rw [if_neg w1, if_neg w1]
  clear hT
  have hV : ∀ p, p < 64 → iv (gi_I h 103 p) (32 * (c + 1 : Nat)) ((qz n (AD (gi_I h) (-1)) (2 * ow + 0) (32 + 2 * gr + 0) (U0 h)) p) := fun p hp => by
    unfold qz
    by_cases w : n = 0
    · rw [if_pos w, U0_J J hp]; exact iv_up (iv_J J hp)
    · rw [if_neg w, bo_v, U0_J J hp]
      by_cases w1 : p = 2 * ow + 0 ∨ p = 32 + 2 * gr + 0
      · rw [if_pos w1]; exact AD_iv J hc hp (by decide)
      · rw [if_neg w1]; exact iv_up (iv_J J hp)
  generalize hK : (gi_pI (vlH (gi_pI (rw2 (rw2 (gi_pI (gi_pI k 91 b 0) 90 n (-1)) 107 108 T) 102 105 (K0 (gi_pI (gi_pI k 91 b 0) 90 n (-1)) T)) 99 (32 * n + t) (nI m)) (32 * n + t) m) 79 23 0) = K
  have eI : ∀ x y, gi_I K x y = if x = 79 ∧ y = 23 then 0 else if x = 100 ∧ 60 * (32 * n + t) ≤ y ∧ y < 60 * (32 * n + t) + m then gi_I (gi_pI (rw2 (rw2 (gi_pI (gi_pI k 91 b 0) 90 n (-1)) 107 108 T) 102 105 (K0 (gi_pI (gi_pI k 91 b 0) 90 n (-1)) T)) 99 (32 * n + t) (nI m)) 101 (y - 60 * (32 * n + t)) else if x = 99 ∧ y = 32 * n + t then nI m else if x = 102 then (K0 (gi_pI (gi_pI k 91 b 0) 90 n (-1)) T y).1 else if x = 105 then (K0 (gi_pI (gi_pI k 91 b 0) 90 n (-1)) T y).2 else if x = 107 then (T y).1 else if x = 108 then (T y).2 else if x = 90 ∧ y = n then -1 else if x = 91 ∧ y = b then 0 else gi_I k x y := fun x y => by rw [← hK]; rfl
  have eR : ∀ x y, gi_R K x y = gi_R k x y := fun x y => by rw [← hK]; rfl
  have ec : ∀ x, gi_c K x = gi_c k x := fun x => by rw [← hK]; rfl
  have en : gi_n K = gi_n h + 2 := by rw [← enk, ← hK]; rfl
  have eu : gi_u K = gi_u h + 1 + m := by rw [← euk, ← hK]; rfl
  have m101 : ∀ y, gi_I (gi_pI (rw2 (rw2 (gi_pI (gi_pI k 91 b 0) 90 n (-1)) 107 108 T) 102 105 (K0 (gi_pI (gi_pI k 91 b 0) 90 n (-1)) T)) 99 (32 * n + t) (nI m)) 101 y = gi_I h 101 y := fun y => by
    rw [← rows 101 y (by omega) (by omega)]
    rw [I_pI, if_neg (by omega)]
    rw [I_rw2, if_neg (by omega), if_neg (by omega), I_rw2, if_neg (by omega), if_neg (by omega), I_pI, if_neg (by omega), I_pI, if_neg (by omega)]
  clear hK
  have ek : ∀ x y, ¬ (x = 79 ∧ y = 23) → ¬ (x = 100 ∧ 60 * (32 * n + t) ≤ y ∧ y < 60 * (32 * n + t) + m) → ¬ (x = 99 ∧ y = 32 * n + t) → ¬ (x = 102 ∨ x = 105 ∨ x = 107 ∨ x = 108) → ¬ (x = 90 ∧ y = n) → x ≠ 91 → x ≠ 92 → gi_I K x y = gi_I k x y := fun x y w1 w2 w3 w4 w5 w6 w7 => by
    rw [eI, if_neg w1, if_neg w2, if_neg w3, if_neg (by omega), if_neg (by omega), if_neg (by omega), if_neg (by omega), if_neg w5, if_neg (by omega)]
  have eh : ∀ x y, x < gi_n h → ¬ (x = 79 ∧ y = 23) → ¬ (x = 100 ∧ 60 * (32 * n + t) ≤ y ∧ y < 60 * (32 * n + t) + m) → ¬ (x = 99 ∧ y = 32 * n + t) → ¬ (x = 102 ∨ x = 105 ∨ x = 107 ∨ x = 108) → ¬ (x = 90 ∧ y = n) → x ≠ 91 → x ≠ 92 → ¬ (x = 1 ∧ y = 7) → ¬ (11 ≤ x ∧ x < 75 ∧ (y = 0 ∨ y = 1)) → ¬ (x = a ∧ y = 6) → gi_I K x y = gi_I h x y := fun x y w0 w1 w2 w3 w4 w5 w6 w7 w8 w9 w10 => by
    rw [ek x y w1 w2 w3 w4 w5 w6 w7, eIk, if_neg w8, if_neg (by omega), if_neg (by omega), if_neg (by omega), if_neg (by omega), if_neg (by omega)]
  have cx : ∀ x, x < gi_n h → gi_c K x = gi_c h x := fun x hx => by rw [ec, eck, if_neg (by omega), if_neg (by omega)]
  have Rx : ∀ x y, x < gi_n h → x ≠ 7 → ¬ (x = a + 2 ∧ y = t) → gi_R K x y = gi_R h x y := fun x y hx w7 w2 => by rw [eR, eRk, if_neg (by omega), if_neg w2, if_neg (by omega), if_neg (by omega)]
  have v90 : gi_I K 90 n = -1 := by
    rw [eI, if_neg (by omega), if_neg (by omega), if_neg (by omega), if_neg (by omega), if_neg (by omega), if_neg (by omega), if_neg (by omega), if_pos ⟨rfl, rfl⟩]
  have BB := blk_rel (h := h) (K := K) (b := b) (x0 := 768 + n) j9 j12.2.2.2 (by omega) hb (by unfold ref_; rw [if_neg (by omega), show 768 + n - 768 = n by omega]; exact e90) (fun y _ => by
      rw [eR, eRk]
      by_cases w : y = b
      · rw [if_pos ⟨rfl, w⟩, if_pos w]
      · rw [if_neg (fun z => w z.2), if_neg (by omega), if_neg (by omega), if_neg (by omega), if_neg w]) (fun x hd hx => by
      have lx := lt x (by rcases hx with e | e <;> rw [e] <;> decide)
      have bn := bl_ne hN hx
      unfold dy at hd
      exact ⟨cx x lx, fun y => eh x y lx (by omega) (by omega) (by omega) (by omega) (by omega) (by omega) (by omega) (by omega) (by omega) (fun z => bn.1 z.1), fun y => Rx x y lx (by omega) (fun z => bn.2.2 z.1)⟩) (fun x hx => by
      unfold ref_
      by_cases w : x < 768
      · rw [if_pos w, if_pos w, if_neg (by omega)]
        exact eh _ _ (by omega) (by omega) (by omega) (by omega) (by omega) (by omega) (by omega) (by omega) (by omega) (by omega) (by omega)
      · rw [if_neg w, if_neg w]
        by_cases w2 : x = 768 + n
        · rw [if_pos w2, w2, show 768 + n - 768 = n by omega, v90]
        · rw [if_neg w2]
          exact eh _ _ (by omega) (by omega) (by omega) (by omega) (by omega) (by omega) (by omega) (by omega) (by omega) (by omega) (by omega)) (fun y => by
      rw [eI, if_neg (by omega), if_neg (by omega), if_neg (by omega), if_neg (by omega), if_neg (by omega), if_neg (by omega), if_neg (by omega), if_neg (by omega)]
      by_cases w : y = b
      · rw [if_pos ⟨rfl, w⟩, if_pos w]
      · rw [if_neg (fun z => w z.2), if_neg w]; exact rows _ _ (by omega) (by omega)) (fun y => by
      rw [eI, if_neg (by omega), if_neg (by omega), if_neg (by omega), if_neg (by omega), if_neg (by omega), if_neg (by omega), if_neg (by omega), if_neg (by omega), if_neg (by omega)]; exact rows _ _ (by omega) (by omega)) (fun y _ => eh _ _ (by omega) (by omega) (by omega) (by omega) (by omega) (by omega) (by omega) (by omega) (by omega) (by omega) (by omega))
  refine j_at (t1 := t1) (s1 := s1) (V := (qz n (AD (gi_I h) (-1)) (2 * ow + 0) (32 + 2 * gr + 0) (U0 h))) J hn hr hN ht (by omega) (by omega) (by omega) (fun x hx => ?_) cx (fun x y w0 w w7 => Rx x y w0 w7 w) (fun x y w0 w1 w2 w3 w4 w5 w6 w7 w8 w9 w10 w11 w12 => eh x y w0 (by omega) (by omega) w8 (by omega) w5 w6 w7 (by omega) (by omega) w4) ?_ ?_ ?_ ?_ ?_ ?_ ?_ ?_ (fun p hp => ?_) ?_ BB.1 BB.2
  · rw [en] at hx
    rw [ec, eck, if_neg (by omega), if_neg (by omega)]
    exact j2 x (by omega)
  · rw [v90, ek a 6 (by omega) (by omega) (by omega) (by omega) (by omega) (by omega) (by omega), eIk, if_neg (by omega), if_neg (by omega), if_neg (by omega), if_pos ⟨rfl, rfl⟩]
  · rw [v90]; decide
  · have r : gi_R K (a + 2) t = some (gi_n h) := by rw [eR, eRk, if_neg (by omega), if_pos ⟨rfl, rfl⟩]
    rw [r]
    refine ⟨fun e => (by cases e), fun b' e => ?_⟩
    cases e
    have v99 : gi_I K 99 (32 * n + t) = nI m := by rw [eI, if_neg (by omega), if_neg (by omega), if_pos ⟨rfl, rfl⟩]
    refine ⟨by unfold dy; omega, by unfold dy; omega, ?_, ?_, ?_, ?_, ?_, fun j hj => ?_⟩
    · rw [ec, eck, if_pos rfl]
    · rw [eR, eRk, if_neg (by omega), if_neg (by omega), if_pos rfl, if_pos rfl]
    · rw [v99, nI_clamp (by omega), ec, eck, if_neg (by omega), if_pos rfl]
    · rw [v99, nI_toInt (by omega)]; omega
    · rw [v99, nI_toInt (by omega)]; omega
    · rw [v99, nI_clamp (by omega)] at hj
      rw [ek _ _ (by omega) (by omega) (by omega) (by omega) (by omega) (by omega) (by omega), eIk, if_neg (by omega), if_neg (by omega), if_neg (by omega), if_neg (by omega), if_neg (by omega), if_pos rfl, if_pos hj, eI, if_neg (by omega), if_pos ⟨rfl, by omega, by omega⟩, m101, show 60 * (32 * n + t) + j - 60 * (32 * n + t) = j by omega]
      exact j5.2.2.2.2.2.2 j (by omega)
  · rw [eI, if_neg (by omega), if_neg (by omega), if_pos ⟨rfl, rfl⟩, nI_toInt (by omega)]; omega
  · rw [← ey]
    refine ly_c 32 0 0 0 (fun j _ hj => ?_)
    unfold lf_
    by_cases e : j = t
    · rw [eI, if_neg (by omega), if_neg (by omega), if_pos ⟨rfl, by omega⟩, if_pos (by rw [e])]
    · rw [eh _ _ (by omega) (by omega) (by omega) (by omega) (by omega) (by omega) (by omega) (by omega) (by omega) (by omega) (by omega), if_neg (fun z => e ((nI_eq (by omega) (by omega)).mp z))]
  · rw [v90]; rw [hs1]; decide
  · obtain ⟨r1, r2, r3, r4, r5, r6, r7⟩ := j5
    have E := fun x y (w0 : x < 109) (w1 : x ≠ 79 ∨ y = 0) (w2 : x ≠ 100) (w3 : x ≠ 99) (w4 : ¬ (102 ≤ x ∧ x ≤ 108 ∧ x ≠ 106)) (w5 : ¬ (90 ≤ x ∧ x ≤ 92)) (w6 : ¬ (x = 1 ∧ y = 7)) (w7 : ¬ (11 ≤ x ∧ x < 75)) (w8 : ¬ dy x) => eh x y (by omega) (by omega) (by omega) (by omega) (by omega) (by omega) (by omega) (by omega) w6 (by omega) (fun z => w8 (by rw [z.1]; exact d1))
    refine ⟨?_, fun u hu => ?_, fun u hu => ?_, fun u hu => ?_, fun u hu => ?_, ?_, fun u hu => ?_⟩
    · rw [E 8 0 (by omega) (by omega) (by omega) (by omega) (by omega) (by omega) (by omega) (by omega) (by unfold dy; omega), E 79 0 (by omega) (by omega) (by omega) (by omega) (by omega) (by omega) (by omega) (by omega) (by unfold dy; omega)]; exact r1
    · rw [E 2 u (by omega) (by omega) (by omega) (by omega) (by omega) (by omega) (by omega) (by omega) (by unfold dy; omega), E 80 u (by omega) (by omega) (by omega) (by omega) (by omega) (by omega) (by omega) (by omega) (by unfold dy; omega)]; exact r2 u hu
    · rw [E 3 u (by omega) (by omega) (by omega) (by omega) (by omega) (by omega) (by omega) (by omega) (by unfold dy; omega), E 81 u (by omega) (by omega) (by omega) (by omega) (by omega) (by omega) (by omega) (by omega) (by unfold dy; omega)]; exact r3 u hu
    · rw [E 4 u (by omega) (by omega) (by omega) (by omega) (by omega) (by omega) (by omega) (by omega) (by unfold dy; omega), E 82 u (by omega) (by omega) (by omega) (by omega) (by omega) (by omega) (by omega) (by omega) (by unfold dy; omega)]; exact r4 u hu
    · rw [E 10 u (by omega) (by omega) (by omega) (by omega) (by omega) (by omega) (by omega) (by omega) (by unfold dy; omega), E 106 u (by omega) (by omega) (by omega) (by omega) (by omega) (by omega) (by omega) (by omega) (by unfold dy; omega)]; exact r5 u hu
    · rw [ek _ _ (by omega) (by omega) (by omega) (by omega) (by omega) (by omega) (by omega), eIk, if_pos ⟨rfl, rfl⟩, eI, if_pos ⟨rfl, rfl⟩]
    · rw [E 75 u (by omega) (by omega) (by omega) (by omega) (by omega) (by omega) (by omega) (by omega) (by unfold dy; omega), E 101 u (by omega) (by omega) (by omega) (by omega) (by omega) (by omega) (by omega) (by omega) (by unfold dy; omega)]; exact r7 u hu
  · obtain ⟨q1, q2, q3, q4, q5⟩ := j10
    refine ⟨?_, fun u hu => ?_, fun u hu => ?_, ?_, fun u hu => ?_⟩
    · rw [eh _ _ (by omega) (by omega) (by omega) (by omega) (by omega) (by omega) (by omega) (by omega) (by omega) (by omega) (by omega)]; exact q1
    · rw [eh _ _ (by omega) (by omega) (by omega) (by omega) (by omega) (by omega) (by omega) (by omega) (by omega) (by omega) (by omega)]; exact q2 u hu
    · rw [eh _ _ (by omega) (by omega) (by omega) (by omega) (by omega) (by omega) (by omega) (by omega) (by omega) (by omega) (by omega)]; exact q3 u hu
    · rw [eI, if_pos ⟨rfl, rfl⟩]; decide
    · rw [eh _ _ (by omega) (by omega) (by omega) (by omega) (by omega) (by omega) (by omega) (by omega) (by omega) (by omega) (by omega)]; exact q5 u hu
  · have kk0 : K0 (gi_pI (gi_pI k 91 b 0) 90 n (-1)) T p = (qz n (AD (gi_I h) (-1)) (2 * ow + 0) (32 + 2 * gr + 0) (U0 h)) p := by unfold K0 cp_; rw [if_pos hp, tv p hp]
    have o11 : ∀ y, gi_I K (11 + p) y = gi_I k (11 + p) y := fun y => ek _ _ (by omega) (by omega) (by omega) (by omega) (by omega) (by omega) (by omega)
    refine ⟨⟨?_, ?_, ?_, ?_⟩, ⟨?_, ?_⟩, ?_, ?_⟩
    · rw [o11, eIk, if_neg (by omega), if_pos ⟨by omega, by omega, rfl⟩, show 11 + p - 11 = p by omega]
    · rw [o11, eIk, if_neg (by omega), if_neg (by omega), if_pos ⟨by omega, by omega, rfl⟩, show 11 + p - 11 = p by omega]
    · exact eh _ _ (by omega) (by omega) (by omega) (by omega) (by omega) (by omega) (by omega) (by omega) (by omega) (by omega) (by omega)
    · exact eh _ _ (by omega) (by omega) (by omega) (by omega) (by omega) (by omega) (by omega) (by omega) (by omega) (by omega) (by omega)
    · rw [eI, if_neg (by omega), if_neg (by omega), if_neg (by omega), if_pos rfl, kk0]
    · rw [eI, if_neg (by omega), if_neg (by omega), if_neg (by omega), if_neg (by omega), if_pos rfl, kk0]
    · exact eh _ _ (by omega) (by omega) (by omega) (by omega) (by omega) (by omega) (by omega) (by omega) (by omega) (by omega) (by omega)
    · exact eh _ _ (by omega) (by omega) (by omega) (by omega) (by omega) (by omega) (by omega) (by omega) (by omega) (by omega) (by omega)
  · exact hV
theorem pt_C {L : Nat} {xs : Nat → Int32} {c n a t t1 s1 m ow gr b : Nat} {h : gi_H} (J : jH L xs c h) (hc : c ≤ 7142) (hn : n < 64) (hr : gi_R h 5 n = some a) (hN : rN h (gi_I h) n a) (ht : t < 32) (hm : m ≤ 60) (ho : ow < 16) (hg : gr < 16) (ey : ly_ (lf_ (gi_I h) n (nI t) (nI m)) 0 32 0 0 = some (t1, s1)) (hs1 : 0 < s1) (hb : b < 256) (e90 : gi_I h 90 n = -1) (u0 : gi_R h 7 b = none) : jH L xs (c + 1) (gi_pI (vlH (gi_pI (gi_pI (nM (rw2 (rw2 (gi_pI (qst (gi_pI (nbk (gi_pR (na h m) (a + 2) t (some (gi_n h))) b) a 6 (nI b)) (qz n (AD (gi_I h) (1)) (2 * ow + 0) (32 + 2 * gr + 0) (U0 h))) 1 7 0) 107 108 (qz n (CH (gi_I h)) (2 * ow + 0) (32 + 2 * gr + 0) (T0 (gi_pI (qst (gi_pI (nbk (gi_pR (na h m) (a + 2) t (some (gi_n h))) b) a 6 (nI b)) (qz n (AD (gi_I h) (1)) (2 * ow + 0) (32 + 2 * gr + 0) (U0 h))) 1 7 0)))) 102 105 (K0 (gi_pI (qst (gi_pI (nbk (gi_pR (na h m) (a + 2) t (some (gi_n h))) b) a 6 (nI b)) (qz n (AD (gi_I h) (1)) (2 * ow + 0) (32 + 2 * gr + 0) (U0 h))) 1 7 0) (qz n (CH (gi_I h)) (2 * ow + 0) (32 + 2 * gr + 0) (T0 (gi_pI (qst (gi_pI (nbk (gi_pR (na h m) (a + 2) t (some (gi_n h))) b) a 6 (nI b)) (qz n (AD (gi_I h) (1)) (2 * ow + 0) (32 + 2 * gr + 0) (U0 h))) 1 7 0))))) b) 90 n (nI b)) 99 (32 * n + t) (nI m)) (32 * n + t) m) 79 23 0) := by
  obtain ⟨j1, j2, j3, j4, j5, j6, j7, j8, j9, j10, j11, j12, j13, j14⟩ := id J
  obtain ⟨d1, d2, d3, c1, c2, c3, f7, f8, k0, k1, k2, k3, k4, k5, k6, kp, kl, kf, kt⟩ := id hN
  have h109 := j1.1
  have sn := j12.1
  have dd1 := d1
  have dd3 := d3
  unfold dy at dd1 dd3
  have lt : ∀ x, gi_c h x ≠ (0, 0) → x < gi_n h := fun x hx => Nat.lt_of_not_le (fun w => hx (j2 x w))
  have la := lt a (by rw [c1]; decide)
  have la2 := lt (a + 2) (by rw [c3]; decide)
  generalize hk : (gi_pI (qst (gi_pI (nbk (gi_pR (na h m) (a + 2) t (some (gi_n h))) b) a 6 (nI b)) (qz n (AD (gi_I h) (1)) (2 * ow + 0) (32 + 2 * gr + 0) (U0 h))) 1 7 0) = k
  have eIk : ∀ x y, gi_I k x y = if x = 1 ∧ y = 7 then 0 else if 11 ≤ x ∧ x < 75 ∧ y = 0 then ((qz n (AD (gi_I h) (1)) (2 * ow + 0) (32 + 2 * gr + 0) (U0 h)) (x - 11)).1 else if 11 ≤ x ∧ x < 75 ∧ y = 1 then ((qz n (AD (gi_I h) (1)) (2 * ow + 0) (32 + 2 * gr + 0) (U0 h)) (x - 11)).2 else if x = a ∧ y = 6 then nI b else if x = gi_n h + 2 then 0 else if x = gi_n h + 2 + 1 then 0 else if x = gi_n h then 0 else if x = gi_n h + 1 then (if y < m then gi_I h 75 y else 0) else gi_I h x y := fun x y => by rw [← hk]; rfl
  have eRk : ∀ x y, gi_R k x y = if x = 7 ∧ y = b then some (gi_n h + 2) else if x = gi_n h + 2 then (if y = 0 then some (gi_n h + 2 + 1) else none) else if x = gi_n h + 2 + 1 then none else if x = a + 2 ∧ y = t then some (gi_n h) else if x = gi_n h then (if y = 0 then some (gi_n h + 1) else none) else if x = gi_n h + 1 then none else gi_R h x y := fun x y => by rw [← hk]; rfl
  have eck : ∀ x, gi_c k x = if x = gi_n h + 2 then (8, 0) else if x = gi_n h + 2 + 1 then (101, 64) else if x = gi_n h then (7, 0) else if x = gi_n h + 1 then (101, m) else gi_c h x := fun x => by rw [← hk]; rfl
  have enk : gi_n k = gi_n h + 4 := by rw [← hk]; rfl
  have euk : gi_u k = gi_u h + 1 + m + 65 := by rw [← hk]; rfl
  clear hk
  have rows : ∀ x y, 79 ≤ x → x < 109 → gi_I k x y = gi_I h x y := fun x y w1 w2 => by rw [eIk, if_neg (by omega), if_neg (by omega), if_neg (by omega), if_neg (by omega), if_neg (by omega), if_neg (by omega), if_neg (by omega), if_neg (by omega)]
  have eT : ∀ p, p < 64 → T0 k p = (gi_I h 102 p, gi_I h 105 p) := fun p hp => by rw [T0_c (h := h) (fun x y hx => rows x y (by omega) (by omega)), T0_J hp]
  generalize hT : qz n (CH (gi_I h)) (2 * ow + 0) (32 + 2 * gr + 0) (T0 k) = T
  have tv : ∀ p, p < 64 → T p = (qz n (AD (gi_I h) (1)) (2 * ow + 0) (32 + 2 * gr + 0) (U0 h)) p := fun p hp => by
    rw [← hT]
    unfold qz
    by_cases w : n = 0
    · rw [if_pos w, if_pos w, eT p hp, U0_J J hp]
    · rw [if_neg w, if_neg w, bo_v, bo_v, eT p hp, U0_J J hp]
      by_cases w1 : p = 2 * ow + 0 ∨ p = 32 + 2 * gr + 0
      · rw [if_pos w1, if_pos w1]
        exact CH_n J hc hp 1 (by omega)
      · rw [if_neg w1, if_neg w1]
  clear hT
  have hV : ∀ p, p < 64 → iv (gi_I h 103 p) (32 * (c + 1 : Nat)) ((qz n (AD (gi_I h) (1)) (2 * ow + 0) (32 + 2 * gr + 0) (U0 h)) p) := fun p hp => by
    unfold qz
    by_cases w : n = 0
    · rw [if_pos w, U0_J J hp]; exact iv_up (iv_J J hp)
    · rw [if_neg w, bo_v, U0_J J hp]
      by_cases w1 : p = 2 * ow + 0 ∨ p = 32 + 2 * gr + 0
      · rw [if_pos w1]; exact AD_iv J hc hp (by decide)
      · rw [if_neg w1]; exact iv_up (iv_J J hp)
  generalize hK : (gi_pI (vlH (gi_pI (gi_pI (nM (rw2 (rw2 k 107 108 T) 102 105 (K0 k T)) b) 90 n (nI b)) 99 (32 * n + t) (nI m)) (32 * n + t) m) 79 23 0) = K
  have eI : ∀ x y, gi_I K x y = if x = 79 ∧ y = 23 then 0 else if x = 100 ∧ 60 * (32 * n + t) ≤ y ∧ y < 60 * (32 * n + t) + m then gi_I (gi_pI (gi_pI (nM (rw2 (rw2 k 107 108 T) 102 105 (K0 k T)) b) 90 n (nI b)) 99 (32 * n + t) (nI m)) 101 (y - 60 * (32 * n + t)) else if x = 99 ∧ y = 32 * n + t then nI m else if x = 90 ∧ y = n then nI b else if x = 92 ∧ 64 * b ≤ y ∧ y < 64 * b + 64 then 0 else if x = 91 ∧ y = b then 1 else if x = 102 then (K0 k T y).1 else if x = 105 then (K0 k T y).2 else if x = 107 then (T y).1 else if x = 108 then (T y).2 else gi_I k x y := fun x y => by rw [← hK]; rfl
  have eR : ∀ x y, gi_R K x y = gi_R k x y := fun x y => by rw [← hK]; rfl
  have ec : ∀ x, gi_c K x = gi_c k x := fun x => by rw [← hK]; rfl
  have en : gi_n K = gi_n h + 4 := by rw [← enk, ← hK]; rfl
  have eu : gi_u K = gi_u h + 1 + m + 65 := by rw [← euk, ← hK]; rfl
  have m101 : ∀ y, gi_I (gi_pI (gi_pI (nM (rw2 (rw2 k 107 108 T) 102 105 (K0 k T)) b) 90 n (nI b)) 99 (32 * n + t) (nI m)) 101 y = gi_I h 101 y := fun y => by
    rw [← rows 101 y (by omega) (by omega)]
    rw [I_pI, if_neg (by omega)]
    rw [I_pI, if_neg (by omega), I_nM, if_neg (by omega), if_neg (by omega), I_rw2, if_neg (by omega), if_neg (by omega), I_rw2, if_neg (by omega), if_neg (by omega)]
  clear hK
  have ek : ∀ x y, ¬ (x = 79 ∧ y = 23) → ¬ (x = 100 ∧ 60 * (32 * n + t) ≤ y ∧ y < 60 * (32 * n + t) + m) → ¬ (x = 99 ∧ y = 32 * n + t) → ¬ (x = 102 ∨ x = 105 ∨ x = 107 ∨ x = 108) → ¬ (x = 90 ∧ y = n) → x ≠ 91 → x ≠ 92 → gi_I K x y = gi_I k x y := fun x y w1 w2 w3 w4 w5 w6 w7 => by
    rw [eI, if_neg w1, if_neg w2, if_neg w3, if_neg w5, if_neg (by omega), if_neg (by omega), if_neg (by omega), if_neg (by omega), if_neg (by omega), if_neg (by omega)]
  have eh : ∀ x y, x < gi_n h → ¬ (x = 79 ∧ y = 23) → ¬ (x = 100 ∧ 60 * (32 * n + t) ≤ y ∧ y < 60 * (32 * n + t) + m) → ¬ (x = 99 ∧ y = 32 * n + t) → ¬ (x = 102 ∨ x = 105 ∨ x = 107 ∨ x = 108) → ¬ (x = 90 ∧ y = n) → x ≠ 91 → x ≠ 92 → ¬ (x = 1 ∧ y = 7) → ¬ (11 ≤ x ∧ x < 75 ∧ (y = 0 ∨ y = 1)) → ¬ (x = a ∧ y = 6) → gi_I K x y = gi_I h x y := fun x y w0 w1 w2 w3 w4 w5 w6 w7 w8 w9 w10 => by
    rw [ek x y w1 w2 w3 w4 w5 w6 w7, eIk, if_neg w8, if_neg (by omega), if_neg (by omega), if_neg (by omega), if_neg (by omega), if_neg (by omega), if_neg (by omega), if_neg (by omega)]
  have cx : ∀ x, x < gi_n h → gi_c K x = gi_c h x := fun x hx => by rw [ec, eck, if_neg (by omega), if_neg (by omega), if_neg (by omega), if_neg (by omega)]
  have Rx : ∀ x y, x < gi_n h → x ≠ 7 → ¬ (x = a + 2 ∧ y = t) → gi_R K x y = gi_R h x y := fun x y hx w7 w2 => by rw [eR, eRk, if_neg (by omega), if_neg (by omega), if_neg (by omega), if_neg w2, if_neg (by omega), if_neg (by omega)]
  have v90 : gi_I K 90 n = nI b := by
    rw [eI, if_neg (by omega), if_neg (by omega), if_neg (by omega), if_pos ⟨rfl, rfl⟩]
  have BB := blk_cl (h := h) (K := K) (b := b) (B := gi_n h + 2) (x0 := 768 + n) j9 j12.2.2.2 (by omega) hb ((j9.1 b hb).1 u0) (fun q Q hq hQ => by
      have := lt Q (by rw [((j9.1 q hq).2 Q hQ).2.2.2.1]; decide)
      omega) (by unfold dy; omega) (by unfold dy; omega) (by rw [ec, eck, if_pos rfl]) (by rw [ec, eck, if_neg (by omega), if_pos rfl]) (by rw [eR, eRk, if_neg (by omega), if_pos rfl, if_pos rfl]) (fun j hj => by
      rw [ek _ _ (by omega) (by omega) (by omega) (by omega) (by omega) (by omega) (by omega), eIk, if_neg (by omega), if_neg (by omega), if_neg (by omega), if_neg (by omega), if_neg (by omega), if_pos rfl]) (fun y _ => by
      rw [eR, eRk]
      by_cases w : y = b
      · rw [if_pos ⟨rfl, w⟩, if_pos w]
      · rw [if_neg (fun z => w z.2), if_neg (by omega), if_neg (by omega), if_neg (by omega), if_neg (by omega), if_neg (by omega), if_neg w]) (fun q Q hq hQ x hx => by
      obtain ⟨o0, o1, o2, o3, o4, o5, o6⟩ := (j9.1 q hq).2 Q hQ
      have cz : gi_c h x = (8, 0) ∨ gi_c h x = (101, 64) := by
        rcases hx with rfl | rfl
        · exact Or.inl o3
        · exact Or.inr o5
      have hd : dy x := by
        rcases hx with rfl | rfl
        · exact o1
        · exact o2
      have lx := lt x (by rcases cz with e | e <;> rw [e] <;> decide)
      have bn := bl_ne hN cz
      unfold dy at hd
      exact ⟨cx x lx, fun y => eh x y lx (by omega) (by omega) (by omega) (by omega) (by omega) (by omega) (by omega) (by omega) (by omega) (fun z => bn.1 z.1), fun y => Rx x y lx (by omega) (fun z => bn.2.2 z.1)⟩) (fun x hx => by
      unfold ref_
      by_cases w : x < 768
      · rw [if_pos w, if_pos w, if_neg (by omega)]
        exact eh _ _ (by omega) (by omega) (by omega) (by omega) (by omega) (by omega) (by omega) (by omega) (by omega) (by omega) (by omega)
      · rw [if_neg w, if_neg w]
        by_cases w2 : x = 768 + n
        · rw [if_pos w2, w2, show 768 + n - 768 = n by omega, v90]
        · rw [if_neg w2]
          exact eh _ _ (by omega) (by omega) (by omega) (by omega) (by omega) (by omega) (by omega) (by omega) (by omega) (by omega) (by omega)) (fun y => by
      rw [eI, if_neg (by omega), if_neg (by omega), if_neg (by omega), if_neg (by omega), if_neg (by omega)]
      by_cases w : y = b
      · rw [if_pos ⟨rfl, w⟩, if_pos w]
      · rw [if_neg (fun z => w z.2), if_neg (by omega), if_neg (by omega), if_neg (by omega), if_neg (by omega), if_neg w]; exact rows _ _ (by omega) (by omega)) (fun y => by
      rw [eI, if_neg (by omega), if_neg (by omega), if_neg (by omega), if_neg (by omega)]
      by_cases w : 64 * b ≤ y ∧ y < 64 * b + 64
      · rw [if_pos ⟨rfl, w⟩, if_pos w]
      · rw [if_neg (fun z => w z.2), if_neg w, if_neg (by omega), if_neg (by omega), if_neg (by omega), if_neg (by omega), if_neg (by omega)]; exact rows _ _ (by omega) (by omega)) (fun y _ => eh _ _ (by omega) (by omega) (by omega) (by omega) (by omega) (by omega) (by omega) (by omega) (by omega) (by omega) (by omega)) (fun x hx => ref_r sn hx)
  refine j_at (t1 := t1) (s1 := s1) (V := (qz n (AD (gi_I h) (1)) (2 * ow + 0) (32 + 2 * gr + 0) (U0 h))) J hn hr hN ht (by omega) (by omega) (by omega) (fun x hx => ?_) cx (fun x y w0 w w7 => Rx x y w0 w7 w) (fun x y w0 w1 w2 w3 w4 w5 w6 w7 w8 w9 w10 w11 w12 => eh x y w0 (by omega) (by omega) w8 (by omega) w5 w6 w7 (by omega) (by omega) w4) ?_ ?_ ?_ ?_ ?_ ?_ ?_ ?_ (fun p hp => ?_) ?_ BB.1 BB.2
  · rw [en] at hx
    rw [ec, eck, if_neg (by omega), if_neg (by omega), if_neg (by omega), if_neg (by omega)]
    exact j2 x (by omega)
  · rw [v90, ek a 6 (by omega) (by omega) (by omega) (by omega) (by omega) (by omega) (by omega), eIk, if_neg (by omega), if_neg (by omega), if_neg (by omega), if_pos ⟨rfl, rfl⟩]
  · rw [v90]; rw [nI_toInt (by omega)]; omega
  · have r : gi_R K (a + 2) t = some (gi_n h) := by rw [eR, eRk, if_neg (by omega), if_neg (by omega), if_neg (by omega), if_pos ⟨rfl, rfl⟩]
    rw [r]
    refine ⟨fun e => (by cases e), fun b' e => ?_⟩
    cases e
    have v99 : gi_I K 99 (32 * n + t) = nI m := by rw [eI, if_neg (by omega), if_neg (by omega), if_pos ⟨rfl, rfl⟩]
    refine ⟨by unfold dy; omega, by unfold dy; omega, ?_, ?_, ?_, ?_, ?_, fun j hj => ?_⟩
    · rw [ec, eck, if_neg (by omega), if_neg (by omega), if_pos rfl]
    · rw [eR, eRk, if_neg (by omega), if_neg (by omega), if_neg (by omega), if_neg (by omega), if_pos rfl, if_pos rfl]
    · rw [v99, nI_clamp (by omega), ec, eck, if_neg (by omega), if_neg (by omega), if_neg (by omega), if_pos rfl]
    · rw [v99, nI_toInt (by omega)]; omega
    · rw [v99, nI_toInt (by omega)]; omega
    · rw [v99, nI_clamp (by omega)] at hj
      rw [ek _ _ (by omega) (by omega) (by omega) (by omega) (by omega) (by omega) (by omega), eIk, if_neg (by omega), if_neg (by omega), if_neg (by omega), if_neg (by omega), if_neg (by omega), if_neg (by omega), if_neg (by omega), if_pos rfl, if_pos hj, eI, if_neg (by omega), if_pos ⟨rfl, by omega, by omega⟩, m101, show 60 * (32 * n + t) + j - 60 * (32 * n + t) = j by omega]
      exact j5.2.2.2.2.2.2 j (by omega)
  · rw [eI, if_neg (by omega), if_neg (by omega), if_pos ⟨rfl, rfl⟩, nI_toInt (by omega)]; omega
  · rw [← ey]
    refine ly_c 32 0 0 0 (fun j _ hj => ?_)
    unfold lf_
    by_cases e : j = t
    · rw [eI, if_neg (by omega), if_neg (by omega), if_pos ⟨rfl, by omega⟩, if_pos (by rw [e])]
    · rw [eh _ _ (by omega) (by omega) (by omega) (by omega) (by omega) (by omega) (by omega) (by omega) (by omega) (by omega) (by omega), if_neg (fun z => e ((nI_eq (by omega) (by omega)).mp z))]
  · rw [v90]; rw [nI_toInt (by omega)]; omega
  · obtain ⟨r1, r2, r3, r4, r5, r6, r7⟩ := j5
    have E := fun x y (w0 : x < 109) (w1 : x ≠ 79 ∨ y = 0) (w2 : x ≠ 100) (w3 : x ≠ 99) (w4 : ¬ (102 ≤ x ∧ x ≤ 108 ∧ x ≠ 106)) (w5 : ¬ (90 ≤ x ∧ x ≤ 92)) (w6 : ¬ (x = 1 ∧ y = 7)) (w7 : ¬ (11 ≤ x ∧ x < 75)) (w8 : ¬ dy x) => eh x y (by omega) (by omega) (by omega) (by omega) (by omega) (by omega) (by omega) (by omega) w6 (by omega) (fun z => w8 (by rw [z.1]; exact d1))
    refine ⟨?_, fun u hu => ?_, fun u hu => ?_, fun u hu => ?_, fun u hu => ?_, ?_, fun u hu => ?_⟩
    · rw [E 8 0 (by omega) (by omega) (by omega) (by omega) (by omega) (by omega) (by omega) (by omega) (by unfold dy; omega), E 79 0 (by omega) (by omega) (by omega) (by omega) (by omega) (by omega) (by omega) (by omega) (by unfold dy; omega)]; exact r1
    · rw [E 2 u (by omega) (by omega) (by omega) (by omega) (by omega) (by omega) (by omega) (by omega) (by unfold dy; omega), E 80 u (by omega) (by omega) (by omega) (by omega) (by omega) (by omega) (by omega) (by omega) (by unfold dy; omega)]; exact r2 u hu
    · rw [E 3 u (by omega) (by omega) (by omega) (by omega) (by omega) (by omega) (by omega) (by omega) (by unfold dy; omega), E 81 u (by omega) (by omega) (by omega) (by omega) (by omega) (by omega) (by omega) (by omega) (by unfold dy; omega)]; exact r3 u hu
    · rw [E 4 u (by omega) (by omega) (by omega) (by omega) (by omega) (by omega) (by omega) (by omega) (by unfold dy; omega), E 82 u (by omega) (by omega) (by omega) (by omega) (by omega) (by omega) (by omega) (by omega) (by unfold dy; omega)]; exact r4 u hu
    · rw [E 10 u (by omega) (by omega) (by omega) (by omega) (by omega) (by omega) (by omega) (by omega) (by unfold dy; omega), E 106 u (by omega) (by omega) (by omega) (by omega) (by omega) (by omega) (by omega) (by omega) (by unfold dy; omega)]; exact r5 u hu
    · rw [ek _ _ (by omega) (by omega) (by omega) (by omega) (by omega) (by omega) (by omega), eIk, if_pos ⟨rfl, rfl⟩, eI, if_pos ⟨rfl, rfl⟩]
    · rw [E 75 u (by omega) (by omega) (by omega) (by omega) (by omega) (by omega) (by omega) (by omega) (by unfold dy; omega), E 101 u (by omega) (by omega) (by omega) (by omega) (by omega) (by omega) (by omega) (by omega) (by unfold dy; omega)]; exact r7 u hu
  · obtain ⟨q1, q2, q3, q4, q5⟩ := j10
    refine ⟨?_, fun u hu => ?_, fun u hu => ?_, ?_, fun u hu => ?_⟩
    · rw [eh _ _ (by omega) (by omega) (by omega) (by omega) (by omega) (by omega) (by omega) (by omega) (by omega) (by omega) (by omega)]; exact q1
    · rw [eh _ _ (by omega) (by omega) (by omega) (by omega) (by omega) (by omega) (by omega) (by omega) (by omega) (by omega) (by omega)]; exact q2 u hu
    · rw [eh _ _ (by omega) (by omega) (by omega) (by omega) (by omega) (by omega) (by omega) (by omega) (by omega) (by omega) (by omega)]; exact q3 u hu
    · rw [eI, if_pos ⟨rfl, rfl⟩]; decide
    · rw [eh _ _ (by omega) (by omega) (by omega) (by omega) (by omega) (by omega) (by omega) (by omega) (by omega) (by omega) (by omega)]; exact q5 u hu
  · have kk0 : K0 k T p = (qz n (AD (gi_I h) (1)) (2 * ow + 0) (32 + 2 * gr + 0) (U0 h)) p := by unfold K0 cp_; rw [if_pos hp, tv p hp]
    have o11 : ∀ y, gi_I K (11 + p) y = gi_I k (11 + p) y := fun y => ek _ _ (by omega) (by omega) (by omega) (by omega) (by omega) (by omega) (by omega)
    refine ⟨⟨?_, ?_, ?_, ?_⟩, ⟨?_, ?_⟩, ?_, ?_⟩
    · rw [o11, eIk, if_neg (by omega), if_pos ⟨by omega, by omega, rfl⟩, show 11 + p - 11 = p by omega]
    · rw [o11, eIk, if_neg (by omega), if_neg (by omega), if_pos ⟨by omega, by omega, rfl⟩, show 11 + p - 11 = p by omega]
    · exact eh _ _ (by omega) (by omega) (by omega) (by omega) (by omega) (by omega) (by omega) (by omega) (by omega) (by omega) (by omega)
    · exact eh _ _ (by omega) (by omega) (by omega) (by omega) (by omega) (by omega) (by omega) (by omega) (by omega) (by omega) (by omega)
    · rw [eI, if_neg (by omega), if_neg (by omega), if_neg (by omega), if_neg (by omega), if_neg (by omega), if_neg (by omega), if_pos rfl, kk0]
    · rw [eI, if_neg (by omega), if_neg (by omega), if_neg (by omega), if_neg (by omega), if_neg (by omega), if_neg (by omega), if_neg (by omega), if_pos rfl, kk0]
    · exact eh _ _ (by omega) (by omega) (by omega) (by omega) (by omega) (by omega) (by omega) (by omega) (by omega) (by omega) (by omega)
    · exact eh _ _ (by omega) (by omega) (by omega) (by omega) (by omega) (by omega) (by omega) (by omega) (by omega) (by omega) (by omega)
  · exact hV

/-! a list told anew, in one -/
set_option maxRecDepth 100000

def S1 (S : gi_Z) (l q : Nat) (v G : Int32) : gi_Z := fun x y => if x = 98 ∧ y = 32 * l + q then v else if x = 95 ∧ y = l then G else S x y
theorem acl_fin {L : Nat} {xs : Nat → Int32} {c n a f q r l x9 : Nat} {h kC K : gi_H} {m v G O T M X : Int32} (J : jH L xs c h) (hn : n < 64) (hr : gi_R h 5 n = some a) (hN : rN h (gi_I h) n a) (hf : f = 0 ∨ f = 1) (hq : q < 32) (el : l = 2 * n + f) (ex : x9 = 9 + f)
    (hl : gi_R h a x9 = some r ∨ (gi_R h a x9 = none ∧ r = gi_n h))
    (n1 : gi_n h ≤ gi_n kC) (n2 : gi_n kC ≤ gi_n h + 16) (n3 : gi_u kC ≤ gi_u h + 1000) (cF : rF kC) (cc : ∀ x, x < gi_n h → gi_c kC x = gi_c h x)
    (cR : ∀ x y, x < gi_n h → ¬ (x = a ∧ y = x9) → gi_R kC x y = gi_R h x y) (cRa : gi_R kC a x9 = if m ≤ 0 then none else some r)
    (cI : ∀ x y, x < gi_n h → ¬ (x = a ∧ y = 4) → x ≠ r → x ≠ r + 1 → gi_I kC x y = gi_I h x y)
    (dr : dy r) (dr1 : dy (r + 1)) (l1 : gi_c kC r = (6, 0)) (l2 : gi_c kC (r + 1) = (100, 32)) (l3 : gi_R kC r 4 = some (r + 1)) (l4 : gi_I kC r 0 = O) (l5 : gi_I kC r 1 = G) (l6 : gi_I kC r 2 = T) (l7 : gi_I kC r 3 = m) (l8 : ∀ k, k < 32 → gi_I kC (r + 1) k = if k = q then v else gi_I h 98 (32 * l + k))
    (a4 : gi_I kC a 4 = M)
    (e87 : gi_I K 87 n = M) (e93 : gi_I K 93 l = m) (e94 : gi_I K 94 l = X) (e95 : gi_I K 95 l = G) (e96 : gi_I K 96 l = O) (e97 : gi_I K 97 l = T) (e98 : gi_I K 98 (32 * l + q) = v)
    (ek : ∀ x y, ¬ (x = 87 ∧ y = n) → ¬ (93 ≤ x ∧ x ≤ 97 ∧ y = l) → ¬ (x = 98 ∧ y = 32 * l + q) → gi_I K x y = gi_I kC x y)
    (KR : ∀ x y, gi_R K x y = gi_R kC x y) (Kc : ∀ x, gi_c K x = gi_c kC x) (Kn : gi_n K = gi_n kC) (Ku : gi_u K = gi_u kC)
    (hX : ¬ m = 0 → X = al_ (S1 (gi_I h) l q v G) l) (hM0 : f = 0 → M = (gi_I h 87 n &&& (-57 : Int32)) ||| (al_ (S1 (gi_I h) l q v G) l <<< ((3 : Int32) &&& 31))) (hM1 : f = 1 → M = gi_I h 87 n)
    (hv : -1 ≤ v.toInt ∧ v.toInt ≤ 7) (rG : vp_in G 8) (rO : vp_in O 8) (rT' : vp_in T 8)
    (hm : m.toInt + (if 0 ≤ gi_I h 98 (32 * l + q) then 1 else 0) = (gi_I h 93 l).toInt + (if 0 ≤ v then 1 else 0)) (h8 : m.toInt ≤ 8) (h0 : 0 ≤ m.toInt) : jH L xs (c + 1) K := by
  subst el
  subst ex
  have d1 := hN.1
  have hS := J.1
  have h109 := hS.1
  have sl := J.2.2.2.2.2.2.2.2.2.2.2.1.2.1
  have sn := J.2.2.2.2.2.2.2.2.2.2.2.1.1
  have hz0 := ((J.2.2.2.2.2.2.1 n hn).2 a hr).1
  have hf2 : f < 2 := by omega
  have ec : ∀ x y, 79 ≤ x → x < 109 → gi_I kC x y = gi_I h x y := fun x y w1 w2 => cI x y (by omega) (by unfold dy at d1; omega) (by unfold dy at dr; omega) (by unfold dy at dr1; omega)
  have e98n : ∀ k, k ≠ q → gi_I K 98 (32 * (2 * n + f) + k) = gi_I h 98 (32 * (2 * n + f) + k) := fun k hk => by
    rw [ek _ _ (by omega) (by omega) (by omega), ec _ _ (by omega) (by omega)]
  have eS : al_ (gi_I K) (2 * n + f) = al_ (S1 (gi_I h) (2 * n + f) q v G) (2 * n + f) := by
    refine al_at ?_ (fun k hk => ?_)
    · rw [e95]; unfold S1; rw [if_neg (by omega), if_pos ⟨rfl, rfl⟩]
    · unfold S1
      by_cases e : k = q
      · rw [e, e98, if_pos ⟨rfl, rfl⟩]
      · rw [e98n k e, if_neg (by omega), if_neg (by omega)]
  obtain ⟨q1, q2, q3, q4⟩ := sl (2 * n + f) (by omega)
  have e8r : ∀ k, k < 32 → -1 ≤ (gi_I K 98 (32 * (2 * n + f) + k)).toInt ∧ (gi_I K 98 (32 * (2 * n + f) + k)).toInt ≤ 7 := fun k hk => by
    by_cases e : k = q
    · rw [e, e98]; exact hv
    · rw [e98n k e]; exact q3 k hk
  have hA : vp_in (al_ (gi_I K) (2 * n + f)) 8 := al_r (by rw [e95]; exact rG) e8r
  have g6 := (sn.2 n hn).2.2.2.2.2.1
  rw [eS] at hA
  have hmd := md g6 hA
  have rM : 0 ≤ M.toInt ∧ M.toInt ≤ 2047 := by
    rcases hf with e | e
    · rw [hM0 e]; exact hmd.1
    · rw [hM1 e]; exact g6
  have h83 : gi_I K 83 n = gi_I h 83 n := by rw [ek _ _ (by omega) (by omega) (by omega), ec _ _ (by omega) (by omega)]
  refine j_acl J hn hr hN hf hq hl (by omega) (by omega) (by omega) (fun x hx => by rw [Kc]; exact cF x (by omega)) (fun x hx => by rw [Kc]; exact cc x hx) (fun x y w1 w2 => by rw [KR]; exact cR x y w1 w2) (fun x y w1 w2 w3 w4 w5 w6 w7 => by rw [ek x y w5 w6 w7]; exact cI x y w1 w2 w3 w4) ?_ (fun e => by rw [e87]; exact hM1 e) (by rw [e87]; exact rM) ?_ ?_ ?_
  · rw [e87, ek _ _ (by unfold dy at d1; omega) (by unfold dy at d1; omega) (by unfold dy at d1; omega)]; exact a4
  · rw [KR, cRa]
    by_cases w : m ≤ 0
    · rw [if_pos w]
      refine ⟨fun _ => ?_, fun b e => (by cases e)⟩
      rw [e93, i32_eq, ti_0]
      rw [i32_le, ti_0] at w
      omega
    · rw [if_neg w]
      refine ⟨fun e => (by cases e), fun b e => ?_⟩
      cases e
      unfold dy at dr dr1
      refine ⟨by unfold dy; exact dr, by unfold dy; exact dr1, by rw [Kc]; exact l1, by rw [Kc]; exact l2, by rw [KR]; exact l3, ?_, ?_, ?_, ?_, ?_, fun k hk => ?_⟩
      · rw [ek _ _ (by omega) (by omega) (by omega), e96]; exact l4
      · rw [ek _ _ (by omega) (by omega) (by omega), e95]; exact l5
      · rw [ek _ _ (by omega) (by omega) (by omega), e97]; exact l6
      · rw [ek _ _ (by omega) (by omega) (by omega), e93]; exact l7
      · rw [e93]
        rw [i32_le, ti_0] at w
        omega
      · rw [ek _ _ (by omega) (by omega) (by omega), l8 k hk]
        by_cases e : k = q
        · rw [if_pos e, e, e98]
        · rw [if_neg e, e98n k e]
  · intro s e
    rw [KR, cRa] at e
    by_cases w : m ≤ 0
    · rw [if_pos w] at e; cases e
    · rw [if_neg w] at e; cases e; rfl
  · have dv : (2 * n + f) / 2 = n := by omega
    refine sL1_up (S := gi_I h) (q := q) (v := v) (sl (2 * n + f) (by omega)) hq (by rw [dv]; exact hz0) (by rw [dv]; exact h83) hv e98 (fun k _ hk => e98n k hk) (by rw [e95]; exact rG) (by rw [e96]; exact rO) (by rw [e97]; exact rT') (by rw [e93]; exact hm) (by rw [e93]; exact h8) (fun w => ?_)
    rw [e93] at w
    rw [e94, dv, e87, eS]
    rcases hf with e | e
    · subst e
      rw [if_pos (by omega), hX w, hM0 rfl]
      exact hmd.2.symm
    · subst e
      rw [if_neg (by omega)]
      exact hX w

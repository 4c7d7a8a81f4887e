/-! write: blocks, purely -/
set_option maxRecDepth 100000

/-- block b goes to place x0 of the references -/
def clS (S : gi_Z) (x0 b : Nat) : gi_Z := fun x y => if x = 89 ∧ y = x0 then nI b else if x = 91 ∧ y = b then 1 else if x = 92 ∧ 64 * b ≤ y ∧ y < 64 * b + 64 then 0 else S x y
theorem sB_cl {S : gi_Z} {b x0 : Nat} (hs : sB S) (hx0 : x0 < 768) (hb : b < 256) (u0 : S 91 b = 0) (rr : ∀ x, x < 832 → -1 ≤ (ref_ S x).toInt ∧ (ref_ S x).toInt ≤ 255) : sB (clS S x0 b) ∧ (∀ x, x < 832 → -1 ≤ (ref_ (clS S x0 b) x).toInt ∧ (ref_ (clS S x0 b) x).toInt ≤ 255) := by
  have er : ∀ x, x < 832 → ref_ (clS S x0 b) x = if x = x0 then nI b else ref_ S x := fun x hx => by
    unfold ref_ clS
    by_cases w : x < 768
    · rw [if_pos w, if_pos w]
      by_cases w2 : x = x0
      · rw [if_pos ⟨rfl, w2⟩, if_pos w2]
      · rw [if_neg (fun z => w2 z.2), if_neg (by omega), if_neg (by omega), if_neg w2]
    · rw [if_neg w, if_neg w, if_neg (by omega), if_neg (by omega), if_neg (by omega), if_neg (by omega)]
  have e91 : ∀ y, clS S x0 b 91 y = if y = b then 1 else S 91 y := fun y => by
    unfold clS
    rw [if_neg (by omega)]
    by_cases w : y = b
    · rw [if_pos ⟨rfl, w⟩, if_pos w]
    · rw [if_neg (fun z => w z.2), if_neg (by omega), if_neg w]
  have e92 : ∀ y, clS S x0 b 92 y = if 64 * b ≤ y ∧ y < 64 * b + 64 then 0 else S 92 y := fun y => by
    unfold clS
    rw [if_neg (by omega), if_neg (by omega)]
    by_cases w : 64 * b ≤ y ∧ y < 64 * b + 64
    · rw [if_pos ⟨rfl, w⟩, if_pos w]
    · rw [if_neg (fun z => w z.2), if_neg w]
  have e88 : ∀ j, clS S x0 b 88 j = S 88 j := fun j => by
    unfold clS
    rw [if_neg (by omega), if_neg (by omega), if_neg (by omega)]
  have nb : ∀ x, x < 832 → ref_ S x ≠ nI b := fun x hx e => by
    have := hs.2.1 x hx (by rw [e, nI_toInt (by omega)]; omega)
    rw [e, nI_clamp (by omega), u0] at this
    exact absurd this (by decide)
  refine ⟨⟨fun q hq' => ?_, fun x hx z1 => ?_, fun x y hx hy z1 z2 => ?_, fun i p k h1 h2 h3 z1 z2 => ?_⟩, fun x hx => ?_⟩
  · rw [e91]
    split
    · exact Or.inr rfl
    · exact hs.1 q hq'
  · rw [er x hx] at z1 ⊢
    by_cases w : x = x0
    · rw [if_pos w, nI_clamp (by omega), e91, if_pos rfl]
    · rw [if_neg w] at z1 ⊢
      rw [e91]
      split
      · rfl
      · exact hs.2.1 x hx z1
  · rw [er x hx] at z1 z2
    rw [er y hy] at z2
    by_cases w : x = x0
    · by_cases w2 : y = x0
      · rw [w, w2]
      · rw [if_pos w, if_neg w2] at z2
        exact absurd z2.symm (nb y hy)
    · rw [if_neg w] at z1 z2
      by_cases w2 : y = x0
      · rw [if_pos w2] at z2
        exact absurd z2 (nb x hx)
      · rw [if_neg w2] at z2
        exact hs.2.2.1 x y hx hy z1 z2
  · have e := er (12 * i + p) (by omega)
    rw [refP (by omega), refP (by omega)] at e
    rw [e] at z1 ⊢
    rw [e88] at z2
    by_cases w : 12 * i + p = x0
    · rw [if_pos w, nI_clamp (by omega), e92, if_pos (by omega)]
    · rw [if_neg w] at z1 ⊢
      obtain ⟨t, ht, et⟩ := nI_of (x := S 89 (12 * i + p)) (by rw [i32_lt, ti_0]; omega)
      have r := rr (12 * i + p) (by omega)
      have n' := nb (12 * i + p) (by omega)
      rw [refP (by omega), et] at n'
      rw [refP (by omega), et, nI_toInt ht] at r
      have q := hs.2.2.2 i p k h1 h2 h3 z1 z2
      rw [et, nI_clamp ht] at q ⊢
      rw [e92, if_neg]
      · exact q
      · rintro ⟨w1, w2⟩
        exact n' (by rw [show t = b by omega])
  · rw [er x hx]
    by_cases w : x = x0
    · rw [if_pos w, nI_toInt (by omega)]; omega
    · rw [if_neg w]; exact rr x hx
/-- class cells against model rows S while the class writes -/
def wI_ (h g : gi_H) (n a : Nat) (S : gi_Z) (i : Nat) : Prop := gi_S g ∧ rB g S ∧ (∀ p, p < 12 → gi_I g (a + 1) p = S 89 (12 * n + p)) ∧ (gi_n h ≤ gi_n g ∧ gi_n g ≤ gi_n h + 2 * i ∧ gi_u g ≤ gi_u h + 65 * i ∧ rF g) ∧ (∀ x, x < gi_n h → gi_c g x = gi_c h x) ∧ (∀ x y, x < gi_n h → x ≠ 7 → gi_R g x y = gi_R h x y) ∧ (∀ x y, x < gi_n h → x ≠ a + 1 → gi_c h x ≠ (101, 64) → gi_I g x y = gi_I h x y)
/-- a byte told -/
def by1 (S : gi_Z) (y0 : Nat) (v : Int32) : gi_Z := fun x y => if x = 92 ∧ y = y0 then v else S x y
theorem w_byte {h g : gi_H} {n a b k i : Nat} {v : Int32} {S : gi_Z} {B : Nat} (H : wI_ h g n a S i) (ca1 : gi_c h (a + 1) = (100, 12)) (la1 : a + 1 < gi_n h) (hb : b < 256) (hk : k < 64) (eB : gi_R g 7 b = some B) : wI_ h (gi_pI g (B + 1) k v) n a (by1 S (64 * b + k) v) i := by
  obtain ⟨h1, h2, h3, h4, h5, h6, h7⟩ := H
  obtain ⟨o0, o1, o2, o3, o4, o5, o6⟩ := (h2.1 b hb).2 B eB
  have nB : a + 1 ≠ B + 1 := fun e => by
    have := h5 (a + 1) la1
    rw [e, o5, ← e, ca1] at this
    cases this
  refine ⟨h1, ⟨fun q hq => ?_, h2.2⟩, fun p hp => ?_, h4, h5, h6, fun x y w1 w2 w3 => ?_⟩
  · obtain ⟨q1, q2⟩ := h2.1 q hq
    have e91 : by1 S (64 * b + k) v 91 q = S 91 q := by unfold by1; rw [if_neg (by omega)]
    rw [e91]
    refine ⟨q1, fun Q hQ => ?_⟩
    obtain ⟨p0, p1, p2, p3, p4, p5, p6⟩ := q2 Q hQ
    refine ⟨p0, p1, p2, p3, p4, p5, fun j hj => ?_⟩
    rw [I_pI]
    unfold by1
    by_cases e : Q = B
    · have : q = b := h2.2 q b Q hq hb hQ (by rw [e]; exact eB)
      subst this
      by_cases e2 : j = k
      · rw [if_pos ⟨by omega, e2⟩, if_pos ⟨rfl, by omega⟩]
      · rw [if_neg (by omega), if_neg (by omega)]; exact p6 j hj
    · have : q ≠ b := fun z => e (by
        have : gi_R g 7 q = some B := by rw [z]; exact eB
        rw [show gi_R g 7 q = some Q from hQ] at this
        exact Option.some.inj this)
      rw [if_neg (by omega), if_neg (by omega)]; exact p6 j hj
  · rw [I_pI, if_neg (by omega)]
    unfold by1
    rw [if_neg (by omega)]
    exact h3 p hp
  · rw [I_pI, if_neg]
    · exact h7 x y w1 w2 w3
    · rintro ⟨rfl, -⟩
      exact w3 (by rw [← h5 _ w1]; exact o5)
theorem w_claim {h g : gi_H} {n a b p i : Nat} {S : gi_Z} (H : wI_ h g n a S i) (hp : p < 12) (da1 : dy (a + 1)) (ca1 : gi_c h (a + 1) = (100, 12)) (la1 : a + 1 < gi_n h) (hb : b < 256) (u0 : S 91 b = 0) : wI_ h (gi_pI (nbk g b) (a + 1) p (nI b)) n a (clS S (12 * n + p) b) (i + 1) ∧ gi_R (gi_pI (nbk g b) (a + 1) p (nI b)) 7 b = some (gi_n g) := by
  obtain ⟨h1, h2, h3, h4, h5, h6, h7⟩ := H
  obtain ⟨n1, n2, n3, n4⟩ := h4
  have h109 := h1.1
  unfold dy at da1
  have lq : ∀ q Q, q < 256 → gi_R g 7 q = some Q → Q < gi_n g ∧ Q + 1 < gi_n g := fun q Q hq hQ => by
    obtain ⟨p0, p1, p2, p3, p4, p5, p6⟩ := (h2.1 q hq).2 Q hQ
    exact ⟨Nat.lt_of_not_le (fun w => by rw [n4 _ w] at p3; cases p3), Nat.lt_of_not_le (fun w => by rw [n4 _ w] at p5; cases p5)⟩
  have r7 : ∀ y, gi_R (gi_pI (nbk g b) (a + 1) p (nI b)) 7 y = if y = b then some (gi_n g) else gi_R g 7 y := fun y => by
    rw [R_pI, R_nbk]
    by_cases w : y = b
    · rw [if_pos ⟨rfl, w⟩, if_pos w]
    · rw [if_neg (fun z => w z.2), if_neg (by omega), if_neg (by omega), if_neg w]
  refine ⟨⟨?_, ⟨fun q hq => ?_, fun q q2 Q hq hq2 e1 e2 => ?_⟩, fun p' hp' => ?_, ⟨by show gi_n h ≤ gi_n g + 2; omega, by show gi_n g + 2 ≤ _; omega, by show gi_u g + 65 ≤ _; omega, fun x hx => ?_⟩, fun x hx => ?_, fun x y hx w7 => ?_, fun x y w1 w2 w3 => ?_⟩, by rw [r7, if_pos rfl]⟩
  · refine ⟨by show 109 ≤ gi_n g + 2; omega, fun e he => ?_, fun e he => ?_, fun q hq => ⟨?_, ?_⟩⟩
    · have z : ∀ e ∈ gi_cs, e.1 < 109 := by decide
      have := z e he
      show gi_c (nbk g b) e.1 = _
      rw [c_nbk, if_neg (by omega), if_neg (by omega)]
      exact h1.2.1 e he
    · have z : ∀ e ∈ gi_rs, e.1 < 109 ∧ e.1 ≠ 7 := by decide
      have := z e he
      show gi_R (nbk g b) e.1 _ = _
      rw [R_nbk, if_neg (by omega), if_neg (by omega), if_neg (by omega)]
      exact h1.2.2.1 e he
    · show gi_c (nbk g b) _ = _
      rw [c_nbk, if_neg (by omega), if_neg (by omega)]
      exact (h1.2.2.2 q hq).1
    · show gi_R (nbk g b) _ _ = _
      rw [R_nbk, if_neg (by omega), if_neg (by omega), if_neg (by omega)]
      exact (h1.2.2.2 q hq).2
  · rw [r7]
    have e91 : clS S (12 * n + p) b 91 q = if q = b then 1 else S 91 q := by
      unfold clS
      rw [if_neg (by omega)]
      by_cases w : q = b
      · rw [if_pos ⟨rfl, w⟩, if_pos w]
      · rw [if_neg (fun z => w z.2), if_neg (by omega), if_neg w]
    rw [e91]
    have e92 : ∀ j, j < 64 → clS S (12 * n + p) b 92 (64 * q + j) = if q = b then 0 else S 92 (64 * q + j) := fun j hj => by
      unfold clS
      rw [if_neg (by omega), if_neg (by omega)]
      by_cases w : q = b
      · rw [if_pos ⟨rfl, by omega, by omega⟩, if_pos w]
      · rw [if_neg (by omega), if_neg w]
    by_cases w : q = b
    · rw [if_pos w, if_pos w]
      refine ⟨fun e => (by cases e), fun Q e => ?_⟩
      cases e
      refine ⟨rfl, by unfold dy; omega, by unfold dy; omega, ?_, ?_, ?_, fun j hj => ?_⟩
      · show gi_c (nbk g b) _ = _; rw [c_nbk, if_pos rfl]
      · show gi_R (nbk g b) _ _ = _; rw [R_nbk, if_neg (by omega), if_pos rfl, if_pos rfl]
      · show gi_c (nbk g b) _ = _; rw [c_nbk, if_neg (by omega), if_pos rfl]
      · rw [e92 j hj, if_pos w, I_pI, if_neg (by omega), I_nbk, if_neg (by omega), if_pos rfl]
    · rw [if_neg w, if_neg w]
      refine ⟨(h2.1 q hq).1, fun Q hQ => ?_⟩
      obtain ⟨p0, p1, p2, p3, p4, p5, p6⟩ := (h2.1 q hq).2 Q hQ
      obtain ⟨l1, l2⟩ := lq q Q hq hQ
      have na : a + 1 ≠ Q + 1 := fun e => by
        have c1 := h5 (a + 1) la1
        rw [e, p5, ← e, ca1] at c1
        cases c1
      refine ⟨p0, p1, p2, ?_, ?_, ?_, fun j hj => ?_⟩
      · show gi_c (nbk g b) _ = _; rw [c_nbk, if_neg (by omega), if_neg (by omega)]; exact p3
      · show gi_R (nbk g b) _ _ = _; rw [R_nbk, if_neg (by unfold dy at p1; omega), if_neg (by omega), if_neg (by omega)]; exact p4
      · show gi_c (nbk g b) _ = _; rw [c_nbk, if_neg (by omega), if_neg (by omega)]; exact p5
      · rw [e92 j hj, if_neg w, I_pI, if_neg (by omega), I_nbk, if_neg (by omega), if_neg (by omega)]; exact p6 j hj
  · rw [r7] at e1 e2
    by_cases w : q = b
    · by_cases w2 : q2 = b
      · rw [w, w2]
      · rw [if_pos w] at e1
        rw [if_neg w2] at e2
        cases e1
        have := (lq q2 _ hq2 e2).1
        omega
    · rw [if_neg w] at e1
      by_cases w2 : q2 = b
      · rw [if_pos w2] at e2
        cases e2
        have := (lq q _ hq e1).1
        omega
      · rw [if_neg w2] at e2
        exact h2.2 q q2 Q hq hq2 e1 e2
  · rw [I_pI]
    unfold clS
    by_cases w : p' = p
    · rw [if_pos ⟨rfl, w⟩, if_pos ⟨rfl, by omega⟩]
    · rw [if_neg (fun z => w z.2), if_neg (by omega), if_neg (by omega), if_neg (by omega), I_nbk, if_neg (by omega), if_neg (by omega)]
      exact h3 p' hp'
  · have hx : gi_n g + 2 ≤ x := hx
    show gi_c (nbk g b) x = _
    rw [c_nbk, if_neg (by omega), if_neg (by omega)]
    exact n4 x (by omega)
  · show gi_c (nbk g b) x = _
    rw [c_nbk, if_neg (by omega), if_neg (by omega)]
    exact h5 x hx
  · show gi_R (nbk g b) x y = _
    rw [R_nbk, if_neg (fun z => w7 z.1), if_neg (by omega), if_neg (by omega)]
    exact h6 x y hx w7
  · rw [I_pI, if_neg (fun z => w2 z.1), I_nbk, if_neg (by omega), if_neg (by omega)]
    exact h7 x y w1 w2 w3

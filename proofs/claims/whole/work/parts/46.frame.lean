/-! what an inode's change leaves as it is -/
set_option maxRecDepth 100000
/-- cells of an inode that is changed, and blocks' bytes -/
def tch (h : gi_H) (i x : Nat) : Prop := gi_c h x = (101, 64) ∨ ∃ a, gi_R h 5 i = some a ∧ (x = a ∨ x = a + 1 ∨ x = a + 2 ∨ ∃ r, (gi_R h a 9 = some r ∨ gi_R h a 10 = some r) ∧ (x = r ∨ x = r + 1))
/-- cells of an inode -/
def nc (h : gi_H) (b x : Nat) : Prop := x = b ∨ x = b + 1 ∨ x = b + 2 ∨ (∃ r, (gi_R h b 9 = some r ∨ gi_R h b 10 = some r) ∧ (x = r ∨ x = r + 1)) ∨ (∃ t e, t < 32 ∧ gi_R h (b + 2) t = some e ∧ (x = e ∨ x = e + 1))
def rowN (S S' : gi_Z) (j : Nat) : Prop := (∀ x, (83 ≤ x ∧ x ≤ 88) ∨ x = 90 → S' x j = S x j) ∧ (∀ p, p < 12 → S' 89 (12 * j + p) = S 89 (12 * j + p)) ∧ (∀ l x, l / 2 = j → 93 ≤ x → x ≤ 97 → S' x l = S x l) ∧ (∀ l q, l / 2 = j → q < 32 → S' 98 (32 * l + q) = S 98 (32 * l + q)) ∧ (∀ t, t < 32 → S' 99 (32 * j + t) = S 99 (32 * j + t)) ∧ (∀ t q, t < 32 → q < 60 → S' 100 (60 * (32 * j + t) + q) = S 100 (60 * (32 * j + t) + q))
theorem rL_fr {h k : gi_H} {S S' : gi_Z} {l : Nat} {r : Option Nat} (fr : ∀ b, r = some b → ∀ x, x = b ∨ x = b + 1 → gi_c k x = gi_c h x ∧ (∀ y, gi_I k x y = gi_I h x y) ∧ (∀ y, gi_R k x y = gi_R h x y)) (h1 : ∀ x, x = 93 ∨ (95 ≤ x ∧ x ≤ 97) → S' x l = S x l) (h2 : ∀ q, q < 32 → S' 98 (32 * l + q) = S 98 (32 * l + q)) (H : rL h S l r) : rL k S' l r := by
  refine ⟨fun e => by rw [h1 _ (by omega)]; exact H.1 e, fun b e => ?_⟩
  obtain ⟨d1, d2, g1, g2, g3, g4, g5, g6, g7, g8, g9⟩ := H.2 b e
  obtain ⟨a1, a2, a3⟩ := fr b e b (Or.inl rfl)
  obtain ⟨b1, b2, b3⟩ := fr b e (b + 1) (Or.inr rfl)
  rw [a1, b1, a3, a2, a2, a2, a2, h1 96 (by omega), h1 95 (by omega), h1 97 (by omega), h1 93 (by omega)]
  exact ⟨d1, d2, g1, g2, g3, g4, g5, g6, g7, g8, fun q hq => by rw [b2, h2 q hq]; exact g9 q hq⟩
theorem rT_fr {h k : gi_H} {S S' : gi_Z} {j : Nat} {r : Option Nat} (fr : ∀ b, r = some b → ∀ x, x = b ∨ x = b + 1 → gi_c k x = gi_c h x ∧ (∀ y, gi_I k x y = gi_I h x y) ∧ (∀ y, gi_R k x y = gi_R h x y)) (h1 : S' 99 j = S 99 j) (h2 : ∀ q, q < 60 → S' 100 (60 * j + q) = S 100 (60 * j + q)) (H : rT h S j r) : rT k S' j r := by
  refine ⟨fun e => by rw [h1]; exact H.1 e, fun b e => ?_⟩
  obtain ⟨d1, d2, g1, g2, g3, g4, g5, g6⟩ := H.2 b e
  obtain ⟨a1, a2, a3⟩ := fr b e b (Or.inl rfl)
  obtain ⟨b1, b2, b3⟩ := fr b e (b + 1) (Or.inr rfl)
  rw [a1, b1, a3, h1]
  refine ⟨d1, d2, g1, g2, g3, g4, g5, fun q hq => ?_⟩
  rw [b2, h2 q (by
    obtain ⟨m, hm, em⟩ := nI_of (x := S 99 j) (by rw [i32_lt, ti_0]; omega)
    rw [em, nI_clamp hm] at hq
    rw [em, nI_toInt hm] at g5
    omega)]
  exact g6 q hq
theorem rN_fr {h k : gi_H} {S S' : gi_Z} {j b : Nat} (H : rN h S j b) (fr : ∀ x, nc h b x → gi_c k x = gi_c h x ∧ (∀ y, gi_I k x y = gi_I h x y) ∧ (∀ y, gi_R k x y = gi_R h x y)) (ro : rowN S S' j) : rN k S' j b := by
  obtain ⟨d1, d2, d3, c1, c2, c3, f7, f8, k0, k1, k2, k3, k4, k5, k6, kp, kl, kf, kt⟩ := H
  obtain ⟨o1, o2, o3, o4, o5, o6⟩ := ro
  obtain ⟨p1, p2, p3⟩ := fr b (Or.inl rfl)
  obtain ⟨q1, q2, q3⟩ := fr (b + 1) (Or.inr (Or.inl rfl))
  obtain ⟨r1, r2, r3⟩ := fr (b + 2) (Or.inr (Or.inr (Or.inl rfl)))
  refine ⟨d1, d2, d3, by rw [p1]; exact c1, by rw [q1]; exact c2, by rw [r1]; exact c3, by rw [p3]; exact f7, by rw [p3]; exact f8, ?_, ?_, ?_, ?_, ?_, ?_, ?_, fun p hp => ?_, ?_, ?_, fun t ht => ?_⟩
  · rw [p2, o1 83 (by omega)]; exact k0
  · rw [p2, o1 84 (by omega)]; exact k1
  · rw [p2, o1 85 (by omega)]; exact k2
  · rw [p2, o1 86 (by omega)]; exact k3
  · rw [p2, o1 87 (by omega)]; exact k4
  · rw [p2, o1 88 (by omega)]; exact k5
  · rw [p2, o1 90 (by omega)]; exact k6
  · rw [q2, o2 p hp]; exact kp p hp
  · rw [p3]
    exact rL_fr (fun r e x hx => fr x (Or.inr (Or.inr (Or.inr (Or.inl ⟨r, Or.inl e, hx⟩))))) (fun x hx => o3 (2 * j) x (by omega) (by omega) (by omega)) (fun q => o4 (2 * j) q (by omega)) kl
  · rw [p3]
    exact rL_fr (fun r e x hx => fr x (Or.inr (Or.inr (Or.inr (Or.inl ⟨r, Or.inr e, hx⟩))))) (fun x hx => o3 (2 * j + 1) x (by omega) (by omega) (by omega)) (fun q => o4 (2 * j + 1) q (by omega)) kf
  · rw [r3]
    exact rT_fr (fun e he x hx => fr x (Or.inr (Or.inr (Or.inr (Or.inr ⟨t, e, ht, he, hx⟩))))) (o5 t ht) (fun q hq => o6 t q ht hq) (kt t ht)
/-- what an inode's cells are -/
theorem nc_c {h : gi_H} {S : gi_Z} {j b x : Nat} (H : rN h S j b) (hx : nc h b x) : dy x ∧ ((x = b ∧ gi_c h x = (5, 0)) ∨ (x = b + 1 ∧ gi_c h x = (100, 12)) ∨ (x = b + 2 ∧ gi_c h x = (106, 32)) ∨ (∃ r, (gi_R h b 9 = some r ∨ gi_R h b 10 = some r) ∧ ((x = r ∧ gi_c h x = (6, 0)) ∨ (x = r + 1 ∧ gi_c h x = (100, 32)))) ∨ gi_c h x = (7, 0) ∨ ∃ m, m ≤ 60 ∧ gi_c h x = (101, m)) := by
  obtain ⟨d1, d2, d3, c1, c2, c3, f7, f8, k0, k1, k2, k3, k4, k5, k6, kp, kl, kf, kt⟩ := H
  rcases hx with rfl | rfl | rfl | ⟨r, hr, hx⟩ | ⟨t, e, ht, he, hx⟩
  · exact ⟨d1, Or.inl ⟨rfl, c1⟩⟩
  · exact ⟨d2, Or.inr (Or.inl ⟨rfl, c2⟩)⟩
  · exact ⟨d3, Or.inr (Or.inr (Or.inl ⟨rfl, c3⟩))⟩
  · have g : dy r ∧ dy (r + 1) ∧ gi_c h r = (6, 0) ∧ gi_c h (r + 1) = (100, 32) := by
      rcases hr with e | e
      · obtain ⟨a1, a2, a3, a4, -⟩ := kl.2 r e
        exact ⟨a1, a2, a3, a4⟩
      · obtain ⟨a1, a2, a3, a4, -⟩ := kf.2 r e
        exact ⟨a1, a2, a3, a4⟩
    rcases hx with rfl | rfl
    · exact ⟨g.1, Or.inr (Or.inr (Or.inr (Or.inl ⟨x, hr, Or.inl ⟨rfl, g.2.2.1⟩⟩)))⟩
    · exact ⟨g.2.1, Or.inr (Or.inr (Or.inr (Or.inl ⟨r, hr, Or.inr ⟨rfl, g.2.2.2⟩⟩)))⟩
  · obtain ⟨a1, a2, a3, a4, a5, a6, a7, -⟩ := (kt t ht).2 e he
    rcases hx with rfl | rfl
    · exact ⟨a1, Or.inr (Or.inr (Or.inr (Or.inr (Or.inl a3))))⟩
    · refine ⟨a2, Or.inr (Or.inr (Or.inr (Or.inr (Or.inr ⟨_, ?_, a5⟩))))⟩
      obtain ⟨m, hm, em⟩ := nI_of (x := S 99 (32 * j + t)) (by rw [i32_lt, ti_0]; omega)
      rw [em, nI_clamp hm]
      rw [em, nI_toInt hm] at a7
      omega
theorem nc_far {h : gi_H} {S : gi_Z} {i j b x : Nat} (HI : rI h S) (HJ : rJ h) (hi : i < 64) (hj : j < 64) (ne : j ≠ i) (hb : gi_R h 5 j = some b) (hx : nc h b x) : dy x ∧ gi_c h x ≠ (0, 0) ∧ ¬ tch h i x := by
  have Hb := ((HI j hj).2 b hb).2
  obtain ⟨d, g⟩ := nc_c Hb hx
  refine ⟨d, ?_, ?_⟩
  · intro e
    rcases g with ⟨-, g⟩ | ⟨-, g⟩ | ⟨-, g⟩ | ⟨r, -, ⟨-, g⟩ | ⟨-, g⟩⟩ | g | ⟨m, -, g⟩ <;> rw [g] at e <;> cases e
  · rintro (e | ⟨a, ha, hx2⟩)
    · rcases g with ⟨-, g⟩ | ⟨-, g⟩ | ⟨-, g⟩ | ⟨r, -, ⟨-, g⟩ | ⟨-, g⟩⟩ | g | ⟨m, hm, g⟩ <;> rw [g] at e <;> cases e
      omega
    · have Ha := ((HI i hi).2 a ha).2
      have hx3 : nc h a x := by
        rcases hx2 with e | e | e | ⟨r, hr, hx⟩
        · exact Or.inl e
        · exact Or.inr (Or.inl e)
        · exact Or.inr (Or.inr (Or.inl e))
        · exact Or.inr (Or.inr (Or.inr (Or.inl ⟨r, hr, hx⟩)))
      have hab : b ≠ a := fun e => ne (HJ.1 j i b hj hi hb (by rw [e]; exact ha))
      have lists : ∀ r s, (gi_R h b 9 = some r ∨ gi_R h b 10 = some r) → (gi_R h a 9 = some s ∨ gi_R h a 10 = some s) → r ≠ s := by
        rintro r s (e1 | e1) (e2 | e2) rfl
        · exact ne (HJ.2 j i b a 9 9 r hj hi hb ha (Or.inl rfl) (Or.inl rfl) e1 e2).1
        · exact ne (HJ.2 j i b a 9 10 r hj hi hb ha (Or.inl rfl) (Or.inr rfl) e1 e2).1
        · exact ne (HJ.2 j i b a 10 9 r hj hi hb ha (Or.inr rfl) (Or.inl rfl) e1 e2).1
        · exact ne (HJ.2 j i b a 10 10 r hj hi hb ha (Or.inr rfl) (Or.inr rfl) e1 e2).1
      obtain ⟨d1, d2, d3, c1, c2, c3, f7, f8, -, -, -, -, -, -, -, -, kl, kf, -⟩ := Ha
      have g2 : (x = a ∧ gi_c h x = (5, 0)) ∨ (x = a + 1 ∧ gi_c h x = (100, 12)) ∨ (x = a + 2 ∧ gi_c h x = (106, 32)) ∨ (∃ r, (gi_R h a 9 = some r ∨ gi_R h a 10 = some r) ∧ ((x = r ∧ gi_c h x = (6, 0)) ∨ (x = r + 1 ∧ gi_c h x = (100, 32)))) := by
        rcases hx2 with rfl | rfl | rfl | ⟨r, hr, hx⟩
        · exact Or.inl ⟨rfl, c1⟩
        · exact Or.inr (Or.inl ⟨rfl, c2⟩)
        · exact Or.inr (Or.inr (Or.inl ⟨rfl, c3⟩))
        · have gr : gi_c h r = (6, 0) ∧ gi_c h (r + 1) = (100, 32) := by
            rcases hr with e | e
            · obtain ⟨a1, a2, a3, a4, -⟩ := kl.2 r e
              exact ⟨a3, a4⟩
            · obtain ⟨a1, a2, a3, a4, -⟩ := kf.2 r e
              exact ⟨a3, a4⟩
          rcases hx with rfl | rfl
          · exact Or.inr (Or.inr (Or.inr ⟨x, hr, Or.inl ⟨rfl, gr.1⟩⟩))
          · exact Or.inr (Or.inr (Or.inr ⟨r, hr, Or.inr ⟨rfl, gr.2⟩⟩))
      rcases g with ⟨h1, g⟩ | ⟨h1, g⟩ | ⟨h1, g⟩ | ⟨r, hr, ⟨h1, g⟩ | ⟨h1, g⟩⟩ | g | ⟨m, hm, g⟩ <;> rcases g2 with ⟨h2, g2⟩ | ⟨h2, g2⟩ | ⟨h2, g2⟩ | ⟨s, hs, ⟨h2, g2⟩ | ⟨h2, g2⟩⟩ <;> first
        | (rw [g] at g2; cases g2; done)
        | omega
        | (have := lists r s hr hs; omega)
theorem jX_of {L : Nat} {xs : Nat → Int32} {c : Nat} {h k : gi_H} (J : jH L xs c h) {i : Nat} (hi : i < 64)
    (hn1 : gi_n h ≤ gi_n k) (hn2 : gi_n k ≤ gi_n h + 16) (hu : gi_u k ≤ gi_u h + 1000) (hF : rF k)
    (hc : ∀ x, gi_c h x ≠ (0, 0) → gi_c k x = gi_c h x)
    (hR : ∀ x y, ¬ dy x → x ≠ 5 → x ≠ 7 → gi_R k x y = gi_R h x y)
    (h5 : ∀ j, j < 64 → j ≠ i → gi_R k 5 j = gi_R h 5 j)
    (h0 : ∀ y, gi_I k 0 y = gi_I h 0 y)
    (fr : ∀ x, dy x → gi_c h x ≠ (0, 0) → ¬ tch h i x → (∀ y, gi_I k x y = gi_I h x y) ∧ (∀ y, gi_R k x y = gi_R h x y))
    (ro : ∀ j, j < 64 → j ≠ i → rowN (gi_I h) (gi_I k) j)
    (hN : (gi_R k 5 i = none → gi_I k 83 i = 0) ∧ ∀ a, gi_R k 5 i = some a → 0 < (gi_I k 83 i).toInt ∧ rN k (gi_I k) i a)
    (hJ1 : ∀ a, gi_R k 5 i = some a → gi_R h 5 i = some a ∨ gi_n h ≤ a)
    (hJ2 : ∀ a x r, gi_R k 5 i = some a → (x = 9 ∨ x = 10) → gi_R k a x = some r → (gi_R h 5 i = some a ∧ gi_R h a x = some r) ∨ gi_n h ≤ r)
    (hJ3 : ∀ a r, gi_R k 5 i = some a → gi_R k a 9 = some r → gi_R k a 10 = some r → False)
    (hrA : rA k (gi_I k)) (hsA : sA (gi_I k)) (hrQ : rQ k (gi_I k)) (hsQ : sQ (gi_I k) (c + 1)) (hB : rB k (gi_I k)) (hs : sN (gi_I k) ∧ sL (gi_I k) ∧ sT (gi_I k) ∧ sB (gi_I k)) : jH L xs (c + 1) k := by
  obtain ⟨j1, j2, j3, j4, j5, j6, j7, j8, j9, j10, j11, j12, j13, j14⟩ := J
  have hcz : ∀ x t n, gi_c h x = (t, n) → t ≠ 0 → gi_c k x = (t, n) := fun x t n e ht => by rw [hc x (fun z => by rw [e] at z; cases z; exact ht rfl)]; exact e
  have lt : ∀ x t n, gi_c h x = (t, n) → t ≠ 0 → x < gi_n h := fun x t n e ht => Nat.lt_of_not_le (fun q => by rw [j2 x q] at e; cases e; exact ht rfl)
  have far : ∀ j b, j < 64 → j ≠ i → gi_R h 5 j = some b → ∀ x, nc h b x → gi_c k x = gi_c h x ∧ (∀ y, gi_I k x y = gi_I h x y) ∧ (∀ y, gi_R k x y = gi_R h x y) := fun j b hj ne hb x hx => by
    obtain ⟨q1, q2, q3⟩ := nc_far j7 j8 hi hj ne hb hx
    exact ⟨hc x q2, fr x q1 q2 q3⟩
  refine ⟨⟨by have := j1.1; omega, fun e he => ?_, fun e he => ?_, fun p hp => ⟨?_, ?_⟩⟩, hF, hcz _ _ _ j3 (by decide), fun y => by rw [h0]; exact j4 y, hrA, hrQ, fun j hj => ?_, ⟨fun p q a hp hq ep eq => ?_, fun p q a b x y r hp hq ep eq hx hy er es => ?_⟩, hB, hsA, hsQ, hs, by omega, by omega⟩
  · have q := j1.2.1 e he
    have : e.2.1 ≠ 0 := by
      have z : ∀ e ∈ gi_cs, e.2.1 ≠ 0 := by decide
      exact z e he
    exact hcz _ _ _ q this
  · have z : ∀ e ∈ gi_rs, e.1 < 76 ∧ e.1 ≠ 5 ∧ e.1 ≠ 7 ∨ (79 ≤ e.1 ∧ e.1 < 109) := by decide
    have q := z e he
    rw [hR _ _ (by unfold dy; omega) (by omega) (by omega)]
    exact j1.2.2.1 e he
  · exact hcz _ _ _ (j1.2.2.2 p hp).1 (by decide)
  · rw [hR _ _ (by unfold dy; omega) (by omega) (by omega)]
    exact (j1.2.2.2 p hp).2
  · by_cases e : j = i
    · subst e
      exact hN
    · rw [h5 j hj e, (ro j hj e).1 83 (by omega)]
      exact ⟨(j7 j hj).1, fun b hb => ⟨((j7 j hj).2 b hb).1, rN_fr ((j7 j hj).2 b hb).2 (far j b hj e hb) (ro j hj e)⟩⟩
  · have old : ∀ j b, j < 64 → gi_R h 5 j = some b → b < gi_n h := fun j b hj e => lt _ _ _ ((j7 j hj).2 b e).2.2.2.2.1 (by decide)
    by_cases e1 : p = i
    · by_cases e2 : q = i
      · rw [e1, e2]
      · subst e1
        rw [h5 q hq e2] at eq
        rcases hJ1 a ep with z | z
        · exact j8.1 p q a hp hq z eq
        · have := old q a hq eq; omega
    · by_cases e2 : q = i
      · subst e2
        rw [h5 p hp e1] at ep
        rcases hJ1 a eq with z | z
        · exact j8.1 p q a hp hq ep z
        · have := old p a hp ep; omega
      · rw [h5 p hp e1] at ep
        rw [h5 q hq e2] at eq
        exact j8.1 p q a hp hq ep eq
  · have oldl : ∀ j b x r, j < 64 → gi_R h 5 j = some b → (x = 9 ∨ x = 10) → gi_R h b x = some r → r < gi_n h := fun j b x r hj e hx er => by
      obtain ⟨d1, d2, d3, c1, c2, c3, f7, f8, -, -, -, -, -, -, -, -, kl, kf, -⟩ := ((j7 j hj).2 b e).2
      rcases hx with rfl | rfl
      · exact lt _ _ _ (kl.2 r er).2.2.1 (by decide)
      · exact lt _ _ _ (kf.2 r er).2.2.1 (by decide)
    have same : ∀ j b x, j < 64 → j ≠ i → gi_R h 5 j = some b → gi_R k b x = gi_R h b x := fun j b x hj ne hb => (far j b hj ne hb b (Or.inl rfl)).2.2 x
    by_cases e1 : p = i
    · by_cases e2 : q = i
      · subst e1; subst e2
        rw [ep] at eq; cases eq
        refine ⟨rfl, ?_⟩
        rcases hx with rfl | rfl <;> rcases hy with rfl | rfl
        · rfl
        · exact (hJ3 a r ep er es).elim
        · exact (hJ3 a r ep es er).elim
        · rfl
      · subst e1
        rw [h5 q hq e2] at eq
        rw [same q b y hq e2 eq] at es
        rcases hJ2 a x r ep hx er with z | z
        · exact j8.2 p q a b x y r hp hq z.1 eq hx hy z.2 es
        · have := oldl q b y r hq eq hy es; omega
    · rw [h5 p hp e1] at ep
      rw [same p a x hp e1 ep] at er
      by_cases e2 : q = i
      · subst e2
        rcases hJ2 b y r eq hy es with z | z
        · exact j8.2 p q a b x y r hp hq ep z.1 hx hy er z.2
        · have := oldl p a x r hp ep hx er; omega
      · rw [h5 q hq e2] at eq
        rw [same q b y hq e2 eq] at es
        exact j8.2 p q a b x y r hp hq ep eq hx hy er es
theorem rB_fr {h k : gi_H} {S S' : gi_Z} (h7 : ∀ n, n < 256 → gi_R k 7 n = gi_R h 7 n) (fr : ∀ x, dy x → gi_c h x = (8, 0) ∨ gi_c h x = (101, 64) → gi_c k x = gi_c h x ∧ (∀ y, gi_I k x y = gi_I h x y) ∧ (∀ y, gi_R k x y = gi_R h x y)) (hS : ∀ a y, a = 91 ∨ a = 92 → S' a y = S a y) (H : rB h S) : rB k S' := by
  refine ⟨fun n hn => ?_, fun n m b h1 h2 h3 h4 => ?_⟩
  · rw [h7 n hn, hS 91 n (by omega)]
    refine ⟨(H.1 n hn).1, fun b hb => ?_⟩
    obtain ⟨h0, d1, d2, h1, h2, h3, h4⟩ := (H.1 n hn).2 b hb
    obtain ⟨p1, p2, p3⟩ := fr b d1 (Or.inl h1)
    obtain ⟨q1, q2, q3⟩ := fr (b + 1) d2 (Or.inr h3)
    refine ⟨h0, d1, d2, by rw [p1]; exact h1, by rw [p3]; exact h2, by rw [q1]; exact h3, fun j hj => ?_⟩
    rw [q2, hS _ _ (by omega)]; exact h4 j hj
  · rw [h7 n h1] at h3
    rw [h7 m h2] at h4
    exact H.2 n m b h1 h2 h3 h4

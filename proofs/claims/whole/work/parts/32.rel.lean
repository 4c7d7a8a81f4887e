/-! what ties the class's cells to the model's: S a i is the model's row at address a (79: now at 0, length of the value at 23) -/
abbrev gi_Z : Type := Nat → Nat → Int32
def gi_ct (f : Nat → Bool) : Nat → Nat → Nat
  | _, 0 => 0
  | j, m + 1 => (bif f j then 1 else 0) + gi_ct f (j + 1) m
def gi_fd {σ : Type} (f : Nat → σ → σ) : Nat → Nat → σ → σ
  | _, 0, s => s
  | j, m + 1, s => gi_fd f (j + 1) m (f j s)
/-- all bits of a list -/
def al_ (S : gi_Z) (l : Nat) : Int32 := gi_fd (fun k (a : Int32) => if S 98 (32 * l + k) = -1 then a else a ||| S 98 (32 * l + k)) 0 32 (S 95 l)
theorem al_c {S S' : gi_Z} (hS : ∀ a k, a = 95 ∨ a = 98 → S' a k = S a k) (l : Nat) : al_ S' l = al_ S l := by
  unfold al_
  rw [hS 95 l (by omega)]
  have e : (fun k (a : Int32) => if S' 98 (32 * l + k) = -1 then a else a ||| S' 98 (32 * l + k)) = (fun k (a : Int32) => if S 98 (32 * l + k) = -1 then a else a ||| S 98 (32 * l + k)) := by
    funext k a
    rw [hS 98 (32 * l + k) (by omega)]
  rw [e]
def dy (a : Nat) : Prop := (76 ≤ a ∧ a < 79) ∨ 109 ≤ a
/-- users, graces, now, the value -/
def rA (h : gi_H) (S : gi_Z) : Prop := gi_I h 8 0 = S 79 0 ∧ (∀ u, u < 16 → gi_I h 2 u = S 80 u) ∧ (∀ u, u < 16 → gi_I h 3 u = S 81 u) ∧ (∀ u, u < 16 → gi_I h 4 u = S 82 u) ∧ (∀ u, u < 4 → gi_I h 10 u = S 106 u) ∧ gi_I h 1 7 = S 79 23 ∧ (∀ u, u < 60 → gi_I h 75 u = S 101 u)
def sA (S : gi_Z) : Prop := (0 ≤ (S 79 0).toInt ∧ (S 79 0).toInt ≤ 1000000) ∧ (∀ u, u < 16 → vp_in (S 80 u) 16) ∧ (∀ u, u < 4 → 0 ≤ (S 106 u).toInt ∧ (S 106 u).toInt ≤ 100000) ∧ (0 ≤ (S 79 23).toInt ∧ (S 79 23).toInt ≤ 60) ∧ (∀ u, u < 60 → fits .byte (.int (S 101 u)) = true)
/-- quotas -/
def rQ (h : gi_H) (S : gi_Z) : Prop := ∀ p, p < 64 → gi_I h (11 + p) 0 = S 102 p ∧ gi_I h (11 + p) 1 = S 105 p ∧ gi_I h (11 + p) 2 = S 103 p ∧ gi_I h (11 + p) 3 = S 104 p
def sQ (S : gi_Z) (c : Nat) : Prop := ∀ p, p < 64 → (-(32 * c : Int) ≤ (S 102 p).toInt ∧ (S 102 p).toInt ≤ (32 * c : Int)) ∧ (-1 ≤ (S 103 p).toInt ∧ (S 103 p).toInt ≤ 1000) ∧ (-1 ≤ (S 104 p).toInt ∧ (S 104 p).toInt ≤ 1000) ∧ (-1 ≤ (S 105 p).toInt ∧ (S 105 p).toInt ≤ 1100000) ∧ (0 ≤ (S 105 p).toInt ↔ (0 ≤ (S 103 p).toInt ∧ (S 103 p).toInt < (S 102 p).toInt))
/-- a list of who may do what -/
def rL (h : gi_H) (S : gi_Z) (l : Nat) (r : Option Nat) : Prop := (r = none → S 93 l = 0) ∧ ∀ b, r = some b → dy b ∧ dy (b + 1) ∧ gi_c h b = (6, 0) ∧ gi_c h (b + 1) = (100, 32) ∧ gi_R h b 4 = some (b + 1) ∧ gi_I h b 0 = S 96 l ∧ gi_I h b 1 = S 95 l ∧ gi_I h b 2 = S 97 l ∧ gi_I h b 3 = S 93 l ∧ 0 < (S 93 l).toInt ∧ ∀ k, k < 32 → gi_I h (b + 1) k = S 98 (32 * l + k)
/-- an attribute -/
def rT (h : gi_H) (S : gi_Z) (j : Nat) (r : Option Nat) : Prop := (r = none → S 99 j = -1) ∧ ∀ b, r = some b → dy b ∧ dy (b + 1) ∧ gi_c h b = (7, 0) ∧ gi_R h b 0 = some (b + 1) ∧ gi_c h (b + 1) = (101, (S 99 j).toNatClampNeg) ∧ 0 ≤ (S 99 j).toInt ∧ (S 99 j).toInt ≤ 60 ∧ ∀ k, k < (S 99 j).toNatClampNeg → gi_I h (b + 1) k = S 100 (60 * j + k)
/-- an inode -/
def rN (h : gi_H) (S : gi_Z) (i a : Nat) : Prop := dy a ∧ dy (a + 1) ∧ dy (a + 2) ∧ gi_c h a = (5, 0) ∧ gi_c h (a + 1) = (100, 12) ∧ gi_c h (a + 2) = (106, 32) ∧ gi_R h a 7 = some (a + 1) ∧ gi_R h a 8 = some (a + 2) ∧
  gi_I h a 0 = S 83 i ∧ gi_I h a 1 = S 84 i ∧ gi_I h a 2 = S 85 i ∧ gi_I h a 3 = S 86 i ∧ gi_I h a 4 = S 87 i ∧ gi_I h a 5 = S 88 i ∧ gi_I h a 6 = S 90 i ∧ (∀ p, p < 12 → gi_I h (a + 1) p = S 89 (12 * i + p)) ∧
  rL h S (2 * i) (gi_R h a 9) ∧ rL h S (2 * i + 1) (gi_R h a 10) ∧ (∀ t, t < 32 → rT h S (32 * i + t) (gi_R h (a + 2) t))
def rI (h : gi_H) (S : gi_Z) : Prop := ∀ i, i < 64 → (gi_R h 5 i = none → S 83 i = 0) ∧ ∀ a, gi_R h 5 i = some a → 0 < (S 83 i).toInt ∧ rN h S i a
/-- no two inodes are one, no two lists are one -/
def rJ (h : gi_H) : Prop := (∀ i j a, i < 64 → j < 64 → gi_R h 5 i = some a → gi_R h 5 j = some a → i = j) ∧ (∀ i j a b x y r, i < 64 → j < 64 → gi_R h 5 i = some a → gi_R h 5 j = some b → (x = 9 ∨ x = 10) → (y = 9 ∨ y = 10) → gi_R h a x = some r → gi_R h b y = some r → i = j ∧ x = y)
/-- blocks -/
def rB (h : gi_H) (S : gi_Z) : Prop := (∀ n, n < 256 → (gi_R h 7 n = none → S 91 n = 0) ∧ ∀ b, gi_R h 7 n = some b → S 91 n = 1 ∧ dy b ∧ dy (b + 1) ∧ gi_c h b = (8, 0) ∧ gi_R h b 0 = some (b + 1) ∧ gi_c h (b + 1) = (101, 64) ∧ ∀ j, j < 64 → gi_I h (b + 1) j = S 92 (64 * n + j)) ∧ (∀ n m b, n < 256 → m < 256 → gi_R h 7 n = some b → gi_R h 7 m = some b → n = m)
/-- what is not made yet is not there -/
def rF (h : gi_H) : Prop := ∀ a, gi_n h ≤ a → gi_c h a = (0, 0)
theorem rA_c {h h' : gi_H} {S S' : gi_Z} (hI : ∀ a k, a = 1 ∨ a = 2 ∨ a = 3 ∨ a = 4 ∨ a = 8 ∨ a = 10 ∨ a = 75 → gi_I h' a k = gi_I h a k) (hS : ∀ a k, a = 79 ∨ a = 80 ∨ a = 81 ∨ a = 82 ∨ a = 106 ∨ a = 101 → S' a k = S a k) (H : rA h S) : rA h' S' := by
  obtain ⟨h1, h2, h3, h4, h5, h6, h7⟩ := H
  refine ⟨?_, fun u hu => ?_, fun u hu => ?_, fun u hu => ?_, fun u hu => ?_, ?_, fun u hu => ?_⟩
  · rw [hI _ _ (by omega), hS _ _ (by omega)]; exact h1
  · rw [hI _ _ (by omega), hS _ _ (by omega)]; exact h2 u hu
  · rw [hI _ _ (by omega), hS _ _ (by omega)]; exact h3 u hu
  · rw [hI _ _ (by omega), hS _ _ (by omega)]; exact h4 u hu
  · rw [hI _ _ (by omega), hS _ _ (by omega)]; exact h5 u hu
  · rw [hI _ _ (by omega), hS _ _ (by omega)]; exact h6
  · rw [hI _ _ (by omega), hS _ _ (by omega)]; exact h7 u hu
theorem sA_c {S S' : gi_Z} (hS : ∀ a k, a = 79 ∨ a = 80 ∨ a = 106 ∨ a = 101 → S' a k = S a k) (H : sA S) : sA S' := by
  obtain ⟨h1, h2, h3, h4, h5⟩ := H
  refine ⟨?_, fun u hu => ?_, fun u hu => ?_, ?_, fun u hu => ?_⟩
  · rw [hS _ _ (by omega)]; exact h1
  · rw [hS _ _ (by omega)]; exact h2 u hu
  · rw [hS _ _ (by omega)]; exact h3 u hu
  · rw [hS _ _ (by omega)]; exact h4
  · rw [hS _ _ (by omega)]; exact h5 u hu
theorem rQ_c {h h' : gi_H} {S S' : gi_Z} (hI : ∀ a k, 11 ≤ a → a < 75 → gi_I h' a k = gi_I h a k) (hS : ∀ a k, 102 ≤ a → a ≤ 105 → S' a k = S a k) (H : rQ h S) : rQ h' S' := by
  intro p hp
  obtain ⟨h1, h2, h3, h4⟩ := H p hp
  refine ⟨?_, ?_, ?_, ?_⟩ <;> rw [hI _ _ (by omega) (by omega), hS _ _ (by omega) (by omega)] <;> assumption
theorem sQ_c {S S' : gi_Z} {c c' : Nat} (hc : c ≤ c') (hS : ∀ a k, 102 ≤ a → a ≤ 105 → S' a k = S a k) (H : sQ S c) : sQ S' c' := by
  intro p hp
  obtain ⟨h1, h2, h3, h4, h5⟩ := H p hp
  rw [hS 102 p (by omega) (by omega), hS 103 p (by omega) (by omega), hS 104 p (by omega) (by omega), hS 105 p (by omega) (by omega)]
  exact ⟨by omega, h2, h3, h4, h5⟩
theorem rL_c {h h' : gi_H} {S S' : gi_Z} {l : Nat} {r : Option Nat} (hI : ∀ a k, dy a → gi_I h' a k = gi_I h a k) (hR : ∀ a k, dy a → gi_R h' a k = gi_R h a k) (hc : ∀ a, dy a → gi_c h' a = gi_c h a) (hS : ∀ a k, 93 ≤ a → a ≤ 98 → S' a k = S a k) (H : rL h S l r) : rL h' S' l r := by
  refine ⟨fun e => by rw [hS _ _ (by omega) (by omega)]; exact H.1 e, fun b e => ?_⟩
  obtain ⟨d1, d2, h1, h2, h3, h4, h5, h6, h7, h8, h9⟩ := H.2 b e
  refine ⟨d1, d2, by rw [hc _ d1]; exact h1, by rw [hc _ d2]; exact h2, by rw [hR _ _ d1]; exact h3, ?_, ?_, ?_, ?_, ?_, fun k hk => ?_⟩
  · rw [hI _ _ d1, hS _ _ (by omega) (by omega)]; exact h4
  · rw [hI _ _ d1, hS _ _ (by omega) (by omega)]; exact h5
  · rw [hI _ _ d1, hS _ _ (by omega) (by omega)]; exact h6
  · rw [hI _ _ d1, hS _ _ (by omega) (by omega)]; exact h7
  · rw [hS _ _ (by omega) (by omega)]; exact h8
  · rw [hI _ _ d2, hS _ _ (by omega) (by omega)]; exact h9 k hk
theorem rT_c {h h' : gi_H} {S S' : gi_Z} {j : Nat} {r : Option Nat} (hI : ∀ a k, dy a → gi_I h' a k = gi_I h a k) (hR : ∀ a k, dy a → gi_R h' a k = gi_R h a k) (hc : ∀ a, dy a → gi_c h' a = gi_c h a) (hS : ∀ a k, a = 99 ∨ a = 100 → S' a k = S a k) (H : rT h S j r) : rT h' S' j r := by
  refine ⟨fun e => by rw [hS _ _ (by omega)]; exact H.1 e, fun b e => ?_⟩
  obtain ⟨d1, d2, h1, h2, h3, h4, h5, h6⟩ := H.2 b e
  rw [hS 99 _ (by omega)]
  refine ⟨d1, d2, by rw [hc _ d1]; exact h1, by rw [hR _ _ d1]; exact h2, by rw [hc _ d2]; exact h3, h4, h5, fun k hk => ?_⟩
  rw [hI _ _ d2, hS _ _ (by omega)]; exact h6 k hk
theorem rN_c {h h' : gi_H} {S S' : gi_Z} {i a : Nat} (hI : ∀ a k, dy a → gi_I h' a k = gi_I h a k) (hR : ∀ a k, dy a → gi_R h' a k = gi_R h a k) (hc : ∀ a, dy a → gi_c h' a = gi_c h a) (hS : ∀ a k, (83 ≤ a ∧ a ≤ 90) ∨ (93 ≤ a ∧ a ≤ 100) → S' a k = S a k) (H : rN h S i a) : rN h' S' i a := by
  obtain ⟨d1, d2, d3, h1, h2, h3, h4, h5, h6, h7, h8, h9, h10, h11, h12, h13, h14, h15, h16⟩ := H
  refine ⟨d1, d2, d3, by rw [hc _ d1]; exact h1, by rw [hc _ d2]; exact h2, by rw [hc _ d3]; exact h3, by rw [hR _ _ d1]; exact h4, by rw [hR _ _ d1]; exact h5, ?_, ?_, ?_, ?_, ?_, ?_, ?_, fun p hp => ?_, ?_, ?_, fun t ht => ?_⟩
  · rw [hI _ _ d1, hS _ _ (by omega)]; exact h6
  · rw [hI _ _ d1, hS _ _ (by omega)]; exact h7
  · rw [hI _ _ d1, hS _ _ (by omega)]; exact h8
  · rw [hI _ _ d1, hS _ _ (by omega)]; exact h9
  · rw [hI _ _ d1, hS _ _ (by omega)]; exact h10
  · rw [hI _ _ d1, hS _ _ (by omega)]; exact h11
  · rw [hI _ _ d1, hS _ _ (by omega)]; exact h12
  · rw [hI _ _ d2, hS _ _ (by omega)]; exact h13 p hp
  · rw [hR _ _ d1]; exact rL_c hI hR hc (fun a k h1 h2 => hS a k (by omega)) h14
  · rw [hR _ _ d1]; exact rL_c hI hR hc (fun a k h1 h2 => hS a k (by omega)) h15
  · rw [hR _ _ d3]; exact rT_c hI hR hc (fun a k h1 => hS a k (by omega)) (h16 t ht)
theorem rI_c {h h' : gi_H} {S S' : gi_Z} (hI : ∀ a k, dy a → gi_I h' a k = gi_I h a k) (hR : ∀ a k, a = 5 ∨ dy a → gi_R h' a k = gi_R h a k) (hc : ∀ a, dy a → gi_c h' a = gi_c h a) (hS : ∀ a k, (83 ≤ a ∧ a ≤ 90) ∨ (93 ≤ a ∧ a ≤ 100) → S' a k = S a k) (H : rI h S) : rI h' S' := by
  intro i hi
  rw [hR 5 i (Or.inl rfl), hS 83 i (by omega)]
  refine ⟨(H i hi).1, fun a ha => ⟨((H i hi).2 a ha).1, rN_c hI (fun a k d => hR a k (Or.inr d)) hc hS ((H i hi).2 a ha).2⟩⟩
theorem rJ_c {h h' : gi_H} {S : gi_Z} (hi : rI h S) (hR : ∀ a k, a = 5 ∨ dy a → gi_R h' a k = gi_R h a k) (H : rJ h) : rJ h' := by
  refine ⟨fun i j a h1 h2 h3 h4 => ?_, fun i j a b x y r h1 h2 h3 h4 h5 h6 h7 h8 => ?_⟩
  · rw [hR 5 _ (Or.inl rfl)] at h3 h4
    exact H.1 i j a h1 h2 h3 h4
  · rw [hR 5 _ (Or.inl rfl)] at h3 h4
    have d1 := ((hi i h1).2 a h3).2.1
    have d2 := ((hi j h2).2 b h4).2.1
    rw [hR _ _ (Or.inr d1)] at h7
    rw [hR _ _ (Or.inr d2)] at h8
    exact H.2 i j a b x y r h1 h2 h3 h4 h5 h6 h7 h8
theorem rB_c {h h' : gi_H} {S S' : gi_Z} (hI : ∀ a k, dy a → gi_I h' a k = gi_I h a k) (hR : ∀ a k, a = 7 ∨ dy a → gi_R h' a k = gi_R h a k) (hc : ∀ a, dy a → gi_c h' a = gi_c h a) (hS : ∀ a k, a = 91 ∨ a = 92 → S' a k = S a k) (H : rB h S) : rB h' S' := by
  refine ⟨fun n hn => ?_, fun n m b h1 h2 h3 h4 => ?_⟩
  · rw [hR 7 n (Or.inl rfl), hS 91 n (by omega)]
    refine ⟨(H.1 n hn).1, fun b hb => ?_⟩
    obtain ⟨h0, d1, d2, h1, h2, h3, h4⟩ := (H.1 n hn).2 b hb
    refine ⟨h0, d1, d2, by rw [hc _ d1]; exact h1, by rw [hR _ _ (Or.inr d1)]; exact h2, by rw [hc _ d2]; exact h3, fun j hj => ?_⟩
    rw [hI _ _ d2, hS _ _ (by omega)]; exact h4 j hj
  · rw [hR 7 _ (Or.inl rfl)] at h3 h4
    exact H.2 n m b h1 h2 h3 h4

/-! create: the heap behind -/
set_option maxRecDepth 100000

theorem I_fC {k : gi_H} {i n : Nat} {kk : Int32} {x y : Nat} : gi_I (fC k i n kk) x y = if x = 98 ∧ y / 64 = i then -1 else if x = 93 ∧ y / 2 = i then 0 else if x = 90 ∧ y = i then -1 else if x = 88 ∧ y = i then 0 else if x = 84 ∧ y = i then nI n else if x = 83 ∧ y = i then kk else gi_I k x y := by
  unfold fC
  rw [I_clr, I_clr]
  by_cases p1 : x = 98 ∧ y / 64 = i
  · rw [if_pos p1]
    by_cases p2 : x = 98 ∧ 32 * (2 * i + 1) ≤ y ∧ y < 32 * (2 * i + 1) + 32
    · rw [if_pos p2]
    · rw [if_neg p2, if_neg (by omega), if_pos ⟨p1.1, by omega, by omega⟩]
  · rw [if_neg p1, if_neg (by omega)]
    by_cases p3 : x = 93 ∧ y / 2 = i
    · rw [if_pos p3]
      by_cases p4 : x = 93 ∧ y = 2 * i + 1
      · rw [if_pos p4]
      · rw [if_neg p4, if_neg (by omega), if_pos ⟨p3.1, by omega⟩]
    · rw [if_neg p3, if_neg (by omega), if_neg (by omega), if_neg (by omega), I_pI, I_pI, I_pI, I_pI]
theorem sL1_clr {S : gi_Z} {l : Nat} (h0 : S 93 l = 0) (r5 : vp_in (S 95 l) 8) (r6 : vp_in (S 96 l) 8) (r7 : vp_in (S 97 l) 8) (h8 : ∀ k, k < 32 → S 98 (32 * l + k) = -1) : sL1 S l := by
  refine ⟨by rw [h0]; decide, ⟨r5, r6, r7⟩, fun k hk => by rw [h8 k hk]; decide, fun _ => ⟨?_, fun z => absurd h0 z⟩⟩
  rw [h0, gi_ct_c (g := fun _ => false) 32 0 (fun k _ hk => by rw [h8 k (by omega)]; decide)]
  decide
theorem sL1_cpy {S S' : gi_Z} {l f : Nat} (H : sL1 S f) (hz : 0 < (S 83 (f / 2)).toInt) (h3 : S' 93 l = S 93 f) (h5 : S' 95 l = S 95 f) (h6 : S' 96 l = S 96 f) (h7 : S' 97 l = S 97 f) (h8 : ∀ k, k < 32 → S' 98 (32 * l + k) = S 98 (32 * f + k)) (lim : ¬ S' 93 l = 0 → S' 94 l = if l % 2 = 0 then (S' 87 (l / 2) >>> 3) &&& 7 else al_ S' l) : sL1 S' l := by
  obtain ⟨q1, q2, q3, q4⟩ := H
  refine ⟨by rw [h3]; exact q1, by rw [h5, h6, h7]; exact q2, fun k hk => by rw [h8 k hk]; exact q3 k hk, fun _ => ⟨?_, lim⟩⟩
  rw [h3, gi_ct_c (g := fun k => decide (0 ≤ S 98 (32 * f + k))) 32 0 (fun k _ hk => by rw [h8 k (by omega)])]
  exact (q4 hz).1
theorem al_to {S S' : gi_Z} {l f : Nat} (h1 : S' 95 l = S 95 f) (h2 : ∀ k, k < 32 → S' 98 (32 * l + k) = S 98 (32 * f + k)) : al_ S' l = al_ S f := by
  unfold al_
  rw [h1]
  exact gi_fd_q (R := fun (s t : Int32) => s = t) 32 0 _ _ (fun k _ hk s t e => by rw [h2 k (by omega), e]) rfl
/-- what a new inode's heap has, whatever it inherits -/
theorem inh_p {h : gi_H} {a : Nat} {k f u g m ms : Int32} {S : gi_Z} {l : Nat} (hF : rF h) : (gi_n h + 3 ≤ gi_n (inh h a k f u g m ms S l) ∧ gi_n (inh h a k f u g m ms S l) ≤ gi_n h + 7) ∧ gi_u (inh h a k f u g m ms S l) ≤ gi_u h + 129 ∧ rF (inh h a k f u g m ms S l) ∧ gi_c (inh h a k f u g m ms S l) (gi_n h + 1) = (100, 12) ∧ gi_c (inh h a k f u g m ms S l) (gi_n h + 2) = (106, 32) ∧ gi_R (inh h a k f u g m ms S l) (gi_n h) 7 = some (gi_n h + 1) ∧ gi_R (inh h a k f u g m ms S l) (gi_n h) 8 = some (gi_n h + 2) ∧ (∀ t, gi_R (inh h a k f u g m ms S l) (gi_n h + 2) t = none) ∧ gi_I (inh h a k f u g m ms S l) (gi_n h) 0 = k ∧ gi_I (inh h a k f u g m ms S l) (gi_n h) 1 = f ∧ gi_I (inh h a k f u g m ms S l) (gi_n h) 5 = 0 ∧ gi_I (inh h a k f u g m ms S l) (gi_n h) 6 = -1 ∧ (∀ p, p < 12 → gi_I (inh h a k f u g m ms S l) (gi_n h + 1) p = -1) := by
  unfold inh
  cases gi_R h a 10 with
  | none =>
    refine ⟨⟨Nat.le_refl _, by show gi_n h + 3 ≤ _; omega⟩, by show gi_u h + 55 ≤ _; omega, fun x hx => ?_, ?_, ?_, ?_, ?_, fun t => ?_, ?_, ?_, ?_, ?_, fun p hp => ?_⟩
    · have hx : gi_n h + 3 ≤ x := hx
      rw [c_pI, c_ni, if_neg (by omega), if_neg (by omega), if_neg (by omega)]
      exact hF x (by omega)
    all_goals simp [c_pI, I_pI, R_pI, c_ni, I_ni, R_ni, *]
  | some r =>
    by_cases w : k = 2
    · simp only [w, ite_true]
      refine ⟨⟨by show _ ≤ gi_n h + 3 + 2 + 2; omega, by show gi_n h + 3 + 2 + 2 ≤ _; omega⟩, by show gi_u h + 55 + 37 + 37 ≤ _; omega, fun x hx => ?_, ?_, ?_, ?_, ?_, fun t => ?_, ?_, ?_, ?_, ?_, fun p hp => ?_⟩
      · have hx : gi_n h + 3 + 2 + 2 ≤ x := hx
        rw [c_pI, c_pR, c_cl, n_pR, n_cl, n_ni, if_neg (by omega), if_neg (by omega), c_pR, c_cl, n_ni, if_neg (by omega), if_neg (by omega), c_ni, if_neg (by omega), if_neg (by omega), if_neg (by omega)]
        exact hF x (by omega)
      all_goals simp [c_pI, I_pI, R_pI, c_pR, I_pR, R_pR, c_cl, I_cl, R_cl, c_ni, I_ni, R_ni, n_pR, n_cl, n_ni, Nat.add_assoc, *]
    · simp only [w, ite_false]
      refine ⟨⟨by show _ ≤ gi_n h + 3 + 2; omega, by show gi_n h + 3 + 2 ≤ _; omega⟩, by show gi_u h + 55 + 37 ≤ _; omega, fun x hx => ?_, ?_, ?_, ?_, ?_, fun t => ?_, ?_, ?_, ?_, ?_, fun p hp => ?_⟩
      · have hx : gi_n h + 3 + 2 ≤ x := hx
        rw [c_pI, c_pR, c_pR, c_cl, n_ni, if_neg (by omega), if_neg (by omega), c_ni, if_neg (by omega), if_neg (by omega), if_neg (by omega)]
        exact hF x (by omega)
      all_goals simp [c_pI, I_pI, R_pI, c_pR, I_pR, R_pR, c_cl, I_cl, R_cl, c_ni, I_ni, R_ni, n_pR, n_cl, n_ni, Nat.add_assoc, *]

/-! write: the invariant -/
set_option maxRecDepth 100000

def rr_ (S : gi_Z) : Prop := ∀ x, x < 832 → -1 ≤ (ref_ S x).toInt ∧ (ref_ S x).toInt ≤ 255
def a9 (S S' : gi_Z) : Prop := ∀ x y, x = 89 ∨ x = 91 ∨ x = 92 → S' x y = S x y
def up_ (S : gi_Z) (n z : Nat) : gi_Z := fun x y => if x = 88 ∧ y = n then nI z else S x y
theorem up_o {S : gi_Z} {n z x y : Nat} (h : x ≠ 88) : up_ S n z x y = S x y := if_neg (fun w => h w.1)
theorem clS_o {S : gi_Z} {x0 b x y : Nat} (h1 : x ≠ 89) (h2 : x ≠ 91) (h3 : x ≠ 92) : clS S x0 b x y = S x y := by
  unfold clS
  rw [if_neg (fun w => h1 w.1), if_neg (fun w => h2 w.1), if_neg (fun w => h3 w.1)]
theorem rdS_o {S : gi_Z} {n p b x y : Nat} (h1 : x ≠ 89) (h2 : x ≠ 91) (h3 : x ≠ 92) : rdS S n p b x y = S x y := by
  unfold rdS
  split
  · exact clS_o h1 h2 h3
  · rfl
theorem clS_9 {S : gi_Z} {x0 b y : Nat} (h : y ≠ x0) : clS S x0 b 89 y = S 89 y := by
  show (if 89 = 89 ∧ y = x0 then _ else if 89 = 91 ∧ _ then _ else if 89 = 92 ∧ _ then _ else S 89 y) = S 89 y
  rw [if_neg (fun w => h w.2), if_neg (by omega), if_neg (by omega)]
theorem rdS_9 {S : gi_Z} {n p b y : Nat} (h : y ≠ 12 * n + p) : rdS S n p b 89 y = S 89 y := by
  unfold rdS
  split
  · exact clS_9 h
  · rfl
theorem clS_1 {S : gi_Z} {x0 b y : Nat} : clS S x0 b 91 y = if y = b then 1 else S 91 y := by
  show (if 91 = 89 ∧ _ then _ else if 91 = 91 ∧ y = b then _ else if 91 = 92 ∧ _ then _ else S 91 y) = _
  rw [if_neg (by omega)]
  by_cases w : y = b
  · rw [if_pos ⟨rfl, w⟩, if_pos w]
  · rw [if_neg (fun z => w z.2), if_neg (by omega), if_neg w]
theorem clS_a {S S' : gi_Z} {x0 b : Nat} (h : a9 S S') : a9 (clS S x0 b) (clS S' x0 b) := fun x y hx => by
  unfold clS
  rw [h x y hx]
theorem rdS_a {S S' : gi_Z} {n p b : Nat} (h : a9 S S') : a9 (rdS S n p b) (rdS S' n p b) := fun x y hx => by
  unfold rdS
  rw [h 89 _ (by omega)]
  by_cases w1 : S 89 (12 * n + p) = -1
  · rw [if_pos w1, if_pos w1]; exact clS_a h _ _ hx
  · rw [if_neg w1, if_neg w1]; exact h _ _ hx
theorem Wb_a {w : Int64} {N q0 b i : Nat} {S S' : gi_Z} (h : a9 S S') : ∀ m, a9 (Wb w N q0 b S i m) (Wb w N q0 b S' i m)
  | 0 => h
  | m + 1 => fun x y hx => by
    simp only [Wb]
    unfold by1
    rw [Wb_a h m x y hx]
theorem SFd_a {w : Int64} {N q0 n b1 b2 : Nat} {S S' : gi_Z} (h : a9 S S') : a9 (SFd w N q0 n b1 b2 S) (SFd w N q0 n b1 b2 S') := fun x y hx => by
  unfold SFd
  split
  · exact Wb_a (rdS_a h) _ _ _ hx
  · exact Wb_a (Wb_a (rdS_a (rdS_a h)) _) _ _ _ hx
theorem SFd_o {w : Int64} {N q0 n b1 b2 x y : Nat} {S : gi_Z} (h1 : x ≠ 89) (h2 : x ≠ 91) (h3 : x ≠ 92) : SFd w N q0 n b1 b2 S x y = S x y := by
  unfold SFd
  split
  · rw [Wb_o h3, rdS_o h1 h2 h3]
  · rw [Wb_o h3, Wb_o h3, rdS_o h1 h2 h3, rdS_o h1 h2 h3]
theorem SFd_9 {w : Int64} {N q0 n b1 b2 y : Nat} {S : gi_Z} (h1 : y ≠ 12 * n + q0 / 64) (h2 : y ≠ 12 * n + (q0 + N - 1) / 64) : SFd w N q0 n b1 b2 S 89 y = S 89 y := by
  unfold SFd
  split
  · rw [Wb_o (by omega), rdS_9 h1]
  · rw [Wb_o (by omega), Wb_o (by omega), rdS_9 h2, rdS_9 h1]
theorem okb_a {S S' : gi_Z} {n p b : Nat} (e : a9 S S') (h : okb S n p b) : okb S' n p b := by
  unfold okb at h ⊢
  rw [e 89 _ (by omega), e 91 _ (by omega), ff_c (f := fun q => decide (S' 91 q = 0)) (g := fun q => decide (S 91 q = 0)) 256 0 (fun j _ _ => by rw [e 91 j (by omega)])]
  exact h
theorem okb_0 {S : gi_Z} {n p b : Nat} (hb : b < 256) (h : okb S n p b) (e : S 89 (12 * n + p) = -1) : S 91 b = 0 := by
  rcases h with ⟨q1, q2⟩ | ⟨q1, q2⟩
  · rw [e] at q1; exact absurd q1.symm (nIm hb)
  · have := ff_t (g := fun q => decide (S 91 q = 0)) 256 0 (by rw [q2]; omega)
    rw [q2] at this
    exact of_decide_eq_true this
theorem rdS_s {S : gi_Z} {n p b : Nat} (hs : sB S) (rr : rr_ S) (hn : n < 64) (hp : p < 12) (hb : b < 256) (h : okb S n p b) : sB (rdS S n p b) ∧ rr_ (rdS S n p b) := by
  unfold rdS
  by_cases w1 : S 89 (12 * n + p) = -1
  · rw [if_pos w1]
    exact sB_cl hs (by omega) hb (okb_0 hb h w1) rr
  · rw [if_neg w1]
    exact ⟨hs, rr⟩
theorem by1_s {S : gi_Z} {n p b k0 : Nat} {v : Int32} (hs : sB S) (hn : n < 64) (hp : p < 12) (hb : b < 256) (hk : k0 < 64) (e : S 89 (12 * n + p) = nI b) (rr : rr_ S) (ge : ((64 * p + k0 : Nat) : Int) < (S 88 n).toInt) : sB (by1 S (64 * b + k0) v) ∧ rr_ (by1 S (64 * b + k0) v) := by
  have o : ∀ x y, x ≠ 92 → by1 S (64 * b + k0) v x y = S x y := fun x y hx => by unfold by1; rw [if_neg (fun w => hx w.1)]
  have re : ∀ x, ref_ (by1 S (64 * b + k0) v) x = ref_ S x := fun x => ref_c (fun a k hk => o a k (by omega)) x
  obtain ⟨s1, s2, s3, s4⟩ := hs
  refine ⟨⟨fun q hq => by rw [o 91 q (by omega)]; exact s1 q hq, fun x hx z => ?_, fun x y hx hy z1 z2 => ?_, fun i p' k h1 h2 h3 z1 z2 => ?_⟩, fun x hx => by rw [re]; exact rr x hx⟩
  · rw [re] at z ⊢
    rw [o 91 _ (by omega)]; exact s2 x hx z
  · rw [re] at z1
    rw [re, re] at z2
    exact s3 x y hx hy z1 z2
  · rw [o 89 _ (by omega)] at z1 ⊢
    rw [o 88 _ (by omega)] at z2
    have old := s4 i p' k h1 h2 h3 z1 z2
    have r := rr (12 * i + p') (by omega)
    rw [refP (by omega)] at r
    obtain ⟨t, ht, et⟩ := nI_of (x := S 89 (12 * i + p')) (by rw [i32_lt, ti_0]; omega)
    have z1' := z1
    rw [et, nI_toInt ht] at r
    rw [et, nI_clamp ht] at old ⊢
    unfold by1
    rw [if_neg]
    · exact old
    · intro w
      have w2 := w.2
      have tb : t = b := by omega
      subst tb
      have := s3 (12 * i + p') (12 * n + p) (by omega) (by omega) (by rw [refP (by omega)]; exact z1') (by rw [refP (by omega), refP (by omega), et, e])
      have ei : i = n := by omega
      have ep : p' = p := by omega
      subst ei ep
      omega
theorem Wb_s {w : Int64} {N q0 n p b i : Nat} {S : gi_Z} (hs : sB S) (hn : n < 64) (hp : p < 12) (hb : b < 256) (e : S 89 (12 * n + p) = nI b) (rr : rr_ S) : ∀ m, (∀ j, i ≤ j → j < i + m → (q0 + j) / 64 = p ∧ ((q0 + j : Nat) : Int) < (S 88 n).toInt) → sB (Wb w N q0 b S i m) ∧ rr_ (Wb w N q0 b S i m)
  | 0, _ => ⟨hs, rr⟩
  | m + 1, h => by
    obtain ⟨i1, i2⟩ := Wb_s (w := w) (N := N) (q0 := q0) (i := i) hs hn hp hb e rr m (fun j w1 w2 => h j w1 (by omega))
    obtain ⟨h1, h2⟩ := h (i + m) (by omega) (by omega)
    simp only [Wb]
    exact by1_s i1 hn hp hb (by omega) (by rw [Wb_o (by omega)]; exact e) i2 (by rw [Wb_o (by omega)]; omega)
theorem SFd_s {w : Int64} {N q0 n b1 b2 : Nat} {S : gi_Z} (hs : sB S) (rr : rr_ S) (hn : n < 64) (h1 : 1 ≤ N) (hq : q0 + N ≤ 768) (hN8 : N ≤ 8) (hb1 : b1 < 256) (hb2 : b2 < 256) (o1 : okb S n (q0 / 64) b1) (o2 : q0 / 64 < (q0 + N - 1) / 64 → okb (rdS S n (q0 / 64) b1) n ((q0 + N - 1) / 64) b2) (ge : ((q0 + N : Nat) : Int) ≤ (S 88 n).toInt) : sB (SFd w N q0 n b1 b2 S) ∧ rr_ (SFd w N q0 n b1 b2 S) := by
  obtain ⟨a1, a2⟩ := rdS_s hs rr hn (by omega) hb1 o1
  obtain ⟨r1, r2⟩ := rdS_at hb1 o1
  have e8 : ∀ (F : gi_Z) p b, rdS F n p b 88 n = F 88 n := fun F p b => rdS_o (by omega) (by omega) (by omega)
  unfold SFd
  by_cases w1 : q0 / 64 = (q0 + N - 1) / 64
  · rw [if_pos w1]
    exact Wb_s a1 hn (p := q0 / 64) (by omega) hb1 r1 a2 N (fun j w2 w3 => ⟨by omega, by rw [e8]; omega⟩)
  · rw [if_neg w1]
    have w2 : q0 / 64 < (q0 + N - 1) / 64 := by omega
    obtain ⟨c1, c2⟩ := rdS_s a1 a2 hn (by omega) hb2 (o2 w2)
    obtain ⟨t1, t2⟩ := rdS_at hb2 (o2 w2)
    obtain ⟨i1, i2⟩ := Wb_s (w := w) (N := N) (q0 := q0) (i := 0) c1 hn (p := q0 / 64) (by omega) hb1 (by rw [rdS_9 (by omega)]; exact r1) c2 (64 * (q0 / 64 + 1) - q0) (fun j w2 w3 => ⟨by omega, by rw [e8, e8]; omega⟩)
    exact Wb_s i1 hn (p := (q0 + N - 1) / 64) (by omega) hb2 (by rw [Wb_o (by omega)]; exact t1) i2 _ (fun j w2 w3 => ⟨by omega, by rw [Wb_o (by omega), e8, e8]; omega⟩)
theorem up_s {S : gi_Z} {n z : Nat} (hs : sB S) (rr : rr_ S) (hz : z ≤ 768) (ge : (S 88 n).toInt ≤ z) : sB (up_ S n z) ∧ rr_ (up_ S n z) := by
  have re : ∀ x, ref_ (up_ S n z) x = ref_ S x := fun x => ref_c (fun a k hk => up_o (by omega)) x
  obtain ⟨s1, s2, s3, s4⟩ := hs
  refine ⟨⟨fun q hq => by rw [up_o (by omega)]; exact s1 q hq, fun x hx z => ?_, fun x y hx hy z1 z2 => ?_, fun i p' k h1 h2 h3 z1 z2 => ?_⟩, fun x hx => by rw [re]; exact rr x hx⟩
  · rw [re] at z ⊢
    rw [up_o (by omega)]; exact s2 x hx z
  · rw [re] at z1
    rw [re, re] at z2
    exact s3 x y hx hy z1 z2
  · rw [up_o (by omega)] at z1 ⊢
    rw [up_o (by omega)]
    refine s4 i p' k h1 h2 h3 z1 ?_
    by_cases e : i = n
    · subst e
      rw [show up_ S i z 88 i = nI z from if_pos ⟨rfl, rfl⟩, nI_toInt (by omega)] at z2
      omega
    · rw [show up_ S n z 88 i = S 88 i from if_neg (fun w => e w.2)] at z2
      exact z2
theorem rr_J {L : Nat} {xs : Nat → Int32} {c : Nat} {h : gi_H} (J : jH L xs c h) : rr_ (gi_I h) := fun x hx => by
  have s1 := J.2.2.2.2.2.2.2.2.2.2.2.1.1
  by_cases w : x < 768
  · rw [refP w]
    have := ((s1.2 (x / 12) (by omega)).2.2.2.2.2.2.2.2 (x % 12) (by omega)).1
    rw [show 12 * (x / 12) + x % 12 = x by omega] at this
    exact this
  · unfold ref_
    rw [if_neg w]
    exact (s1.2 (x - 768) (by omega)).2.2.2.2.2.2.2.1
/-- blocks that are there, or free ones -/
theorem ex_b {S : gi_Z} {n q0 N lk : Nat} (hs : sB S) (rr : rr_ S) (hn : n < 64) (h1 : 1 ≤ N) (h8 : N ≤ 8) (hq : q0 + N ≤ 768) (el : ((if S 89 (12 * n + q0 / 64) = -1 then 1 else 0) + (if q0 / 64 < (q0 + N - 1) / 64 ∧ S 89 (12 * n + (q0 + N - 1) / 64) = -1 then 1 else 0)) = lk) (hle : lk ≤ gi_ct (fun q => decide (S 91 q = 0)) 0 256) : ∃ v1 v2, v1 < 256 ∧ v2 < 256 ∧ okb S n (q0 / 64) v1 ∧ (q0 / 64 < (q0 + N - 1) / 64 → okb (rdS S n (q0 / 64) v1) n ((q0 + N - 1) / 64) v2) := by
  have there : ∀ (F : gi_Z) p, sB F → rr_ F → p < 12 → F 89 (12 * n + p) ≠ -1 → ∃ v, v < 256 ∧ F 89 (12 * n + p) = nI v ∧ F 91 v = 1 := fun F p s r hp w => by
    have r' := r (12 * n + p) (by omega)
    rw [refP (by omega)] at r'
    have p0 : 0 ≤ (F 89 (12 * n + p)).toInt := by
      rcases Int.lt_or_le (F 89 (12 * n + p)).toInt 0 with q | q
      · exact absurd (Int32.toInt_inj.mp (by rw [ti_m1]; omega)) w
      · exact q
    obtain ⟨t, ht, et⟩ := nI_of (x := F 89 (12 * n + p)) (by rw [i32_lt, ti_0]; omega)
    have s2 := s.2.1 (12 * n + p) (by omega) (by rw [refP (by omega)]; exact p0)
    rw [refP (by omega), et, nI_clamp ht] at s2
    rw [et, nI_toInt ht] at r'
    exact ⟨t, by omega, et, s2⟩
  have free : ∀ (F : gi_Z), gi_ct (fun q => decide (F 91 q = 0)) 0 256 ≠ 0 → ff (fun q => decide (F 91 q = 0)) 0 256 < 256 := fun F w => by
    have := ff_pos (g := fun q => decide (F 91 q = 0)) 256 0 w
    omega
  have A : ∃ v1, v1 < 256 ∧ okb S n (q0 / 64) v1 := by
    by_cases w1 : S 89 (12 * n + q0 / 64) = -1
    · rw [if_pos w1] at el
      exact ⟨_, free S (by omega), Or.inr ⟨w1, rfl⟩⟩
    · obtain ⟨v, v1, v2, v3⟩ := there S (q0 / 64) hs rr (by omega) w1
      exact ⟨v, v1, Or.inl ⟨v2, v3⟩⟩
  obtain ⟨v1, hv1, ok1⟩ := A
  obtain ⟨a1, a2⟩ := rdS_s hs rr hn (by omega) hv1 ok1
  by_cases w2 : q0 / 64 < (q0 + N - 1) / 64
  · by_cases w3 : rdS S n (q0 / 64) v1 89 (12 * n + (q0 + N - 1) / 64) = -1
    · have w3' := w3
      rw [rdS_9 (by omega)] at w3'
      rw [if_pos (show q0 / 64 < (q0 + N - 1) / 64 ∧ S 89 (12 * n + (q0 + N - 1) / 64) = -1 from ⟨w2, w3'⟩)] at el
      refine ⟨v1, _, hv1, free (rdS S n (q0 / 64) v1) ?_, ok1, fun _ => Or.inr ⟨w3, rfl⟩⟩
      by_cases w1 : S 89 (12 * n + q0 / 64) = -1
      · rw [if_pos w1] at el
        have u := ct_up (f := fun q => decide (S 91 q = 0)) (g := fun q => decide (rdS S n (q0 / 64) v1 91 q = 0)) (q := v1) 256 0 (by omega) (by omega) (fun k _ _ ne => by
          show decide (rdS S n (q0 / 64) v1 91 k = 0) = decide (S 91 k = 0)
          unfold rdS
          rw [if_pos w1, clS_1, if_neg ne])
        have f1 : (decide (S 91 v1 = 0)) = true := decide_eq_true (okb_0 hv1 ok1 w1)
        have f2 : (decide (rdS S n (q0 / 64) v1 91 v1 = 0)) = false := by rw [(rdS_at hv1 ok1).2]; decide
        simp only [f1, f2, cond_true, cond_false] at u
        omega
      · have : rdS S n (q0 / 64) v1 = S := by unfold rdS; rw [if_neg w1]
        rw [this]
        omega
    · obtain ⟨v, q1, q2, q3⟩ := there (rdS S n (q0 / 64) v1) ((q0 + N - 1) / 64) a1 a2 (by omega) w3
      exact ⟨v1, v, hv1, q1, ok1, fun _ => Or.inl ⟨q2, q3⟩⟩
  · exact ⟨v1, v1, hv1, hv1, ok1, fun w => absurd w w2⟩
theorem wr_J {L : Nat} {xs : Nat → Int32} {c n a q0 N lk ow gr v1 v2 z0 z : Nat} {w : Int64} {h g : gi_H} (J : jH L xs c h) (hc : c ≤ 7142) (hn : n < 64) (hr : gi_R h 5 n = some a) (hN : rN h (gi_I h) n a) (h1 : 1 ≤ N) (h8 : N ≤ 8) (hq : q0 + N ≤ 768) (hl : lk ≤ 2) (ho : ow < 16) (hg : gr < 16) (e88 : gi_I h 88 n = nI z0) (hz0 : z0 ≤ 768) (ez : z = if z0 < q0 + N then q0 + N else z0) (hv1 : v1 < 256) (hv2 : v2 < 256) (o1 : okb (gi_I h) n (q0 / 64) v1) (o2 : q0 / 64 < (q0 + N - 1) / 64 → okb (rdS (gi_I h) n (q0 / 64) v1) n ((q0 + N - 1) / 64) v2) (H : wI_ h g n a (SFd w N q0 n v1 v2 (gi_I h)) 2) : jH L xs (c + 1) (gi_pI (wI (rw2 (rw2 (gi_pI (qst g (bo_ (AD (gi_I h) (nI lk)) (2 * ow + 0) (32 + 2 * gr + 0) (U0 h))) a 5 (nI z)) 107 108 (chc (gi_I h) lk ow gr (T0 (gi_pI (qst g (bo_ (AD (gi_I h) (nI lk)) (2 * ow + 0) (32 + 2 * gr + 0) (U0 h))) a 5 (nI z))))) 102 105 (K0 (gi_pI (qst g (bo_ (AD (gi_I h) (nI lk)) (2 * ow + 0) (32 + 2 * gr + 0) (U0 h))) a 5 (nI z)) (chc (gi_I h) lk ow gr (T0 (gi_pI (qst g (bo_ (AD (gi_I h) (nI lk)) (2 * ow + 0) (32 + 2 * gr + 0) (U0 h))) a 5 (nI z)))))) (SFd w N q0 n v1 v2 (gi_I (rw2 (rw2 (gi_pI (qst g (bo_ (AD (gi_I h) (nI lk)) (2 * ow + 0) (32 + 2 * gr + 0) (U0 h))) a 5 (nI z)) 107 108 (chc (gi_I h) lk ow gr (T0 (gi_pI (qst g (bo_ (AD (gi_I h) (nI lk)) (2 * ow + 0) (32 + 2 * gr + 0) (U0 h))) a 5 (nI z))))) 102 105 (K0 (gi_pI (qst g (bo_ (AD (gi_I h) (nI lk)) (2 * ow + 0) (32 + 2 * gr + 0) (U0 h))) a 5 (nI z)) (chc (gi_I h) lk ow gr (T0 (gi_pI (qst g (bo_ (AD (gi_I h) (nI lk)) (2 * ow + 0) (32 + 2 * gr + 0) (U0 h))) a 5 (nI z))))))))) 88 n (nI z)) := by
  have hS := J.1
  have h109 := hS.1
  obtain ⟨j1, j2, j3, j4, j5, j6, j7, j8, j9, j10, j11, j12, j13, j14⟩ := id J
  obtain ⟨d1, d2, d3, c1, c2, c3, f7, f8, k0, k1, k2, k3, k4, k5, k6, kp, kl, kf, kt⟩ := id hN
  obtain ⟨s1, s2, s3, s4⟩ := j12
  obtain ⟨g1, g2, g3, g4, g5, g6, g7, g8, g9⟩ := s1.2 n hn
  obtain ⟨q1, q2, q3, ⟨q41, q42, q43, q44⟩, q5, q6, q7⟩ := id H
  have dd1 := d1
  have dd2 := d2
  unfold dy at dd1 dd2
  have zz : z0 ≤ z ∧ q0 + N ≤ z ∧ z ≤ 768 := by
    by_cases w1 : z0 < q0 + N
    · rw [if_pos w1] at ez; omega
    · rw [if_neg w1] at ez; omega
  clear ez
  have lt : ∀ x, gi_c h x ≠ (0, 0) → x < gi_n h := fun x hx => Nat.lt_of_not_le (fun w => hx (j2 x w))
  have la := lt a (by rw [c1]; decide)
  have la1 := lt (a + 1) (by rw [c2]; decide)
  generalize hU : (bo_ (AD (gi_I h) (nI lk)) (2 * ow + 0) (32 + 2 * gr + 0) (U0 h)) = U
  have hV : ∀ p, p < 64 → iv (gi_I h 103 p) (32 * (c + 1 : Nat)) (U p) := fun p hp => by
    rw [← hU, bo_v, U0_J J hp]
    by_cases w : p = 2 * ow + 0 ∨ p = 32 + 2 * gr + 0
    · rw [if_pos w]
      exact AD_iv J hc hp (by rw [nI_toInt (by omega)]; omega)
    · rw [if_neg w]; exact iv_up (iv_J J hp)
  generalize hk : gi_pI (qst g U) a 5 (nI z) = k
  have eIk : ∀ x y, gi_I k x y = if x = a ∧ y = 5 then nI z else if 11 ≤ x ∧ x < 75 ∧ y = 0 then (U (x - 11)).1 else if 11 ≤ x ∧ x < 75 ∧ y = 1 then (U (x - 11)).2 else gi_I g x y := fun x y => by rw [← hk]; rfl
  have eRk : ∀ x y, gi_R k x y = gi_R g x y := fun x y => by rw [← hk]; rfl
  have eck : ∀ x, gi_c k x = gi_c g x := fun x => by rw [← hk]; rfl
  have enk : gi_n k = gi_n g := by rw [← hk]; rfl
  have euk : gi_u k = gi_u g := by rw [← hk]; rfl
  clear hk
  have rows : ∀ x y, 79 ≤ x → x < 109 → gi_I k x y = gi_I h x y := fun x y w1 w2 => by
    rw [eIk, if_neg (by omega), if_neg (by omega), if_neg (by omega)]
    exact q7 x y (by omega) (by omega) (cs_ne j1 j3 (Or.inr ⟨w1, w2⟩))
  generalize hT : chc (gi_I h) lk ow gr (T0 k) = T
  have eT : ∀ p, p < 64 → T0 k p = (gi_I h 102 p, gi_I h 105 p) := fun p hp => by rw [T0_c (h := h) (fun x y hx => rows x y (by omega) (by omega)), T0_J hp]
  have tv : ∀ p, p < 64 → T p = U p := fun p hp => by
    rw [← hT, ← hU]
    unfold chc
    rw [bo_v, bo_v, eT p hp, U0_J J hp]
    by_cases w : p = 2 * ow + 0 ∨ p = 32 + 2 * gr + 0
    · rw [if_pos w, if_pos w]
      exact CH_n J hc hp lk (by omega)
    · rw [if_neg w, if_neg w]
  clear hT hU
  generalize hK3 : rw2 (rw2 k 107 108 T) 102 105 (K0 k T) = K3
  have eI3 : ∀ x y, gi_I K3 x y = if x = 102 then (K0 k T y).1 else if x = 105 then (K0 k T y).2 else if x = 107 then (T y).1 else if x = 108 then (T y).2 else gi_I k x y := fun x y => by rw [← hK3]; rfl
  have eR3 : ∀ x y, gi_R K3 x y = gi_R g x y := fun x y => by rw [← eRk, ← hK3]; rfl
  have ec3 : ∀ x, gi_c K3 x = gi_c g x := fun x => by rw [← eck, ← hK3]; rfl
  have en3 : gi_n K3 = gi_n g := by rw [← enk, ← hK3]; rfl
  have eu3 : gi_u K3 = gi_u g := by rw [← euk, ← hK3]; rfl
  clear hK3
  generalize hK : gi_pI (wI K3 (SFd w N q0 n v1 v2 (gi_I K3))) 88 n (nI z) = K
  have eI : ∀ x y, gi_I K x y = if x = 88 ∧ y = n then nI z else SFd w N q0 n v1 v2 (gi_I K3) x y := fun x y => by rw [← hK]; rfl
  have eR : ∀ x y, gi_R K x y = gi_R g x y := fun x y => by rw [← eR3, ← hK]; rfl
  have ec : ∀ x, gi_c K x = gi_c g x := fun x => by rw [← ec3, ← hK]; rfl
  have en : gi_n K = gi_n g := by rw [← en3, ← hK]; rfl
  have eu : gi_u K = gi_u g := by rw [← eu3, ← hK]; rfl
  clear hK
  have ek : ∀ x y, ¬ (x = 88 ∧ y = n) → x ≠ 89 → x ≠ 91 → x ≠ 92 → x ≠ 102 → x ≠ 105 → x ≠ 107 → x ≠ 108 → gi_I K x y = gi_I k x y := fun x y w1 w2 w3 w4 w5 w6 w7 w8 => by
    rw [eI, if_neg w1, SFd_o w2 w3 w4, eI3, if_neg w5, if_neg w6, if_neg w7, if_neg w8]
  have eg : ∀ x y, ¬ (x = 88 ∧ y = n) → x ≠ 89 → x ≠ 91 → x ≠ 92 → x ≠ 102 → x ≠ 105 → x ≠ 107 → x ≠ 108 → ¬ (x = a ∧ y = 5) → ¬ (11 ≤ x ∧ x < 75 ∧ (y = 0 ∨ y = 1)) → gi_I K x y = gi_I g x y := fun x y w1 w2 w3 w4 w5 w6 w7 w8 w9 w10 => by
    rw [ek x y w1 w2 w3 w4 w5 w6 w7 w8, eIk, if_neg w9, if_neg (by omega), if_neg (by omega)]
  have eh : ∀ x y, ¬ (x = 88 ∧ y = n) → x ≠ 89 → x ≠ 91 → x ≠ 92 → x ≠ 102 → x ≠ 105 → x ≠ 107 → x ≠ 108 → ¬ (x = a ∧ y = 5) → ¬ (11 ≤ x ∧ x < 75 ∧ (y = 0 ∨ y = 1)) → x < gi_n h → x ≠ a + 1 → gi_c h x ≠ (101, 64) → gi_I K x y = gi_I h x y := fun x y w1 w2 w3 w4 w5 w6 w7 w8 w9 w10 w11 w12 w13 => by
    rw [eg x y w1 w2 w3 w4 w5 w6 w7 w8 w9 w10, q7 x y w11 w12 w13]
  have em : ∀ x y, (79 ≤ x ∧ x < 109) → ¬ (x = 88 ∧ y = n) → x ≠ 89 → x ≠ 91 → x ≠ 92 → x ≠ 102 → x ≠ 105 → x ≠ 107 → x ≠ 108 → gi_I K x y = gi_I h x y := fun x y hx w1 w2 w3 w4 w5 w6 w7 w8 => by
    rw [ek x y w1 w2 w3 w4 w5 w6 w7 w8, rows x y hx.1 hx.2]
  have ea : ∀ y, y ≠ 5 → gi_I K a y = gi_I h a y := fun y hy => eh a y (by omega) (by omega) (by omega) (by omega) (by omega) (by omega) (by omega) (by omega) (by omega) (by omega) la (by omega) (by rw [c1]; decide)
  have v88 : gi_I K 88 n = nI z := by rw [eI, if_pos ⟨rfl, rfl⟩]
  have A3 : a9 (gi_I h) (gi_I K3) := fun x y hx => by rw [eI3, if_neg (by omega), if_neg (by omega), if_neg (by omega), if_neg (by omega)]; exact rows x y (by omega) (by omega)
  have Au : a9 (gi_I h) (up_ (gi_I h) n z) := fun x y hx => up_o (by omega)
  have e9 : a9 (SFd w N q0 n v1 v2 (gi_I h)) (gi_I K) := fun x y hx => by rw [eI, if_neg (by omega)]; exact SFd_a A3 x y hx
  have e9u : a9 (SFd w N q0 n v1 v2 (up_ (gi_I h) n z)) (gi_I K) := fun x y hx => by rw [e9 x y hx, ← SFd_a Au x y hx]
  obtain ⟨su1, su2⟩ := up_s (S := gi_I h) (n := n) (z := z) s4 (rr_J J) zz.2.2 (by rw [e88, nI_toInt (by omega)]; omega)
  obtain ⟨sf1, sf2⟩ := SFd_s (w := w) su1 su2 hn h1 hq h8 hv1 hv2 (okb_a Au o1) (fun w2 => okb_a (rdS_a Au) (o2 w2)) (by rw [show up_ (gi_I h) n z 88 n = nI z from if_pos ⟨rfl, rfl⟩, nI_toInt (by omega)]; omega)
  refine jF (V := U) J hn hr hN (by omega) (by omega) (by omega) (fun x hx => by rw [ec]; exact q44 x (by omega)) (fun x hx => by rw [ec]; exact q5 x (lt x hx)) (fun x y hd h7 => by rw [eR]; exact q6 x y (by unfold dy at hd; omega) h7) (fun x y hd hx => by rw [eR]; exact q6 x y (lt x hx) (by unfold dy at hd; omega)) (fun x y w1 w2 => ?_) (fun x y hd hx w1 w2 w3 => ?_) (fun x y hx => em x y (by omega) (by omega) (by omega) (by omega) (by omega) (by omega) (by omega) (by omega) (by omega)) (fun x j hx ne => em x j (by omega) (by omega) (by omega) (by omega) (by omega) (by omega) (by omega) (by omega) (by omega)) (fun j p ne hp => ?_) (ea 0 (by omega)) (ea 1 (by omega)) (ea 4 (by omega)) ?_ ?_ ?_ ?_ ?_ ?_ ?_ ?_ ?_ ?_ (fun p hp => ?_) hV ?_ ?_ ?_
  · exact eh x y (by omega) (by omega) (by omega) (by omega) (by omega) (by omega) (by omega) (by omega) (by omega) (by omega) (by omega) (by omega) (cs_ne j1 j3 (Or.inl w1))
  · unfold dy at hd
    exact eh x y (by omega) (by omega) (by omega) (by omega) (by omega) (by omega) (by omega) (by omega) (by omega) (by omega) (lt x hx) w2 w3
  · rw [e9 89 _ (by omega), SFd_9 (by omega) (by omega)]
  · rw [ea 2 (by omega), k2, em 85 n (by omega) (by omega) (by omega) (by omega) (by omega) (by omega) (by omega) (by omega) (by omega)]
  · rw [ea 3 (by omega), k3, em 86 n (by omega) (by omega) (by omega) (by omega) (by omega) (by omega) (by omega) (by omega) (by omega)]
  · rw [v88, ek a 5 (by omega) (by omega) (by omega) (by omega) (by omega) (by omega) (by omega) (by omega), eIk, if_pos ⟨rfl, rfl⟩]
  · rw [ea 6 (by omega), k6, em 90 n (by omega) (by omega) (by omega) (by omega) (by omega) (by omega) (by omega) (by omega) (by omega)]
  · intro p hp
    rw [eg (a + 1) p (by omega) (by omega) (by omega) (by omega) (by omega) (by omega) (by omega) (by omega) (by omega) (by omega), q3 p hp, e9 89 _ (by omega)]
  · rw [em 85 n (by omega) (by omega) (by omega) (by omega) (by omega) (by omega) (by omega) (by omega) (by omega)]; exact g4
  · rw [em 86 n (by omega) (by omega) (by omega) (by omega) (by omega) (by omega) (by omega) (by omega) (by omega)]; exact g5
  · rw [v88, nI_toInt (by omega)]; omega
  · rw [em 90 n (by omega) (by omega) (by omega) (by omega) (by omega) (by omega) (by omega) (by omega) (by omega)]; exact g8
  · intro p hp
    rw [e9u 89 _ (by omega)]
    have := sf2 (12 * n + p) (by omega)
    rw [refP (by omega)] at this
    exact this
  · have kk0 : K0 k T p = U p := by unfold K0 cp_; rw [if_pos hp, tv p hp]
    have o11 : ∀ y, gi_I K (11 + p) y = gi_I k (11 + p) y := fun y => ek _ _ (by omega) (by omega) (by omega) (by omega) (by omega) (by omega) (by omega) (by omega)
    have o23 : ∀ y, y = 2 ∨ y = 3 → gi_I K (11 + p) y = gi_I h (11 + p) y := fun y hy => eh _ _ (by omega) (by omega) (by omega) (by omega) (by omega) (by omega) (by omega) (by omega) (by omega) (by omega) (by omega) (by omega) (cs_ne j1 j3 (Or.inl (by omega)))
    refine ⟨⟨?_, ?_, o23 2 (by omega), o23 3 (by omega)⟩, ⟨?_, ?_⟩, em 103 p (by omega) (by omega) (by omega) (by omega) (by omega) (by omega) (by omega) (by omega) (by omega), em 104 p (by omega) (by omega) (by omega) (by omega) (by omega) (by omega) (by omega) (by omega) (by omega)⟩
    · rw [o11, eIk, if_neg (by omega), if_pos ⟨by omega, by omega, rfl⟩, show 11 + p - 11 = p by omega]
    · rw [o11, eIk, if_neg (by omega), if_neg (by omega), if_pos ⟨by omega, by omega, rfl⟩, show 11 + p - 11 = p by omega]
    · rw [eI, if_neg (by omega), SFd_o (by omega) (by omega) (by omega), eI3, if_pos rfl, kk0]
    · rw [eI, if_neg (by omega), SFd_o (by omega) (by omega) (by omega), eI3, if_neg (by omega), if_pos rfl, kk0]
  · have ag : gi_c g a = (5, 0) := by rw [q5 a la, c1]
    exact rB_fr (fun q _ => eR 7 q) (fun x hd hx => ⟨ec x, fun y => by
      have na : x ≠ a := fun e => by rw [e, ag] at hx; rcases hx with hx | hx <;> exact absurd hx (by decide)
      unfold dy at hd
      exact eg x y (by omega) (by omega) (by omega) (by omega) (by omega) (by omega) (by omega) (by omega) (by omega) (by omega), eR x⟩) (fun x y hx => e9 x y (by omega)) q2
  · exact sT_c (fun x y hx => em x y (by omega) (by omega) (by omega) (by omega) (by omega) (by omega) (by omega) (by omega) (by omega)) s3
  · refine sB_c (S := SFd w N q0 n v1 v2 (up_ (gi_I h) n z)) (fun x y hx => ?_) sf1
    by_cases w1 : x = 89 ∨ x = 91 ∨ x = 92
    · exact e9u x y w1
    · rw [SFd_o (by omega) (by omega) (by omega)]
      unfold up_
      by_cases w2 : x = 88 ∧ y = n
      · rw [if_pos w2, w2.1, w2.2, v88]
      · rw [if_neg w2]
        exact em x y (by omega) w2 (by omega) (by omega) (by omega) (by omega) (by omega) (by omega) (by omega)

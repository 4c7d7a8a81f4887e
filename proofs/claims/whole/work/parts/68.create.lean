/-! pair: create -/
set_option maxRecDepth 100000

theorem may_c {S S' : gi_Z} {u i : Nat} {x : Int32} (e : ∀ a y, 79 ≤ a → a < 109 → S' a y = S a y) : may_ S' u i x = may_ S u i x := by
  have e1 : ∀ y, S' 80 y = S 80 y := fun y => e 80 y (by omega) (by omega)
  have e2 : ∀ y, S' 81 y = S 81 y := fun y => e 81 y (by omega) (by omega)
  have e3 : ∀ y, S' 83 y = S 83 y := fun y => e 83 y (by omega) (by omega)
  have e4 : ∀ y, S' 85 y = S 85 y := fun y => e 85 y (by omega) (by omega)
  have e5 : ∀ y, S' 86 y = S 86 y := fun y => e 86 y (by omega) (by omega)
  have e6 : ∀ y, S' 87 y = S 87 y := fun y => e 87 y (by omega) (by omega)
  have e7 : ∀ y, S' 93 y = S 93 y := fun y => e 93 y (by omega) (by omega)
  have e8 : ∀ y, S' 94 y = S 94 y := fun y => e 94 y (by omega) (by omega)
  have e9 : ∀ y, S' 95 y = S 95 y := fun y => e 95 y (by omega) (by omega)
  have e10 : ∀ y, S' 98 y = S 98 y := fun y => e 98 y (by omega) (by omega)
  simp only [may_, li_, gs_, inG, al_, e1, e2, e3, e4, e5, e6, e7, e8, e9, e10]
theorem sL_rows {S S' : gi_Z} (e : ∀ a y, 79 ≤ a → a < 109 → S' a y = S a y) (H : sL S) : sL S' := sL_c (fun a k _ => e a k (by omega) (by omega)) H
/-- behind the questions -/
theorem cr_all {L : Nat} {xs : Nat → Int32} {c d n a u : Nat} {kk m : Int32} {h : gi_H} (J : jH L xs c h) (hc : c ≤ 7142) (hu : u < 16) (hn : n < 64) (hr : gi_R h 5 n = some a) (hN : rN h (gi_I h) n a) (kd : gi_I h 83 n = 2) (hk : kk = 2 ∨ (¬ kk = 2 ∧ m.toInt ≤ 511)) (hk2 : 0 < kk.toInt ∧ kk.toInt ≤ 2) (hm : 0 ≤ m.toInt ∧ m.toInt ≤ 1023) {Q : gi_P}
    (hQ : ∀ x kC, gi_S kC → (∀ b y, 79 ≤ b → b < 109 → gi_I kC b y = gi_I h b y) → gi_ex (gi_cx (d + 6)) 103 (fun r' k2 => r' = some (.inl x) ∧ jH L xs (c + 1) k2) 75 [some (.inr (.inr (some 79))), some (.inl (nI u)), some (.inl (nI n)), some (.inl kk), some (.inl m), none, none, none, none, none, none] [] kC → Q (some (.inl x)) kC) : gi_ex (gi_cx (d + 6)) 13 Q 70 [some (.inr (.inr (some 1))), some (.inl (nI u)), some (.inl (nI n)), some (.inl kk), some (.inl m), some (.inr (.inr (some a))), none, none, none] [] h := by
  have hS := J.1
  have h109 := hS.1
  have jF := J.2.1
  have hI := J.2.2.2.2.2.2.1
  have sn := J.2.2.2.2.2.2.2.2.2.2.2.1.1
  have sA := J.2.2.2.2.2.2.2.2.2.1
  obtain ⟨g1, g2, g3, g4, g5, -⟩ := sn.2 n hn
  obtain ⟨gr, hg, eg⟩ : ∃ gr, gr < 16 ∧ (if gi_I h 87 n &&& 1024 = 0 then gi_I h 80 u else gi_I h 86 n) = nI gr := by
    by_cases w : gi_I h 87 n &&& 1024 = 0
    · rw [if_pos w]
      obtain ⟨g, hg, e⟩ := vp_in_of (sA.2.1 u hu) (by omega)
      exact ⟨g, hg, e⟩
    · rw [if_neg w]
      obtain ⟨g, hg, e⟩ := vp_in_of g5 (by omega)
      exact ⟨g, hg, e⟩
  have z0 : ¬ gi_I h 83 0 ≤ 0 := by rw [sn.1]; decide
  have ffe : ∀ k : gi_H, (∀ b y, 79 ≤ b → b < 109 → gi_I k b y = gi_I h b y) → ff (fun n => decide (gi_I k 83 n ≤ 0)) 0 64 = ff (fun n => (gi_R h 5 n).isNone) 0 64 := fun k rows => ff_c 64 0 (fun j _ hj => by
    rw [rows 83 j (by omega) (by omega)]
    have q := hI j (by omega)
    cases e : gi_R h 5 j with
    | none => rw [q.1 e]; rfl
    | some b =>
      have := (q.2 b e).1
      exact decide_eq_false (by rw [i32_le, ti_0]; omega))
  have TT : ∀ k : gi_H, (∀ b y, 79 ≤ b → b < 109 → gi_I k b y = gi_I h b y) → ∀ p, p < 64 → T0 k p = U0 h p := fun k rows p hp => by
    rw [T0_c (h := h) (fun x y hx => rows x y (by omega) (by omega)), T0_J hp, U0_J J hp]
  have QSr : ∀ k : gi_H, (∀ b y, 79 ≤ b → b < 109 → gi_I k b y = gi_I h b y) → QS k (gi_I h) := fun k rows => ⟨fun p hp => ⟨rows _ _ (by omega) (by omega), rows _ _ (by omega) (by omega)⟩, rows _ _ (by omega) (by omega), fun p hp => rows _ _ (by omega) (by omega)⟩
  have egr : ∀ k : gi_H, (∀ b y, 79 ≤ b → b < 109 → gi_I k b y = gi_I h b y) → (if gi_I k 87 n &&& 1024 = 0 then gi_I k 80 u else gi_I k 86 n) = nI gr := fun k rows => by
    rw [rows 87 n (by omega) (by omega), rows 80 u (by omega) (by omega), rows 86 n (by omega) (by omega)]; exact eg
  refine cr_C (d := d) J hc hu hn hN hg eg (fun w => hQ _ h hS (fun _ _ _ _ => rfl) ?_) (fun i hi ei u0 gb => ?_) (fun i hi ei ug => ?_)
  · have rows : ∀ b y, 79 ≤ b → b < 109 → gi_I h b y = gi_I h b y := fun _ _ _ _ => rfl
    refine m_103a (d := d + 2) hS (QSr h rows) hu hn hg eg z0 (fun _ => ⟨rfl, jH_up J⟩) (fun j hj ej _ _ => ?_) (fun j hd g hj ej _ _ => ?_)
    · rw [ffe h rows] at ej; omega
    · rw [ffe h rows] at ej; omega
  · have E : ext h (ni h kk (nI n) (nI u) (nI gr) m) := ext_ni
    have rows : ∀ b y, 79 ≤ b → b < 109 → gi_I (ni h kk (nI n) (nI u) (nI gr) m) b y = gi_I h b y := fun b y w1 w2 => (E.2 b (by omega)).2.1 y
    refine hQ _ _ (ext_S E hS) rows ?_
    refine m_103a (d := d + 2) (ext_S E hS) (QSr _ rows) hu hn hg (egr _ rows) (by rw [rows 83 0 (by omega) (by omega)]; exact z0) (fun w => ?_) (fun j hj ej _ _ => ⟨rfl, ?_⟩) (fun j hd g hj ej ug _ => ?_)
    · rw [ffe _ rows] at w; omega
    · rw [ffe _ rows, ei] at ej
      subst ej
      have fr : gi_R h 5 i = none := by
        have := ff_t (g := fun n => (gi_R h 5 n).isNone) 64 0 (by omega)
        rw [ei] at this
        cases q : gi_R h 5 i with
        | none => rfl
        | some b => rw [q] at this; cases this
      refine j_rf J hi fr (by show gi_n h ≤ gi_n h + 3; omega) (by show gi_n h + 3 ≤ _; omega) (by show gi_u h + 55 ≤ _; omega) (fun x hx => ?_) (fun x hx => ?_) (fun x y hx => ?_) (fun x y w0 w1 w2 w3 w4 => ?_) ?_ ?_
      · have hx : gi_n h + 3 ≤ x := hx
        show gi_c (ni h kk (nI n) (nI u) (nI gr) m) x = _
        rw [c_ni, if_neg (by omega), if_neg (by omega), if_neg (by omega)]
        exact jF x (by omega)
      · exact (E.2 x hx).1
      · exact (E.2 x hx).2.2 y
      · rw [I_rw2, if_neg w3, if_neg w4, I_pI, if_neg w2, I_pI, if_neg w1]
        exact (E.2 x w0).2.1 y
      · rw [I_rw2, if_neg (by omega), if_neg (by omega), I_pI, if_neg (by omega), I_pI, if_pos ⟨rfl, rfl⟩]
        exact vp_in_nI hu (by omega)
      · rw [I_rw2, if_neg (by omega), if_neg (by omega), I_pI, if_pos ⟨rfl, rfl⟩]
        exact vp_in_nI hg (by omega)
    · rw [TT _ rows _ (by omega), TT _ rows _ (by omega), gb] at ug
      rcases ug with ug | ug
      · exact absurd ug u0
      · cases ug
  · have E : ext h (inh h a kk (nI n) (nI u) (nI gr) m (gi_I h 82 u) (gi_I h) (2 * n + 1)) := ext_inh
    have hSk : gi_S (qst (gi_pR (inh h a kk (nI n) (nI u) (nI gr) m (gi_I h 82 u) (gi_I h) (2 * n + 1)) 5 i (some (gi_n h))) (bo_ (AD (gi_I h) 1) (2 * u + 1) (32 + 2 * gr + 1) (U0 h))) := S_pR (h := inh h a kk (nI n) (nI u) (nI gr) m (gi_I h 82 u) (gi_I h) (2 * n + 1)) (a := 5) (ext_S E hS) (Or.inl rfl)
    have kI0 : ∀ x y, ¬ (11 ≤ x ∧ x < 75) → gi_I (qst (gi_pR (inh h a kk (nI n) (nI u) (nI gr) m (gi_I h 82 u) (gi_I h) (2 * n + 1)) 5 i (some (gi_n h))) (bo_ (AD (gi_I h) 1) (2 * u + 1) (32 + 2 * gr + 1) (U0 h))) x y = gi_I (inh h a kk (nI n) (nI u) (nI gr) m (gi_I h 82 u) (gi_I h) (2 * n + 1)) x y := fun x y w => by rw [I_qstb w]; rfl
    have rows : ∀ b y, 79 ≤ b → b < 109 → gi_I (qst (gi_pR (inh h a kk (nI n) (nI u) (nI gr) m (gi_I h 82 u) (gi_I h) (2 * n + 1)) 5 i (some (gi_n h))) (bo_ (AD (gi_I h) 1) (2 * u + 1) (32 + 2 * gr + 1) (U0 h))) b y = gi_I h b y := fun b y w1 w2 => by rw [kI0 b y (by omega)]; exact (E.2 b (by omega)).2.1 y
    refine hQ _ (qst (gi_pR (inh h a kk (nI n) (nI u) (nI gr) m (gi_I h 82 u) (gi_I h) (2 * n + 1)) 5 i (some (gi_n h))) (bo_ (AD (gi_I h) 1) (2 * u + 1) (32 + 2 * gr + 1) (U0 h))) hSk rows ?_
    have fr : gi_R h 5 i = none := by
      have := ff_t (g := fun n => (gi_R h 5 n).isNone) 64 0 (by omega)
      rw [ei] at this
      cases q : gi_R h 5 i with
      | none => rfl
      | some b => rw [q] at this; cases this
    have nei : n ≠ i := fun e => by subst e; rw [hr] at fr; cases fr
    refine m_103a (d := d + 2) (S := gi_I h) hSk (QSr _ rows) hu hn hg (egr _ rows) (by rw [rows 83 0 (by omega) (by omega)]; exact z0) (fun w => ?_) (fun j hj ej u0 gb => ?_) (fun j hd g hj ej _ eh => ?_)
    · rw [ffe _ rows] at w; omega
    · rw [TT _ rows _ (by omega), TT _ rows _ (by omega)] at gb
      rcases ug with ug | ug
      · exact absurd ug u0
      · rw [gb] at ug; cases ug
    · rw [ffe _ rows, ei] at ej
      subst ej
      rw [rows 87 n (by omega) (by omega)] at eh
      generalize hT1 : bo_ (CH (gi_I h)) (2 * u + 1) (32 + 2 * gr + 1) (T0 (qst (gi_pR (inh h a kk (nI n) (nI u) (nI gr) m (gi_I h 82 u) (gi_I h) (2 * n + 1)) 5 i (some (gi_n h))) (bo_ (AD (gi_I h) 1) (2 * u + 1) (32 + 2 * gr + 1) (U0 h)))) = T1
      have tv : ∀ p, p < 64 → T1 p = bo_ (AD (gi_I h) 1) (2 * u + 1) (32 + 2 * gr + 1) (U0 h) p := fun p hp => by
        rw [← hT1]
        unfold bo_
        rw [TT _ rows p hp]
        by_cases w : p = 2 * u + 1 ∨ p = 32 + 2 * gr + 1
        · rw [if_pos w, if_pos w, U0_J J hp]
          exact CH_n J hc hp 1 (by omega)
        · rw [if_neg w, if_neg w]
      have tiv : ∀ p, p < 64 → iv (gi_I h 103 p) (32 * (c + 1 : Nat)) (bo_ (AD (gi_I h) 1) (2 * u + 1) (32 + 2 * gr + 1) (U0 h) p) := fun p hp => by
        unfold bo_
        rw [U0_J J hp]
        by_cases w : p = 2 * u + 1 ∨ p = 32 + 2 * gr + 1
        · rw [if_pos w]; exact AD_iv J hc hp (by decide)
        · rw [if_neg w]; exact iv_up (iv_J J hp)
      generalize hk2' : rw2 (rw2 (gi_pI (gi_pI (qst (gi_pR (inh h a kk (nI n) (nI u) (nI gr) m (gi_I h 82 u) (gi_I h) (2 * n + 1)) 5 i (some (gi_n h))) (bo_ (AD (gi_I h) 1) (2 * u + 1) (32 + 2 * gr + 1) (U0 h))) 85 i (nI u)) 86 i (nI gr)) 107 108 T1) 102 105 (K0 (gi_pI (gi_pI (qst (gi_pR (inh h a kk (nI n) (nI u) (nI gr) m (gi_I h 82 u) (gi_I h) (2 * n + 1)) 5 i (some (gi_n h))) (bo_ (AD (gi_I h) 1) (2 * u + 1) (32 + 2 * gr + 1) (U0 h))) 85 i (nI u)) 86 i (nI gr)) T1) = k2
      have eI2 : ∀ x y, gi_I k2 x y = if x = 102 then (K0 (gi_pI (gi_pI (qst (gi_pR (inh h a kk (nI n) (nI u) (nI gr) m (gi_I h 82 u) (gi_I h) (2 * n + 1)) 5 i (some (gi_n h))) (bo_ (AD (gi_I h) 1) (2 * u + 1) (32 + 2 * gr + 1) (U0 h))) 85 i (nI u)) 86 i (nI gr)) T1 y).1 else if x = 105 then (K0 (gi_pI (gi_pI (qst (gi_pR (inh h a kk (nI n) (nI u) (nI gr) m (gi_I h 82 u) (gi_I h) (2 * n + 1)) 5 i (some (gi_n h))) (bo_ (AD (gi_I h) 1) (2 * u + 1) (32 + 2 * gr + 1) (U0 h))) 85 i (nI u)) 86 i (nI gr)) T1 y).2 else if x = 107 then (T1 y).1 else if x = 108 then (T1 y).2 else if x = 86 ∧ y = i then nI gr else if x = 85 ∧ y = i then nI u else gi_I (qst (gi_pR (inh h a kk (nI n) (nI u) (nI gr) m (gi_I h 82 u) (gi_I h) (2 * n + 1)) 5 i (some (gi_n h))) (bo_ (AD (gi_I h) 1) (2 * u + 1) (32 + 2 * gr + 1) (U0 h))) x y := fun x y => by rw [← hk2']; rfl
      have hS2 : gi_S k2 := by rw [← hk2']; exact hSk
      have cR : ∀ x y, gi_R k2 x y = if x = 5 ∧ y = i then some (gi_n h) else gi_R (inh h a kk (nI n) (nI u) (nI gr) m (gi_I h 82 u) (gi_I h) (2 * n + 1)) x y := fun x y => by rw [← hk2']; rfl
      have cc : ∀ x, gi_c k2 x = gi_c (inh h a kk (nI n) (nI u) (nI gr) m (gi_I h 82 u) (gi_I h) (2 * n + 1)) x := fun x => by rw [← hk2']; rfl
      have cn : gi_n k2 = gi_n (inh h a kk (nI n) (nI u) (nI gr) m (gi_I h 82 u) (gi_I h) (2 * n + 1)) := by rw [← hk2']; rfl
      have cu : gi_u k2 = gi_u (inh h a kk (nI n) (nI u) (nI gr) m (gi_I h 82 u) (gi_I h) (2 * n + 1)) := by rw [← hk2']; rfl
      clear hk2'
      have hb1 : ∀ x y, x < gi_n h → ¬ (11 ≤ x ∧ x < 75) → ¬ (x = 85 ∧ y = i) → ¬ (x = 86 ∧ y = i) → ¬ (102 ≤ x ∧ x ≤ 105) → x ≠ 107 → x ≠ 108 → gi_I k2 x y = gi_I h x y := fun x y w0 w1 w2 w3 w4 w5 w6 => by
        rw [eI2, if_neg (by omega), if_neg (by omega), if_neg w5, if_neg w6, if_neg w3, if_neg w2, kI0 x y w1]
        exact (E.2 x w0).2.1 y
      have hb2 : gi_I k2 85 i = nI u := by rw [eI2, if_neg (by omega), if_neg (by omega), if_neg (by omega), if_neg (by omega), if_neg (by omega), if_pos ⟨rfl, rfl⟩]
      have hb3 : gi_I k2 86 i = nI gr := by rw [eI2, if_neg (by omega), if_neg (by omega), if_neg (by omega), if_neg (by omega), if_pos ⟨rfl, rfl⟩]
      have hb4 : ∀ x y, gi_n h ≤ x → gi_I k2 x y = gi_I (inh h a kk (nI n) (nI u) (nI gr) m (gi_I h 82 u) (gi_I h) (2 * n + 1)) x y := fun x y w => by
        rw [eI2, if_neg (by omega), if_neg (by omega), if_neg (by omega), if_neg (by omega), if_neg (by omega), if_neg (by omega), kI0 x y (by omega)]
      have hq : qk h k2 (bo_ (AD (gi_I h) 1) (2 * u + 1) (32 + 2 * gr + 1) (U0 h)) := fun p hp => by
        have kk0 : K0 (gi_pI (gi_pI (qst (gi_pR (inh h a kk (nI n) (nI u) (nI gr) m (gi_I h 82 u) (gi_I h) (2 * n + 1)) 5 i (some (gi_n h))) (bo_ (AD (gi_I h) 1) (2 * u + 1) (32 + 2 * gr + 1) (U0 h))) 85 i (nI u)) 86 i (nI gr)) T1 p = bo_ (AD (gi_I h) 1) (2 * u + 1) (32 + 2 * gr + 1) (U0 h) p := by unfold K0 cp_; rw [if_pos hp, tv p hp]
        have o1 : ∀ y, gi_I k2 (11 + p) y = gi_I (qst (gi_pR (inh h a kk (nI n) (nI u) (nI gr) m (gi_I h 82 u) (gi_I h) (2 * n + 1)) 5 i (some (gi_n h))) (bo_ (AD (gi_I h) 1) (2 * u + 1) (32 + 2 * gr + 1) (U0 h))) (11 + p) y := fun y => by rw [eI2, if_neg (by omega), if_neg (by omega), if_neg (by omega), if_neg (by omega), if_neg (by omega), if_neg (by omega)]
        refine ⟨⟨?_, ?_, ?_, ?_⟩, ⟨?_, ?_⟩, ?_, ?_⟩
        · rw [o1, I_qst0 hp]
        · rw [o1, I_qst1 hp]
        · rw [o1, I_qstj (by omega)]; exact (E.2 (11 + p) (by omega)).2.1 2
        · rw [o1, I_qstj (by omega)]; exact (E.2 (11 + p) (by omega)).2.1 3
        · rw [eI2, if_pos rfl, kk0]
        · rw [eI2, if_neg (by omega), if_pos rfl, kk0]
        · rw [eI2, if_neg (by omega), if_neg (by omega), if_neg (by omega), if_neg (by omega), if_neg (by omega), if_neg (by omega)]; exact rows _ _ (by omega) (by omega)
        · rw [eI2, if_neg (by omega), if_neg (by omega), if_neg (by omega), if_neg (by omega), if_neg (by omega), if_neg (by omega)]; exact rows _ _ (by omega) (by omega)
      have l93 : gi_I k2 93 (2 * n + 1) = gi_I h 93 (2 * n + 1) := hb1 _ _ (by omega) (by omega) (by omega) (by omega) (by omega) (by omega) (by omega)
      have kf := hN.2.2.2.2.2.2.2.2.2.2.2.2.2.2.2.2.2.1
      refine m_103b (d := d + 2) hS2 hu hn hi nei eh (fun w => ⟨rfl, ?_⟩) (fun w => ⟨rfl, ?_⟩)
      · cases e10 : gi_R h a 10 with
        | none => exact cr_N J hi hn nei fr kd hN hu hg hk hk2 hm cR cc cn cu hb1 hb2 hb3 hb4 hq tiv e10
        | some r =>
          rw [e10] at kf
          have := (kf.2 r rfl).2.2.2.2.2.2.2.2.2.1
          rw [l93, i32_le, ti_0] at w
          omega
      · cases e10 : gi_R h a 10 with
        | none =>
          rw [e10] at kf
          have := kf.1 rfl
          rw [l93, this] at w
          exact absurd (Int32.le_refl _) w
        | some r => exact cr_L J hi hn nei fr kd hN hu hg hk hk2 hm cR cc cn cu hb1 hb2 hb3 hb4 hq tiv e10

/-! new objects: their cells -/
set_option maxRecDepth 100000

def Lo (L : Nat) (xs : Nat → Int32) (h : gi_H) : Prop := 80 ≤ gi_n h ∧ ∀ b, b < 79 → gi_c h b = gi_c (hC L xs) b ∧ ∀ y, gi_I h b y = gi_I (hC L xs) b y ∧ gi_R h b y = gi_R (hC L xs) b y
theorem I_ar {h : gi_H} {x f t n b j : Nat} : gi_I (ar h x f t n) b j = if b = gi_n h then 0 else gi_I h b j := rfl
theorem Lo_D {L : Nat} {xs : Nat → Int32} : Lo L xs (hD L xs) := by
  refine ⟨Nat.le_refl 80, fun b hb => ?_⟩
  have q : b ≠ gi_n (hC L xs) := by rw [show gi_n (hC L xs) = 79 from rfl]; omega
  unfold hD
  exact ⟨by rw [c_new, if_neg q], fun y => ⟨by rw [I_new, if_neg q], by rw [R_new, if_neg q]⟩⟩
theorem Lo_ar {L : Nat} {xs : Nat → Int32} {h : gi_H} {f t n : Nat} (H : Lo L xs h) : Lo L xs (ar h 79 f t n) := by
  obtain ⟨h1, h2⟩ := H
  refine ⟨by rw [n_ar]; omega, fun b hb => ?_⟩
  obtain ⟨a1, a2⟩ := h2 b hb
  exact ⟨by rw [c_ar, if_neg (by omega)]; exact a1, fun y => ⟨by rw [I_ar, if_neg (by omega)]; exact (a2 y).1, by rw [R_ar, if_neg (by omega), if_neg (by omega)]; exact (a2 y).2⟩⟩
theorem Lo_E {L : Nat} {xs : Nat → Int32} : Lo L xs (hE L xs) := Lo_ar (Lo_ar (Lo_ar (Lo_ar (Lo_ar (Lo_ar (Lo_ar (Lo_ar (Lo_ar (Lo_ar (Lo_ar (Lo_ar (Lo_ar (Lo_ar (Lo_ar (Lo_ar (Lo_ar (Lo_ar (Lo_ar (Lo_ar (Lo_ar (Lo_ar (Lo_ar (Lo_ar (Lo_ar (Lo_ar (Lo_ar (Lo_ar (Lo_ar Lo_D))))))))))))))))))))))))))))
theorem F_lo {L : Nat} {xs : Nat → Int32} {b y : Nat} (hb : b < 79) : gi_c (hF L xs) b = gi_c (hC L xs) b ∧ gi_I (hF L xs) b y = gi_I (hC L xs) b y ∧ gi_R (hF L xs) b y = gi_R (hC L xs) b y := by
  obtain ⟨a1, a2⟩ := Lo_E.2 b hb
  refine ⟨a1, ?_, (a2 y).2⟩
  rw [← (a2 y).1]
  show (if b = 87 ∧ y = 0 then 511 else if b = 83 ∧ y = 0 then 2 else if b = 99 ∧ y < 2048 then -1 else if b = 98 ∧ y < 4096 then -1 else if b = 89 ∧ y < 768 then -1 else if (b = 90 ∨ b = 103 ∨ b = 104 ∨ b = 105) ∧ y < 64 then -1 else if b = 80 ∧ y < 16 then nI y else gi_I (hE L xs) b y) = _
  rw [if_neg (by omega), if_neg (by omega), if_neg (by omega), if_neg (by omega), if_neg (by omega), if_neg (by omega), if_neg (by omega)]
theorem C_lo {L : Nat} {xs : Nat → Int32} {b y : Nat} (hb : b < 76) : gi_c (hC L xs) b = gi_c (hB L xs) b ∧ (b ≠ 2 → gi_I (hC L xs) b y = gi_I (hB L xs) b y) ∧ (b ≠ 5 → gi_R (hC L xs) b y = gi_R (hB L xs) b y) := by
  unfold hC
  refine ⟨?_, fun h2 => ?_, fun h5 => ?_⟩
  · rw [c_pR, c_ni, B_n, if_neg (by omega), if_neg (by omega), if_neg (by omega)]; rfl
  · rw [I_pR, I_ni, B_n, if_neg (by omega), if_neg (by omega), if_neg (by omega), I_fl, if_neg (by omega)]
  · rw [R_pR, if_neg (by omega), R_ni, B_n, if_neg (by omega), if_neg (by omega), if_neg (by omega)]; rfl
theorem F_q {L : Nat} {xs : Nat → Int32} {p : Nat} (hp : p < 64) : gi_c (hF L xs) (11 + p) = (4, 0) ∧ gi_R (hF L xs) 9 p = some (11 + p) ∧ gi_I (hF L xs) (11 + p) 0 = 0 ∧ gi_I (hF L xs) (11 + p) 1 = -1 ∧ gi_I (hF L xs) (11 + p) 2 = -1 ∧ gi_I (hF L xs) (11 + p) 3 = -1 := by
  have c1 : gi_c (hB L xs) (11 + p) = (4, 0) := by
    unfold hB
    rw [c_ar]
    refine (if_neg (show ¬ 11 + p = 75 by omega)).trans ?_
    rw [c_pR, c_QH, if_pos (by omega)]
  have r1 : gi_R (hB L xs) 9 p = some (11 + p) := by
    unfold hB
    rw [R_ar, if_neg (by omega)]
    refine (if_neg (show ¬ 9 = 75 by omega)).trans ?_
    rw [R_pR, if_neg (by omega), R_QH, if_pos ⟨rfl, hp⟩]
  have i1 : ∀ y, gi_I (hB L xs) (11 + p) y = if y = 1 ∨ y = 2 ∨ y = 3 then -1 else 0 := fun y => by
    unfold hB
    rw [I_ar]
    refine (if_neg (show ¬ 11 + p = 75 by omega)).trans ?_
    rw [I_pR, I_QH, if_pos (by omega)]
  have ii : ∀ y, gi_I (hF L xs) (11 + p) y = if y = 1 ∨ y = 2 ∨ y = 3 then -1 else 0 := fun y => by
    rw [(F_lo (by omega)).2.1, (C_lo (by omega)).2.1 (by omega), i1]
  exact ⟨by rw [(F_lo (y := 0) (by omega)).1, (C_lo (y := 0) (by omega)).1, c1], by rw [(F_lo (by omega)).2.2, (C_lo (by omega)).2.2 (by omega), r1], by rw [ii]; rfl, by rw [ii]; rfl, by rw [ii]; rfl, by rw [ii]; rfl⟩
theorem rF_new {h : gi_H} {t n u : Nat} (H : rF h) : rF (gi_new h t n u) := fun a ha => by
  have ha : gi_n h + 1 ≤ a := ha
  rw [c_new, if_neg (by omega)]; exact H a (by omega)
theorem rF_pR {h : gi_H} {x k : Nat} {v : Option Nat} (H : rF h) : rF (gi_pR h x k v) := H
theorem rF_ar {h : gi_H} {x f t n : Nat} (H : rF h) : rF (ar h x f t n) := rF_new H
theorem rF_QH {h : gi_H} {m : Nat} (n11 : gi_n h = 11) (H : rF h) : rF (QH h m) := fun a ha => by
  have ha : gi_n h + m ≤ a := ha
  rw [c_QH, if_neg (by omega)]; exact H a (by omega)
theorem rF_ni {h : gi_H} {k f u g m : Int32} (H : rF h) : rF (ni h k f u g m) := fun a ha => by
  have ha : gi_n h + 3 ≤ a := ha
  rw [c_ni, if_neg (by omega), if_neg (by omega), if_neg (by omega)]; exact H a (by omega)
theorem rF_0 {L : Nat} {xs : Nat → Int32} : rF (gi_h0 L xs) := fun a ha => by
  have ha : 1 ≤ a := ha
  show (if a = 0 then (99, L) else (0, 0)) = (0, 0)
  rw [if_neg (by omega)]
theorem rF_B {L : Nat} {xs : Nat → Int32} : rF (hB L xs) := rF_ar (rF_pR (rF_QH rfl (rF_ar (rF_ar (rF_new (rF_pR (rF_ar (rF_new (rF_ar (rF_ar (rF_ar (rF_ar (rF_new rF_0)))))))))))))
theorem rF_C {L : Nat} {xs : Nat → Int32} : rF (hC L xs) := rF_pR (rF_ni (show rF (flI (hB L xs) 2 16 nI) from rF_B))
theorem rF_E {L : Nat} {xs : Nat → Int32} : rF (hE L xs) := rF_ar (rF_ar (rF_ar (rF_ar (rF_ar (rF_ar (rF_ar (rF_ar (rF_ar (rF_ar (rF_ar (rF_ar (rF_ar (rF_ar (rF_ar (rF_ar (rF_ar (rF_ar (rF_ar (rF_ar (rF_ar (rF_ar (rF_ar (rF_ar (rF_ar (rF_ar (rF_ar (rF_ar (rF_ar (rF_new rF_C)))))))))))))))))))))))))))))
theorem rF_F {L : Nat} {xs : Nat → Int32} : rF (hF L xs) := rF_E
theorem F_1 {L : Nat} {xs : Nat → Int32} {y : Nat} : gi_I (hF L xs) 1 y = 0 := rfl
theorem F_3 {L : Nat} {xs : Nat → Int32} {y : Nat} : gi_I (hF L xs) 3 y = 0 := rfl
theorem F_4 {L : Nat} {xs : Nat → Int32} {y : Nat} : gi_I (hF L xs) 4 y = 0 := rfl
theorem F_8 {L : Nat} {xs : Nat → Int32} {y : Nat} : gi_I (hF L xs) 8 y = 0 := rfl
theorem F_10 {L : Nat} {xs : Nat → Int32} {y : Nat} : gi_I (hF L xs) 10 y = 0 := rfl
theorem F_75 {L : Nat} {xs : Nat → Int32} {y : Nat} : gi_I (hF L xs) 75 y = 0 := rfl
theorem F_79 {L : Nat} {xs : Nat → Int32} {y : Nat} : gi_I (hF L xs) 79 y = 0 := rfl
theorem F_81 {L : Nat} {xs : Nat → Int32} {y : Nat} : gi_I (hF L xs) 81 y = 0 := rfl
theorem F_82 {L : Nat} {xs : Nat → Int32} {y : Nat} : gi_I (hF L xs) 82 y = 0 := rfl
theorem F_84 {L : Nat} {xs : Nat → Int32} {y : Nat} : gi_I (hF L xs) 84 y = 0 := rfl
theorem F_85 {L : Nat} {xs : Nat → Int32} {y : Nat} : gi_I (hF L xs) 85 y = 0 := rfl
theorem F_86 {L : Nat} {xs : Nat → Int32} {y : Nat} : gi_I (hF L xs) 86 y = 0 := rfl
theorem F_88 {L : Nat} {xs : Nat → Int32} {y : Nat} : gi_I (hF L xs) 88 y = 0 := rfl
theorem F_91 {L : Nat} {xs : Nat → Int32} {y : Nat} : gi_I (hF L xs) 91 y = 0 := rfl
theorem F_92 {L : Nat} {xs : Nat → Int32} {y : Nat} : gi_I (hF L xs) 92 y = 0 := rfl
theorem F_93 {L : Nat} {xs : Nat → Int32} {y : Nat} : gi_I (hF L xs) 93 y = 0 := rfl
theorem F_94 {L : Nat} {xs : Nat → Int32} {y : Nat} : gi_I (hF L xs) 94 y = 0 := rfl
theorem F_95 {L : Nat} {xs : Nat → Int32} {y : Nat} : gi_I (hF L xs) 95 y = 0 := rfl
theorem F_96 {L : Nat} {xs : Nat → Int32} {y : Nat} : gi_I (hF L xs) 96 y = 0 := rfl
theorem F_97 {L : Nat} {xs : Nat → Int32} {y : Nat} : gi_I (hF L xs) 97 y = 0 := rfl
theorem F_100 {L : Nat} {xs : Nat → Int32} {y : Nat} : gi_I (hF L xs) 100 y = 0 := rfl
theorem F_101 {L : Nat} {xs : Nat → Int32} {y : Nat} : gi_I (hF L xs) 101 y = 0 := rfl
theorem F_102 {L : Nat} {xs : Nat → Int32} {y : Nat} : gi_I (hF L xs) 102 y = 0 := rfl
theorem F_106 {L : Nat} {xs : Nat → Int32} {y : Nat} : gi_I (hF L xs) 106 y = 0 := rfl
theorem F_107 {L : Nat} {xs : Nat → Int32} {y : Nat} : gi_I (hF L xs) 107 y = 0 := rfl
theorem F_108 {L : Nat} {xs : Nat → Int32} {y : Nat} : gi_I (hF L xs) 108 y = 0 := rfl
theorem F_0 {L : Nat} {xs : Nat → Int32} {y : Nat} : gi_I (hF L xs) 0 y = xs y := rfl
theorem F_80 {L : Nat} {xs : Nat → Int32} {y : Nat} (hy : y < 16) : gi_I (hF L xs) 80 y = nI y := (show gi_I (hF L xs) 80 y = if 80 = 80 ∧ y < 16 then nI y else 0 from rfl).trans (if_pos ⟨rfl, hy⟩)
theorem F_2 {L : Nat} {xs : Nat → Int32} {y : Nat} (hy : y < 16) : gi_I (hF L xs) 2 y = nI y := (show gi_I (hF L xs) 2 y = if 2 = 2 ∧ y < 16 then nI y else 0 from rfl).trans (if_pos ⟨rfl, hy⟩)
theorem F_89 {L : Nat} {xs : Nat → Int32} {y : Nat} (hy : y < 768) : gi_I (hF L xs) 89 y = -1 := (show gi_I (hF L xs) 89 y = if 89 = 89 ∧ y < 768 then -1 else 0 from rfl).trans (if_pos ⟨rfl, hy⟩)
theorem F_98 {L : Nat} {xs : Nat → Int32} {y : Nat} (hy : y < 4096) : gi_I (hF L xs) 98 y = -1 := (show gi_I (hF L xs) 98 y = if 98 = 98 ∧ y < 4096 then -1 else 0 from rfl).trans (if_pos ⟨rfl, hy⟩)
theorem F_99 {L : Nat} {xs : Nat → Int32} {y : Nat} (hy : y < 2048) : gi_I (hF L xs) 99 y = -1 := (show gi_I (hF L xs) 99 y = if 99 = 99 ∧ y < 2048 then -1 else 0 from rfl).trans (if_pos ⟨rfl, hy⟩)
theorem F_90 {L : Nat} {xs : Nat → Int32} {y : Nat} (hy : y < 64) : gi_I (hF L xs) 90 y = -1 := (show gi_I (hF L xs) 90 y = if (90 = 90 ∨ 90 = 103 ∨ 90 = 104 ∨ 90 = 105) ∧ y < 64 then -1 else 0 from rfl).trans (if_pos ⟨by decide, hy⟩)
theorem F_103 {L : Nat} {xs : Nat → Int32} {y : Nat} (hy : y < 64) : gi_I (hF L xs) 103 y = -1 := (show gi_I (hF L xs) 103 y = if (103 = 90 ∨ 103 = 103 ∨ 103 = 104 ∨ 103 = 105) ∧ y < 64 then -1 else 0 from rfl).trans (if_pos ⟨by decide, hy⟩)
theorem F_104 {L : Nat} {xs : Nat → Int32} {y : Nat} (hy : y < 64) : gi_I (hF L xs) 104 y = -1 := (show gi_I (hF L xs) 104 y = if (104 = 90 ∨ 104 = 103 ∨ 104 = 104 ∨ 104 = 105) ∧ y < 64 then -1 else 0 from rfl).trans (if_pos ⟨by decide, hy⟩)
theorem F_105 {L : Nat} {xs : Nat → Int32} {y : Nat} (hy : y < 64) : gi_I (hF L xs) 105 y = -1 := (show gi_I (hF L xs) 105 y = if (105 = 90 ∨ 105 = 103 ∨ 105 = 104 ∨ 105 = 105) ∧ y < 64 then -1 else 0 from rfl).trans (if_pos ⟨by decide, hy⟩)
theorem F_83 {L : Nat} {xs : Nat → Int32} {y : Nat} : gi_I (hF L xs) 83 y = if 83 = 83 ∧ y = 0 then 2 else 0 := rfl
theorem F_87 {L : Nat} {xs : Nat → Int32} {y : Nat} : gi_I (hF L xs) 87 y = if 87 = 87 ∧ y = 0 then 511 else 0 := rfl
theorem F_5 {L : Nat} {xs : Nat → Int32} {y : Nat} : gi_R (hF L xs) 5 y = if 5 = 5 ∧ y = 0 then some 76 else none := rfl
theorem F_7 {L : Nat} {xs : Nat → Int32} {y : Nat} : gi_R (hF L xs) 7 y = none := rfl

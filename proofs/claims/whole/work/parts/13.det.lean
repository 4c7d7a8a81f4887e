/-! a run has one end -/
theorem gi_bnd {h : gi_H} : gi_n h ≤ gi_n h ∧ gi_u h ≤ gi_u h := ⟨Nat.le_refl _, Nat.le_refl _⟩
theorem gi_bndn {h : gi_H} {t n u : Nat} : gi_n h ≤ gi_n (gi_new h t n u) ∧ gi_u h ≤ gi_u (gi_new h t n u) := ⟨Nat.le_succ _, Nat.le_add_right _ _⟩
def gi_Dt (h : gi_H) (F : gi_K → Prop) : Prop := ∀ k, F k → ∃ p' ls' st' h', k p' ls' st' h' ∧ (gi_n h ≤ gi_n h' ∧ gi_u h ≤ gi_u h') ∧ ∀ k' : gi_K, k' p' ls' st' h' ↔ F k'
theorem dt_ldI {p : Nat} {ls : gi_L} {st : List gi_V} {h : gi_H} {i : Nat} : gi_Dt h (fun k => gi_ldI k p ls st h i) := by
  intro k hd
  simp only [gi_ldI] at hd ⊢
  split at hd
  · exact ⟨_, _, _, _, hd, gi_bnd, fun k' => Iff.rfl⟩
  · exact hd.elim
theorem dt_ldL {p : Nat} {ls : gi_L} {st : List gi_V} {h : gi_H} {i : Nat} : gi_Dt h (fun k => gi_ldL k p ls st h i) := by
  intro k hd
  simp only [gi_ldL] at hd ⊢
  split at hd
  · exact ⟨_, _, _, _, hd, gi_bnd, fun k' => Iff.rfl⟩
  · exact hd.elim
theorem dt_ldR {p : Nat} {ls : gi_L} {st : List gi_V} {h : gi_H} {i : Nat} : gi_Dt h (fun k => gi_ldR k p ls st h i) := by
  intro k hd
  simp only [gi_ldR] at hd ⊢
  split at hd
  · exact ⟨_, _, _, _, hd, gi_bnd, fun k' => Iff.rfl⟩
  · exact hd.elim
theorem dt_stI {p : Nat} {ls : gi_L} {st : List gi_V} {h : gi_H} {i : Nat} : gi_Dt h (fun k => gi_stI k p ls st h i) := by
  intro k hd
  simp only [gi_stI] at hd ⊢
  split at hd
  · obtain ⟨g0, hd⟩ := hd
    exact ⟨_, _, _, _, hd, gi_bnd, fun k' => ⟨fun hk => ⟨g0, hk⟩, fun hk => hk.2⟩⟩
  · exact hd.elim
theorem dt_stL {p : Nat} {ls : gi_L} {st : List gi_V} {h : gi_H} {i : Nat} : gi_Dt h (fun k => gi_stL k p ls st h i) := by
  intro k hd
  simp only [gi_stL] at hd ⊢
  split at hd
  · obtain ⟨g0, hd⟩ := hd
    exact ⟨_, _, _, _, hd, gi_bnd, fun k' => ⟨fun hk => ⟨g0, hk⟩, fun hk => hk.2⟩⟩
  · exact hd.elim
theorem dt_stR {p : Nat} {ls : gi_L} {st : List gi_V} {h : gi_H} {i : Nat} : gi_Dt h (fun k => gi_stR k p ls st h i) := by
  intro k hd
  simp only [gi_stR] at hd ⊢
  split at hd
  · obtain ⟨g0, hd⟩ := hd
    exact ⟨_, _, _, _, hd, gi_bnd, fun k' => ⟨fun hk => ⟨g0, hk⟩, fun hk => hk.2⟩⟩
  · exact hd.elim
theorem dt_inc {p : Nat} {ls : gi_L} {st : List gi_V} {h : gi_H} {i : Nat} {n : Int} : gi_Dt h (fun k => gi_inc k p ls st h i n) := by
  intro k hd
  simp only [gi_inc] at hd ⊢
  split at hd
  · exact ⟨_, _, _, _, hd, gi_bnd, fun k' => Iff.rfl⟩
  · exact hd.elim
theorem dt_1 {p : Nat} {ls : gi_L} {st : List gi_V} {h : gi_H} {f : Int32 → Int32} : gi_Dt h (fun k => gi_1 k p ls st h f) := by
  intro k hd
  simp only [gi_1] at hd ⊢
  split at hd
  · exact ⟨_, _, _, _, hd, gi_bnd, fun k' => Iff.rfl⟩
  · exact hd.elim
theorem dt_2 {p : Nat} {ls : gi_L} {st : List gi_V} {h : gi_H} {f : Int32 → Int32 → Int32} : gi_Dt h (fun k => gi_2 k p ls st h f) := by
  intro k hd
  simp only [gi_2] at hd ⊢
  split at hd
  · exact ⟨_, _, _, _, hd, gi_bnd, fun k' => Iff.rfl⟩
  · exact hd.elim
theorem dt_2d {p : Nat} {ls : gi_L} {st : List gi_V} {h : gi_H} {f : Int32 → Int32 → Int32} : gi_Dt h (fun k => gi_2d k p ls st h f) := by
  intro k hd
  simp only [gi_2d] at hd ⊢
  split at hd
  · obtain ⟨g0, hd⟩ := hd
    exact ⟨_, _, _, _, hd, gi_bnd, fun k' => ⟨fun hk => ⟨g0, hk⟩, fun hk => hk.2⟩⟩
  · exact hd.elim
theorem dt_2L {p : Nat} {ls : gi_L} {st : List gi_V} {h : gi_H} {f : Int64 → Int64 → Int64} : gi_Dt h (fun k => gi_2L k p ls st h f) := by
  intro k hd
  simp only [gi_2L] at hd ⊢
  split at hd
  · exact ⟨_, _, _, _, hd, gi_bnd, fun k' => Iff.rfl⟩
  · exact hd.elim
theorem dt_2S {p : Nat} {ls : gi_L} {st : List gi_V} {h : gi_H} {f : Int64 → Int32 → Int64} : gi_Dt h (fun k => gi_2S k p ls st h f) := by
  intro k hd
  simp only [gi_2S] at hd ⊢
  split at hd
  · exact ⟨_, _, _, _, hd, gi_bnd, fun k' => Iff.rfl⟩
  · exact hd.elim
theorem dt_lcmp {p : Nat} {ls : gi_L} {st : List gi_V} {h : gi_H}  : gi_Dt h (fun k => gi_lcmp k p ls st h) := by
  intro k hd
  simp only [gi_lcmp] at hd ⊢
  split at hd
  · exact ⟨_, _, _, _, hd, gi_bnd, fun k' => Iff.rfl⟩
  · exact hd.elim
theorem dt_i2l {p : Nat} {ls : gi_L} {st : List gi_V} {h : gi_H}  : gi_Dt h (fun k => gi_i2l k p ls st h) := by
  intro k hd
  simp only [gi_i2l] at hd ⊢
  split at hd
  · exact ⟨_, _, _, _, hd, gi_bnd, fun k' => Iff.rfl⟩
  · exact hd.elim
theorem dt_l2i {p : Nat} {ls : gi_L} {st : List gi_V} {h : gi_H}  : gi_Dt h (fun k => gi_l2i k p ls st h) := by
  intro k hd
  simp only [gi_l2i] at hd ⊢
  split at hd
  · exact ⟨_, _, _, _, hd, gi_bnd, fun k' => Iff.rfl⟩
  · exact hd.elim
theorem dt_dup {p : Nat} {ls : gi_L} {st : List gi_V} {h : gi_H}  : gi_Dt h (fun k => gi_dup k p ls st h) := by
  intro k hd
  simp only [gi_dup] at hd ⊢
  split at hd
  · exact ⟨_, _, _, _, hd, gi_bnd, fun k' => Iff.rfl⟩
  · exact ⟨_, _, _, _, hd, gi_bnd, fun k' => Iff.rfl⟩
  · exact hd.elim
theorem dt_dup2 {p : Nat} {ls : gi_L} {st : List gi_V} {h : gi_H}  : gi_Dt h (fun k => gi_dup2 k p ls st h) := by
  intro k hd
  simp only [gi_dup2] at hd ⊢
  split at hd
  · exact ⟨_, _, _, _, hd, gi_bnd, fun k' => Iff.rfl⟩
  · exact hd.elim
theorem dt_br1 {p : Nat} {ls : gi_L} {st : List gi_V} {h : gi_H} {t : Nat} {f : Int32 → Prop} : gi_Dt h (fun k => gi_br1 k p ls st h t f) := by
  intro k hd
  simp only [gi_br1] at hd ⊢
  split at hd
  · rcases Classical.em (f _) with q | q
    · exact ⟨_, _, _, _, hd.1 q, gi_bnd, fun k' => ⟨fun hk => ⟨fun _ => hk, fun w => absurd q w⟩, fun hk => hk.1 q⟩⟩
    · exact ⟨_, _, _, _, hd.2 q, gi_bnd, fun k' => ⟨fun hk => ⟨fun w => absurd w q, fun _ => hk⟩, fun hk => hk.2 q⟩⟩
  · exact hd.elim
theorem dt_br2 {p : Nat} {ls : gi_L} {st : List gi_V} {h : gi_H} {t : Nat} {f : Int32 → Int32 → Prop} : gi_Dt h (fun k => gi_br2 k p ls st h t f) := by
  intro k hd
  simp only [gi_br2] at hd ⊢
  split at hd
  · rcases Classical.em (f _ _) with q | q
    · exact ⟨_, _, _, _, hd.1 q, gi_bnd, fun k' => ⟨fun hk => ⟨fun _ => hk, fun w => absurd q w⟩, fun hk => hk.1 q⟩⟩
    · exact ⟨_, _, _, _, hd.2 q, gi_bnd, fun k' => ⟨fun hk => ⟨fun w => absurd w q, fun _ => hk⟩, fun hk => hk.2 q⟩⟩
  · exact hd.elim
theorem dt_brN {p : Nat} {ls : gi_L} {st : List gi_V} {h : gi_H} {t : Nat} : gi_Dt h (fun k => gi_brN k p ls st h t) := by
  intro k hd
  simp only [gi_brN] at hd ⊢
  split at hd
  · rcases Classical.em (_ = none) with q | q
    · exact ⟨_, _, _, _, hd.1 q, gi_bnd, fun k' => ⟨fun hk => ⟨fun _ => hk, fun w => absurd q w⟩, fun hk => hk.1 q⟩⟩
    · exact ⟨_, _, _, _, hd.2 q, gi_bnd, fun k' => ⟨fun hk => ⟨fun w => absurd w q, fun _ => hk⟩, fun hk => hk.2 q⟩⟩
  · exact hd.elim
theorem dt_brNN {p : Nat} {ls : gi_L} {st : List gi_V} {h : gi_H} {t : Nat} : gi_Dt h (fun k => gi_brNN k p ls st h t) := by
  intro k hd
  simp only [gi_brNN] at hd ⊢
  split at hd
  · rename_i x r
    rcases Classical.em (x = none) with q | q
    · exact ⟨_, _, _, _, hd.2 q, gi_bnd, fun k' => ⟨fun hk => ⟨fun w => absurd q w, fun _ => hk⟩, fun hk => hk.2 q⟩⟩
    · exact ⟨_, _, _, _, hd.1 q, gi_bnd, fun k' => ⟨fun hk => ⟨fun _ => hk, fun w => absurd w q⟩, fun hk => hk.1 q⟩⟩
  · exact hd.elim
theorem dt_sw {p : Nat} {ls : gi_L} {st : List gi_V} {h : gi_H} {x : Int} {d : Nat} : ∀ (l : List Int) (v : Int), gi_Dt h (fun k => gi_sw k p ls st h x d v l)
  | [], v => fun k hd => ⟨_, _, _, _, hd, gi_bnd, fun k' => Iff.rfl⟩
  | o :: l, v => fun k hd => by
    by_cases e : x = v
    · exact ⟨_, _, _, _, hd.1 e, gi_bnd, fun k' => ⟨fun hk => ⟨fun _ => hk, fun w => absurd e w⟩, fun hk => hk.1 e⟩⟩
    · obtain ⟨p1, l1, s1, h1, a1, a0, a2⟩ := dt_sw l (v + 1) k (hd.2 e)
      exact ⟨p1, l1, s1, h1, a1, a0, fun k' => ⟨fun hk => ⟨fun w => absurd w e, fun _ => (a2 k').mp hk⟩, fun hk => (a2 k').mpr (hk.2 e)⟩⟩
theorem dt_tsw {p : Nat} {ls : gi_L} {st : List gi_V} {h : gi_H} {d lo hi : Int} {l : List Int} : gi_Dt h (fun k => gi_tsw k p ls st h d lo hi l) := by
  intro k hd
  simp only [gi_tsw] at hd ⊢
  split at hd
  · exact dt_sw l lo k hd
  · exact hd.elim
theorem dt_getf {p : Nat} {ls : gi_L} {st : List gi_V} {h : gi_H} {ci f : Nat} : gi_Dt h (fun k => gi_getf k p ls st h ci f) := by
  intro k hd
  simp only [gi_getf] at hd ⊢
  split at hd
  · obtain ⟨g, hd⟩ := hd
    cases q : Nat.beq (f % 2) 1 with
    | true =>
      rw [q] at hd
      exact ⟨_, _, _, _, hd, gi_bnd, fun k' => ⟨fun hk => ⟨g, hk⟩, fun hk => hk.2⟩⟩
    | false =>
      rw [q] at hd
      exact ⟨_, _, _, _, hd, gi_bnd, fun k' => ⟨fun hk => ⟨g, hk⟩, fun hk => hk.2⟩⟩
  · exact hd.elim
theorem dt_bast {p : Nat} {ls : gi_L} {st : List gi_V} {h : gi_H} : gi_Dt h (fun k => gi_bast k p ls st h) := by
  intro k hd
  simp only [gi_bast] at hd ⊢
  split at hd
  · obtain ⟨g, ⟨g1, hd⟩ | ⟨g1, hd⟩⟩ := hd
    · exact ⟨_, _, _, _, hd, gi_bnd, fun k' => ⟨fun hk => ⟨g, Or.inl ⟨g1, hk⟩⟩, fun hk => hk.2.elim (fun w => w.2) (fun w => absurd (g1.symm.trans w.1) (by decide))⟩⟩
    · exact ⟨_, _, _, _, hd, gi_bnd, fun k' => ⟨fun hk => ⟨g, Or.inr ⟨g1, hk⟩⟩, fun hk => hk.2.elim (fun w => absurd (g1.symm.trans w.1) (by decide)) (fun w => w.2)⟩⟩
  · exact hd.elim
theorem dt_k {p : Nat} {ls : gi_L} {st : List gi_V} {h : gi_H} : gi_Dt h (fun k => k p ls st h) := fun k hd => ⟨_, _, _, _, hd, gi_bnd, fun k' => Iff.rfl⟩
theorem dt_obj {p : Nat} {ls : gi_L} {st : List gi_V} {h : gi_H} : gi_Dt h (fun k => match st with
  | .inr (.inr (some _)) :: r => r.length ≤ 4 ∧ k p ls r h
  | _ => False) := by
  intro k hd
  dsimp only at hd ⊢
  split at hd
  · obtain ⟨g, hd⟩ := hd
    exact ⟨_, _, _, _, hd, gi_bnd, fun k' => ⟨fun hk => ⟨g, hk⟩, fun hk => hk.2⟩⟩
  · exact hd.elim
theorem dt_putf {p : Nat} {ls : gi_L} {st : List gi_V} {h : gi_H} {ci f : Nat} : gi_Dt h (fun k => gi_putf k p ls st h ci f) := by
  intro k hd
  simp only [gi_putf] at hd ⊢
  split at hd
  · obtain ⟨g0, g1, hd⟩ := hd
    exact ⟨_, _, _, _, hd, gi_bnd, fun k' => ⟨fun hk => ⟨g0, g1, hk⟩, fun hk => hk.2.2⟩⟩
  · obtain ⟨g0, g1, hd⟩ := hd
    exact ⟨_, _, _, _, hd, gi_bnd, fun k' => ⟨fun hk => ⟨g0, g1, hk⟩, fun hk => hk.2.2⟩⟩
  · exact hd.elim
theorem dt_iald {p : Nat} {ls : gi_L} {st : List gi_V} {h : gi_H}  : gi_Dt h (fun k => gi_iald k p ls st h) := by
  intro k hd
  simp only [gi_iald] at hd ⊢
  split at hd
  · obtain ⟨g0, g1, hd⟩ := hd
    exact ⟨_, _, _, _, hd, gi_bnd, fun k' => ⟨fun hk => ⟨g0, g1, hk⟩, fun hk => hk.2.2⟩⟩
  · exact hd.elim
theorem dt_bald {p : Nat} {ls : gi_L} {st : List gi_V} {h : gi_H}  : gi_Dt h (fun k => gi_bald k p ls st h) := by
  intro k hd
  simp only [gi_bald] at hd ⊢
  split at hd
  · obtain ⟨g0, g1, hd⟩ := hd
    exact ⟨_, _, _, _, hd, gi_bnd, fun k' => ⟨fun hk => ⟨g0, g1, hk⟩, fun hk => hk.2.2⟩⟩
  · exact hd.elim
theorem dt_aald {p : Nat} {ls : gi_L} {st : List gi_V} {h : gi_H}  : gi_Dt h (fun k => gi_aald k p ls st h) := by
  intro k hd
  simp only [gi_aald] at hd ⊢
  split at hd
  · obtain ⟨g0, g1, hd⟩ := hd
    exact ⟨_, _, _, _, hd, gi_bnd, fun k' => ⟨fun hk => ⟨g0, g1, hk⟩, fun hk => hk.2.2⟩⟩
  · exact hd.elim
theorem dt_iast {p : Nat} {ls : gi_L} {st : List gi_V} {h : gi_H}  : gi_Dt h (fun k => gi_iast k p ls st h) := by
  intro k hd
  simp only [gi_iast] at hd ⊢
  split at hd
  · obtain ⟨g0, g1, hd⟩ := hd
    exact ⟨_, _, _, _, hd, gi_bnd, fun k' => ⟨fun hk => ⟨g0, g1, hk⟩, fun hk => hk.2.2⟩⟩
  · exact hd.elim
theorem dt_aast {p : Nat} {ls : gi_L} {st : List gi_V} {h : gi_H}  : gi_Dt h (fun k => gi_aast k p ls st h) := by
  intro k hd
  simp only [gi_aast] at hd ⊢
  split at hd
  · obtain ⟨g0, g1, g2, hd⟩ := hd
    exact ⟨_, _, _, _, hd, gi_bnd, fun k' => ⟨fun hk => ⟨g0, g1, g2, hk⟩, fun hk => hk.2.2.2⟩⟩
  · exact hd.elim
theorem dt_alen {p : Nat} {ls : gi_L} {st : List gi_V} {h : gi_H}  : gi_Dt h (fun k => gi_alen k p ls st h) := by
  intro k hd
  simp only [gi_alen] at hd ⊢
  split at hd
  · obtain ⟨g0, hd⟩ := hd
    exact ⟨_, _, _, _, hd, gi_bnd, fun k' => ⟨fun hk => ⟨g0, hk⟩, fun hk => hk.2⟩⟩
  · exact hd.elim
theorem dt_newa {p : Nat} {ls : gi_L} {st : List gi_V} {h : gi_H} {t : Nat} : gi_Dt h (fun k => gi_newa k p ls st h t) := by
  intro k hd
  simp only [gi_newa] at hd ⊢
  split at hd
  · obtain ⟨g0, g1, hd⟩ := hd
    exact ⟨_, _, _, _, hd, gi_bndn, fun k' => ⟨fun hk => ⟨g0, g1, hk⟩, fun hk => hk.2.2⟩⟩
  · exact hd.elim
theorem dt_newo {p : Nat} {ls : gi_L} {st : List gi_V} {h : gi_H} {ci N : Nat} : gi_Dt h (fun k => gi_newo k p ls st h ci N) := fun k hd => ⟨_, _, _, _, hd, gi_bndn, fun k' => Iff.rfl⟩
theorem dt_acpy {p : Nat} {ls : gi_L} {st : List gi_V} {h : gi_H}  : gi_Dt h (fun k => gi_acpy k p ls st h) := by
  intro k hd
  simp only [gi_acpy] at hd ⊢
  split at hd
  · obtain ⟨g0, g1, g2, g3, g4, g5, g6, g7, hd⟩ := hd
    exact ⟨_, _, _, _, hd, gi_bnd, fun k' => ⟨fun hk => ⟨g0, g1, g2, g3, g4, g5, g6, g7, hk⟩, fun hk => hk.2.2.2.2.2.2.2.2⟩⟩
  · exact hd.elim
/-- a step goes on at one place, or ends, or calls -/
def gi_Dd (cp : Nat → List gi_V → gi_H → gi_P → Prop) (h : gi_H) (F : gi_P → gi_K → Prop) : Prop := ∀ Q k, F Q k →
  (∃ p' ls' st' h', k p' ls' st' h' ∧ (gi_n h ≤ gi_n h' ∧ gi_u h ≤ gi_u h') ∧ ∀ (Q' : gi_P) (k' : gi_K), k' p' ls' st' h' ↔ F Q' k') ∨ (∃ v, Q v h ∧ ∀ (Q' : gi_P) (k' : gi_K), Q' v h ↔ F Q' k') ∨
  (∃ y av p' ls' st', cp y av h (fun r h' => k p' ls' (r.toList ++ st') h') ∧ ∀ (Q' : gi_P) (k' : gi_K), cp y av h (fun r h' => k' p' ls' (r.toList ++ st') h') ↔ F Q' k')
theorem dd_of {cp : Nat → List gi_V → gi_H → gi_P → Prop} {h : gi_H} {F : gi_K → Prop} (hF : gi_Dt h F) : gi_Dd cp h (fun _ k => F k) := fun Q k hd => by
  obtain ⟨p', ls', st', h', a1, a0, a2⟩ := hF k hd
  exact Or.inl ⟨p', ls', st', h', a1, a0, fun _ k' => a2 k'⟩
theorem dd_call {cp : Nat → List gi_V → gi_H → gi_P → Prop} {p : Nat} {ls : gi_L} {st : List gi_V} {h : gi_H} {y n : Nat} {g : Prop} : gi_Dd cp h (fun _ k => g ∧ gi_call k p ls st h cp y n) := fun Q k hd => by
  obtain ⟨g0, g1, g2, hd⟩ := hd
  exact Or.inr (Or.inr ⟨_, _, _, _, _, hd, fun _ k' => ⟨fun hk => ⟨g0, g1, g2, hk⟩, fun hk => hk.2.2.2⟩⟩)
theorem gi_det_do {cp : Nat → List gi_V → gi_H → gi_P → Prop} {z : Bool} {i : Instr} {a1 a2 p : Nat} {ls : gi_L} {st : List gi_V} {h : gi_H} : gi_Dd cp h (fun Q k => gi_do cp z Q k i a1 a2 p ls st h) := by
  cases i with
  | iconst n => exact dd_of dt_k
  | bipush n => exact dd_of dt_k
  | sipush n => exact dd_of dt_k
  | lconst n => exact dd_of dt_k
  | ldc x => exact dd_of dt_k
  | ldc2_w x => exact dd_of dt_k
  | aconst_null => exact dd_of dt_k
  | goto o => exact dd_of dt_k
  | new x => exact dd_of dt_newo
  | iload_n i => exact dd_of dt_ldI
  | iload i => exact dd_of dt_ldI
  | lload_n i => exact dd_of dt_ldL
  | lload i => exact dd_of dt_ldL
  | aload_n i => exact dd_of dt_ldR
  | aload i => exact dd_of dt_ldR
  | istore_n i => exact dd_of dt_stI
  | istore i => exact dd_of dt_stI
  | lstore_n i => exact dd_of dt_stL
  | lstore i => exact dd_of dt_stL
  | astore_n i => exact dd_of dt_stR
  | astore i => exact dd_of dt_stR
  | iinc i n => exact dd_of dt_inc
  | iadd => exact dd_of dt_2
  | isub => exact dd_of dt_2
  | imul => exact dd_of dt_2
  | iand => exact dd_of dt_2
  | ior => exact dd_of dt_2
  | ixor => exact dd_of dt_2
  | ishl => exact dd_of dt_2
  | ishr => exact dd_of dt_2
  | idiv => exact dd_of dt_2d
  | irem => exact dd_of dt_2d
  | ineg => exact dd_of dt_1
  | i2b => exact dd_of dt_1
  | i2l => exact dd_of dt_i2l
  | l2i => exact dd_of dt_l2i
  | land => exact dd_of dt_2L
  | lor => exact dd_of dt_2L
  | lshl => exact dd_of dt_2S
  | lshr => exact dd_of dt_2S
  | lushr => exact dd_of dt_2S
  | lcmp => exact dd_of dt_lcmp
  | ifCond c o => exact dd_of dt_br1
  | if_icmp c o => exact dd_of dt_br2
  | ifnull o => exact dd_of dt_brN
  | ifnonnull o => exact dd_of dt_brNN
  | tableswitch d lo hi offs => exact dd_of (dt_tsw (hi := hi))
  | dup => exact dd_of dt_dup
  | dup2 => exact dd_of dt_dup2
  | getfield x => exact dd_of dt_getf
  | putfield x => exact dd_of dt_putf
  | iaload => exact dd_of dt_iald
  | baload => exact dd_of dt_bald
  | aaload => exact dd_of dt_aald
  | iastore => exact dd_of dt_iast
  | bastore => exact dd_of dt_bast
  | aastore => exact dd_of dt_aast
  | arraylength => exact dd_of dt_alen
  | newarray t => exact dd_of dt_newa
  | anewarray x => exact dd_of dt_newa
  | invokevirtual x => exact dd_call
  | invokestatic x =>
    intro Q k hd
    have hd : (bif Nat.beq a1 998 then gi_acpy k (p + 3) ls st h else gi_call k (p + 3) ls st h cp a1 a2) := hd
    cases q : Nat.beq a1 998 with
    | true =>
      rw [q] at hd
      obtain ⟨p', ls', st', h', b1, b0, b2⟩ := dt_acpy k hd
      exact Or.inl ⟨p', ls', st', h', b1, b0, fun _ k' => by show _ ↔ (bif Nat.beq a1 998 then gi_acpy k' (p + 3) ls st h else gi_call k' (p + 3) ls st h cp a1 a2); rw [q]; exact b2 k'⟩
    | false =>
      rw [q] at hd
      obtain ⟨g1, g2, hd⟩ := hd
      exact Or.inr (Or.inr ⟨_, _, _, _, _, hd, fun _ k' => by show _ ↔ (bif Nat.beq a1 998 then gi_acpy k' (p + 3) ls st h else gi_call k' (p + 3) ls st h cp a1 a2); rw [q]; exact ⟨fun hk => ⟨g1, g2, hk⟩, fun hk => hk.2.2⟩⟩)
  | invokespecial x =>
    intro Q k hd
    have hd : gi_invI k (p + 3) ls st h cp a1 a2 := hd
    show _ ∨ _ ∨ _
    cases q : Nat.beq a1 999 with
    | true =>
      unfold gi_invI at hd
      rw [q] at hd
      obtain ⟨p', ls', st', h', b1, b0, b2⟩ := dt_obj k hd
      refine Or.inl ⟨p', ls', st', h', b1, b0, fun _ k' => ?_⟩
      show _ ↔ gi_invI k' (p + 3) ls st h cp a1 a2
      unfold gi_invI
      rw [q]
      exact b2 k'
    | false =>
      unfold gi_invI at hd
      rw [q] at hd
      obtain ⟨g0, g1, g2, hd⟩ := hd
      refine Or.inr (Or.inr ⟨_, _, _, _, _, hd, fun _ k' => ?_⟩)
      show _ ↔ gi_invI k' (p + 3) ls st h cp a1 a2
      unfold gi_invI
      rw [q]
      exact ⟨fun hk => ⟨g0, g1, g2, hk⟩, fun hk => hk.2.2.2⟩
  | ireturn =>
    intro Q k hd
    have hd : gi_retI st h Q z := hd
    unfold gi_retI at hd
    split at hd
    · exact Or.inr (Or.inl ⟨_, hd.2, fun Q' k' => ⟨fun hq => ⟨hd.1, hq⟩, fun hq => hq.2⟩⟩)
    · exact hd.elim
  | lreturn =>
    intro Q k hd
    have hd : gi_retL st h Q := hd
    unfold gi_retL at hd
    split at hd
    · exact Or.inr (Or.inl ⟨_, hd, fun Q' k' => Iff.rfl⟩)
    · exact hd.elim
  | areturn =>
    intro Q k hd
    have hd : gi_retR st h Q := hd
    unfold gi_retR at hd
    split at hd
    · exact Or.inr (Or.inl ⟨_, hd, fun Q' k' => Iff.rfl⟩)
    · exact hd.elim
  | return_ =>
    intro Q k hd
    have hd : gi_retV st h Q := hd
    unfold gi_retV at hd
    split at hd
    · exact Or.inr (Or.inl ⟨_, hd, fun Q' k' => Iff.rfl⟩)
    · exact hd.elim
  | _ => exact fun Q k hd => (hd : False).elim
def gi_Dc (cp : Nat → List gi_V → gi_H → gi_P → Prop) : Prop := ∀ y av h Q, cp y av h Q → ∃ r h', Q r h' ∧ (gi_n h ≤ gi_n h' ∧ gi_u h ≤ gi_u h') ∧ ∀ Q' : gi_P, Q' r h' ↔ cp y av h Q'
theorem gi_wp_code {cp : Nat → List gi_V → gi_H → gi_P → Prop} {mi : Nat} {Q : gi_P} {n pc : Nat} {ls : gi_L} {st : List gi_V} {h : gi_H} {i : Instr} {len a1 a2 : Nat} (hc : gi_code mi pc = some (i, len, a1, a2)) : gi_wp cp mi Q (n + 1) pc ls st h = gi_do cp (gi_rz mi) Q (gi_wp cp mi Q n) i a1 a2 pc ls st h := by
  show (match gi_code mi pc with
    | none => False
    | some (i, _, a1, a2) => gi_do cp (gi_rz mi) Q (gi_wp cp mi Q n) i a1 a2 pc ls st h) = _
  rw [hc]
theorem gi_wp_some {cp : Nat → List gi_V → gi_H → gi_P → Prop} {mi : Nat} {Q : gi_P} {n pc : Nat} {ls : gi_L} {st : List gi_V} {h : gi_H} (hw : gi_wp cp mi Q (n + 1) pc ls st h) : ∃ i len a1 a2, gi_code mi pc = some (i, len, a1, a2) := by
  have hw : (match gi_code mi pc with
    | none => False
    | some (i, _, a1, a2) => gi_do cp (gi_rz mi) Q (gi_wp cp mi Q n) i a1 a2 pc ls st h) := hw
  cases hc : gi_code mi pc with
  | none => rw [hc] at hw; exact hw.elim
  | some q => exact ⟨q.1, q.2.1, q.2.2.1, q.2.2.2, rfl⟩
theorem gi_det_wp {cp : Nat → List gi_V → gi_H → gi_P → Prop} (hcp : gi_Dc cp) {mi : Nat} {Q : gi_P} : ∀ (n pc : Nat) (ls : gi_L) (st : List gi_V) (h : gi_H), gi_wp cp mi Q n pc ls st h → ∃ r h', Q r h' ∧ (gi_n h ≤ gi_n h' ∧ gi_u h ≤ gi_u h') ∧ ∀ Q' : gi_P, Q' r h' ↔ gi_wp cp mi Q' n pc ls st h := by
  intro n
  induction n with
  | zero => intro pc ls st h hw; exact hw.elim
  | succ n ih =>
    intro pc ls st h hw
    obtain ⟨i, len, a1, a2, hc⟩ := gi_wp_some hw
    rw [gi_wp_code hc] at hw
    rcases gi_det_do Q _ hw with ⟨p', l', s', h', b1, b0, b2⟩ | ⟨v, b1, b2⟩ | ⟨y, av, p', l', s', b1, b2⟩
    · obtain ⟨r, h2, c1, c0, c2⟩ := ih p' l' s' h' b1
      exact ⟨r, h2, c1, ⟨Nat.le_trans b0.1 c0.1, Nat.le_trans b0.2 c0.2⟩, fun Q' => by rw [gi_wp_code hc]; exact (c2 Q').trans (b2 Q' _)⟩
    · exact ⟨v, h, b1, gi_bnd, fun Q' => by rw [gi_wp_code hc]; exact b2 Q' _⟩
    · obtain ⟨r1, h1, c1, c0, c2⟩ := hcp _ _ _ _ b1
      obtain ⟨r, h2, d1, d0, d2⟩ := ih p' l' (r1.toList ++ s') h1 c1
      exact ⟨r, h2, d1, ⟨Nat.le_trans c0.1 d0.1, Nat.le_trans c0.2 d0.2⟩, fun Q' => by rw [gi_wp_code hc]; exact (d2 Q').trans ((c2 _).trans (b2 Q' _))⟩
theorem gi_wp_up {cp : Nat → List gi_V → gi_H → gi_P → Prop} (hcp : gi_Dc cp) {mi : Nat} {Q : gi_P} : ∀ (n pc : Nat) (ls : gi_L) (st : List gi_V) (h : gi_H), gi_wp cp mi Q n pc ls st h → gi_wp cp mi Q (n + 1) pc ls st h := by
  intro n
  induction n with
  | zero => intro pc ls st h hw; exact hw.elim
  | succ n ih =>
    intro pc ls st h hw
    obtain ⟨i, len, a1, a2, hc⟩ := gi_wp_some hw
    rw [gi_wp_code hc] at hw ⊢
    rcases gi_det_do Q _ hw with ⟨p', l', s', h', b1, b0, b2⟩ | ⟨v, b1, b2⟩ | ⟨y, av, p', l', s', b1, b2⟩
    · exact (b2 Q _).mp (ih p' l' s' h' b1)
    · exact (b2 Q _).mp b1
    · obtain ⟨r1, h1, c1, c0, c2⟩ := hcp _ _ _ _ b1
      exact (b2 Q _).mp ((c2 _).mp (ih p' l' _ h1 c1))
theorem gi_wp_le {cp : Nat → List gi_V → gi_H → gi_P → Prop} (hcp : gi_Dc cp) {mi : Nat} {Q : gi_P} {n k pc : Nat} {ls : gi_L} {st : List gi_V} {h : gi_H} (hw : gi_wp cp mi Q n pc ls st h) (hnk : n ≤ k) : gi_wp cp mi Q k pc ls st h := by
  induction hnk with
  | refl => exact hw
  | step _ ih => exact gi_wp_up hcp _ _ _ _ _ ih
/-- a call: the arguments fit the callee's locals -/
def gi_cx : Nat → Nat → List gi_V → gi_H → gi_P → Prop
  | 0 => fun _ _ _ _ => False
  | d + 1 => fun mi args h Q => bif Nat.beq mi 78 then gi_cpo args h Q else (gi_ent (gi_nL mi) args).length = gi_nL mi ∧ ∃ n, gi_wp (gi_cx d) mi Q n 0 (gi_ent (gi_nL mi) args) [] h
theorem gi_cx_eq {d y : Nat} (q : Nat.beq y 78 = false) (av : List gi_V) (h : gi_H) (Q : gi_P) : gi_cx (d + 1) y av h Q = ((gi_ent (gi_nL y) av).length = gi_nL y ∧ ∃ n, gi_wp (gi_cx d) y Q n 0 (gi_ent (gi_nL y) av) [] h) := by
  show (bif Nat.beq y 78 then gi_cpo av h Q else (gi_ent (gi_nL y) av).length = gi_nL y ∧ ∃ n, gi_wp (gi_cx d) y Q n 0 (gi_ent (gi_nL y) av) [] h) = _
  rw [q]
  rfl
theorem gi_cx_eq1 {d y : Nat} (q : Nat.beq y 78 = true) (av : List gi_V) (h : gi_H) (Q : gi_P) : gi_cx (d + 1) y av h Q = gi_cpo av h Q := by
  show (bif Nat.beq y 78 then gi_cpo av h Q else (gi_ent (gi_nL y) av).length = gi_nL y ∧ ∃ n, gi_wp (gi_cx d) y Q n 0 (gi_ent (gi_nL y) av) [] h) = _
  rw [q]
  rfl
theorem gi_det : ∀ d, gi_Dc (gi_cx d)
  | 0 => fun y av h Q hd => hd.elim
  | d + 1 => fun y av h Q hd => by
    cases q : Nat.beq y 78 with
    | true =>
      rw [gi_cx_eq1 q] at hd
      unfold gi_cpo at hd
      split at hd
      · obtain ⟨g1, g2, g3, g4, g5, hd⟩ := hd
        refine ⟨_, _, hd, ⟨Nat.le_succ _, Nat.le_add_right _ _⟩, fun Q' => ?_⟩
        rw [gi_cx_eq1 q]
        exact ⟨fun hq => ⟨g1, g2, g3, g4, g5, hq⟩, fun hq => hq.2.2.2.2.2⟩
      · exact hd.elim
    | false =>
      rw [gi_cx_eq q] at hd
      obtain ⟨g0, n, hd⟩ := hd
      obtain ⟨r, h', c1, c0, c2⟩ := gi_det_wp (gi_det d) n _ _ _ _ hd
      refine ⟨r, h', c1, c0, fun Q' => ?_⟩
      rw [gi_cx_eq q]
      refine ⟨fun hq => ⟨g0, n, (c2 Q').mp hq⟩, fun ⟨_, n2, hq⟩ => ?_⟩
      have e1 := (c2 (fun r1 h1 => r1 = r ∧ h1 = h')).mp ⟨rfl, rfl⟩
      have e2 := gi_wp_le (gi_det d) e1 (Nat.le_max_left n n2)
      have e3 := gi_wp_le (gi_det d) hq (Nat.le_max_right n n2)
      obtain ⟨r2, h2, ⟨f1, f2⟩, -, f3⟩ := gi_det_wp (gi_det d) _ _ _ _ _ e2
      subst f1
      subst f2
      exact (f3 Q').mpr e3
/-- one proved end is the only one -/
theorem gi_cx_iff {d y : Nat} {av : List gi_V} {h h' : gi_H} {r : Option gi_V} (hd : gi_cx d y av h (fun r1 h1 => r1 = r ∧ h1 = h')) (Q : gi_P) : gi_cx d y av h Q ↔ Q r h' := by
  obtain ⟨r2, h2, ⟨rfl, rfl⟩, -, b2⟩ := gi_det d y av h _ hd
  exact (b2 Q).symm
theorem gi_cx_mono {d y : Nat} {av : List gi_V} {h : gi_H} {Q Q' : gi_P} (hd : gi_cx d y av h Q) (hq : ∀ r h', Q r h' → Q' r h') : gi_cx d y av h Q' := by
  obtain ⟨r2, h2, b1, -, b2⟩ := gi_det d y av h _ hd
  exact (b2 Q').mp (hq _ _ b1)

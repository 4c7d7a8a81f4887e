/-! what a run leaves as it is, and the kind of its answer -/
set_option maxRecDepth 100000

def fr (h h' : gi_H) : Prop := 0 < gi_n h → gi_n h ≤ gi_n h' ∧ (∀ x, x < gi_n h → gi_c h' x = gi_c h x) ∧ ((gi_c h 0).1 = 99 → ∀ j, gi_I h' 0 j = gi_I h 0 j)
theorem fr_r {h : gi_H} : fr h h := fun _ => ⟨Nat.le_refl _, fun _ _ => rfl, fun _ _ => rfl⟩
theorem fr_t {h h1 h2 : gi_H} (a : fr h h1) (b : fr h1 h2) : fr h h2 := fun w => by
  obtain ⟨a1, a2, a3⟩ := a w
  obtain ⟨b1, b2, b3⟩ := b (by omega)
  exact ⟨by omega, fun x hx => (b2 x (by omega)).trans (a2 x hx), fun q j => (b3 (by rw [a2 0 w]; exact q) j).trans (a3 q j)⟩
theorem fr_n {h : gi_H} {t n u : Nat} : fr h (gi_new h t n u) := fun w => ⟨Nat.le_succ _, fun x hx => by
  show (if x = gi_n h then (t, n) else gi_c h x) = gi_c h x
  rw [if_neg (by omega)], fun _ j => by
  show (if 0 = gi_n h then 0 else gi_I h 0 j) = gi_I h 0 j
  rw [if_neg (by omega)]⟩
theorem fr_pI {h : gi_H} {x : Option Nat} {k : Nat} {v : Int32} (a : gi_tag h x ≠ 99) (b : gi_tag h x ≠ 0) : fr h (gi_pI h (x.getD 0) k v) := fun w => ⟨Nat.le_refl _, fun _ _ => rfl, fun q j => by
  show (if 0 = x.getD 0 ∧ j = k then v else gi_I h 0 j) = gi_I h 0 j
  rw [if_neg]
  intro e
  cases x with
  | none => exact b rfl
  | some y =>
    have e1 : 0 = y := e.1
    subst e1
    exact a q⟩
theorem fr_pR {h : gi_H} {a k : Nat} {v : Option Nat} : fr h (gi_pR h a k v) := fun _ => ⟨Nat.le_refl _, fun _ _ => rfl, fun _ _ => rfl⟩
theorem fr_cp {h : gi_H} {x : Option Nat} {a sp dp n : Nat} (q1 : gi_tag h x ≠ 99) (b : gi_tag h x ≠ 0) : fr h (gi_cpy h a (x.getD 0) sp dp n) := fun w => ⟨Nat.le_refl _, fun _ _ => rfl, fun q j => by
  show (if 0 = x.getD 0 ∧ dp ≤ j ∧ j < dp + n then gi_I h a (sp + (j - dp)) else gi_I h 0 j) = gi_I h 0 j
  rw [if_neg]
  intro e
  cases x with
  | none => exact b rfl
  | some y =>
    have e1 : 0 = y := e.1
    subst e1
    exact q1 q⟩
def gi_Ft (h : gi_H) (F : gi_K → Prop) : Prop := ∀ k, F k → ∃ p' ls' st' h', k p' ls' st' h' ∧ fr h h'
theorem ft_ldI {p : Nat} {ls : gi_L} {st : List gi_V} {h : gi_H} {i : Nat} : gi_Ft h (fun k => gi_ldI k p ls st h i) := by
  intro k hd
  simp only [gi_ldI] at hd ⊢
  split at hd
  · exact ⟨_, _, _, _, hd, fr_r⟩
  · exact hd.elim
theorem ft_ldL {p : Nat} {ls : gi_L} {st : List gi_V} {h : gi_H} {i : Nat} : gi_Ft h (fun k => gi_ldL k p ls st h i) := by
  intro k hd
  simp only [gi_ldL] at hd ⊢
  split at hd
  · exact ⟨_, _, _, _, hd, fr_r⟩
  · exact hd.elim
theorem ft_ldR {p : Nat} {ls : gi_L} {st : List gi_V} {h : gi_H} {i : Nat} : gi_Ft h (fun k => gi_ldR k p ls st h i) := by
  intro k hd
  simp only [gi_ldR] at hd ⊢
  split at hd
  · exact ⟨_, _, _, _, hd, fr_r⟩
  · exact hd.elim
theorem ft_stI {p : Nat} {ls : gi_L} {st : List gi_V} {h : gi_H} {i : Nat} : gi_Ft h (fun k => gi_stI k p ls st h i) := by
  intro k hd
  simp only [gi_stI] at hd ⊢
  split at hd
  · obtain ⟨g0, hd⟩ := hd
    exact ⟨_, _, _, _, hd, fr_r⟩
  · exact hd.elim
theorem ft_stL {p : Nat} {ls : gi_L} {st : List gi_V} {h : gi_H} {i : Nat} : gi_Ft h (fun k => gi_stL k p ls st h i) := by
  intro k hd
  simp only [gi_stL] at hd ⊢
  split at hd
  · obtain ⟨g0, hd⟩ := hd
    exact ⟨_, _, _, _, hd, fr_r⟩
  · exact hd.elim
theorem ft_stR {p : Nat} {ls : gi_L} {st : List gi_V} {h : gi_H} {i : Nat} : gi_Ft h (fun k => gi_stR k p ls st h i) := by
  intro k hd
  simp only [gi_stR] at hd ⊢
  split at hd
  · obtain ⟨g0, hd⟩ := hd
    exact ⟨_, _, _, _, hd, fr_r⟩
  · exact hd.elim
theorem ft_inc {p : Nat} {ls : gi_L} {st : List gi_V} {h : gi_H} {i : Nat} {n : Int} : gi_Ft h (fun k => gi_inc k p ls st h i n) := by
  intro k hd
  simp only [gi_inc] at hd ⊢
  split at hd
  · exact ⟨_, _, _, _, hd, fr_r⟩
  · exact hd.elim
theorem ft_1 {p : Nat} {ls : gi_L} {st : List gi_V} {h : gi_H} {f : Int32 → Int32} : gi_Ft h (fun k => gi_1 k p ls st h f) := by
  intro k hd
  simp only [gi_1] at hd ⊢
  split at hd
  · exact ⟨_, _, _, _, hd, fr_r⟩
  · exact hd.elim
theorem ft_2 {p : Nat} {ls : gi_L} {st : List gi_V} {h : gi_H} {f : Int32 → Int32 → Int32} : gi_Ft h (fun k => gi_2 k p ls st h f) := by
  intro k hd
  simp only [gi_2] at hd ⊢
  split at hd
  · exact ⟨_, _, _, _, hd, fr_r⟩
  · exact hd.elim
theorem ft_2d {p : Nat} {ls : gi_L} {st : List gi_V} {h : gi_H} {f : Int32 → Int32 → Int32} : gi_Ft h (fun k => gi_2d k p ls st h f) := by
  intro k hd
  simp only [gi_2d] at hd ⊢
  split at hd
  · obtain ⟨g0, hd⟩ := hd
    exact ⟨_, _, _, _, hd, fr_r⟩
  · exact hd.elim
theorem ft_2L {p : Nat} {ls : gi_L} {st : List gi_V} {h : gi_H} {f : Int64 → Int64 → Int64} : gi_Ft h (fun k => gi_2L k p ls st h f) := by
  intro k hd
  simp only [gi_2L] at hd ⊢
  split at hd
  · exact ⟨_, _, _, _, hd, fr_r⟩
  · exact hd.elim
theorem ft_2S {p : Nat} {ls : gi_L} {st : List gi_V} {h : gi_H} {f : Int64 → Int32 → Int64} : gi_Ft h (fun k => gi_2S k p ls st h f) := by
  intro k hd
  simp only [gi_2S] at hd ⊢
  split at hd
  · exact ⟨_, _, _, _, hd, fr_r⟩
  · exact hd.elim
theorem ft_lcmp {p : Nat} {ls : gi_L} {st : List gi_V} {h : gi_H}  : gi_Ft h (fun k => gi_lcmp k p ls st h) := by
  intro k hd
  simp only [gi_lcmp] at hd ⊢
  split at hd
  · exact ⟨_, _, _, _, hd, fr_r⟩
  · exact hd.elim
theorem ft_i2l {p : Nat} {ls : gi_L} {st : List gi_V} {h : gi_H}  : gi_Ft h (fun k => gi_i2l k p ls st h) := by
  intro k hd
  simp only [gi_i2l] at hd ⊢
  split at hd
  · exact ⟨_, _, _, _, hd, fr_r⟩
  · exact hd.elim
theorem ft_l2i {p : Nat} {ls : gi_L} {st : List gi_V} {h : gi_H}  : gi_Ft h (fun k => gi_l2i k p ls st h) := by
  intro k hd
  simp only [gi_l2i] at hd ⊢
  split at hd
  · exact ⟨_, _, _, _, hd, fr_r⟩
  · exact hd.elim
theorem ft_dup {p : Nat} {ls : gi_L} {st : List gi_V} {h : gi_H}  : gi_Ft h (fun k => gi_dup k p ls st h) := by
  intro k hd
  simp only [gi_dup] at hd ⊢
  split at hd
  · exact ⟨_, _, _, _, hd, fr_r⟩
  · exact ⟨_, _, _, _, hd, fr_r⟩
  · exact hd.elim
theorem ft_dup2 {p : Nat} {ls : gi_L} {st : List gi_V} {h : gi_H}  : gi_Ft h (fun k => gi_dup2 k p ls st h) := by
  intro k hd
  simp only [gi_dup2] at hd ⊢
  split at hd
  · exact ⟨_, _, _, _, hd, fr_r⟩
  · exact hd.elim
theorem ft_br1 {p : Nat} {ls : gi_L} {st : List gi_V} {h : gi_H} {t : Nat} {f : Int32 → Prop} : gi_Ft h (fun k => gi_br1 k p ls st h t f) := by
  intro k hd
  simp only [gi_br1] at hd ⊢
  split at hd
  · rcases Classical.em (f _) with q | q
    · exact ⟨_, _, _, _, hd.1 q, fr_r⟩
    · exact ⟨_, _, _, _, hd.2 q, fr_r⟩
  · exact hd.elim
theorem ft_br2 {p : Nat} {ls : gi_L} {st : List gi_V} {h : gi_H} {t : Nat} {f : Int32 → Int32 → Prop} : gi_Ft h (fun k => gi_br2 k p ls st h t f) := by
  intro k hd
  simp only [gi_br2] at hd ⊢
  split at hd
  · rcases Classical.em (f _ _) with q | q
    · exact ⟨_, _, _, _, hd.1 q, fr_r⟩
    · exact ⟨_, _, _, _, hd.2 q, fr_r⟩
  · exact hd.elim
theorem ft_brN {p : Nat} {ls : gi_L} {st : List gi_V} {h : gi_H} {t : Nat} : gi_Ft h (fun k => gi_brN k p ls st h t) := by
  intro k hd
  simp only [gi_brN] at hd ⊢
  split at hd
  · rcases Classical.em (_ = none) with q | q
    · exact ⟨_, _, _, _, hd.1 q, fr_r⟩
    · exact ⟨_, _, _, _, hd.2 q, fr_r⟩
  · exact hd.elim
theorem ft_brNN {p : Nat} {ls : gi_L} {st : List gi_V} {h : gi_H} {t : Nat} : gi_Ft h (fun k => gi_brNN k p ls st h t) := by
  intro k hd
  simp only [gi_brNN] at hd ⊢
  split at hd
  · rename_i x r
    rcases Classical.em (x = none) with q | q
    · exact ⟨_, _, _, _, hd.2 q, fr_r⟩
    · exact ⟨_, _, _, _, hd.1 q, fr_r⟩
  · exact hd.elim
theorem ft_sw {p : Nat} {ls : gi_L} {st : List gi_V} {h : gi_H} {x : Int} {d : Nat} : ∀ (l : List Int) (v : Int), gi_Ft h (fun k => gi_sw k p ls st h x d v l)
  | [], v => fun k hd => ⟨_, _, _, _, hd, fr_r⟩
  | o :: l, v => fun k hd => by
    by_cases e : x = v
    · exact ⟨_, _, _, _, hd.1 e, fr_r⟩
    · exact ft_sw l (v + 1) k (hd.2 e)
theorem ft_tsw {p : Nat} {ls : gi_L} {st : List gi_V} {h : gi_H} {d lo hi : Int} {l : List Int} : gi_Ft h (fun k => gi_tsw k p ls st h d lo hi l) := by
  intro k hd
  simp only [gi_tsw] at hd ⊢
  split at hd
  · exact ft_sw l lo k hd
  · exact hd.elim
theorem ft_getf {p : Nat} {ls : gi_L} {st : List gi_V} {h : gi_H} {ci f : Nat} : gi_Ft h (fun k => gi_getf k p ls st h ci f) := by
  intro k hd
  simp only [gi_getf] at hd ⊢
  split at hd
  · obtain ⟨g, hd⟩ := hd
    cases q : Nat.beq (f % 2) 1 with
    | true =>
      rw [q] at hd
      exact ⟨_, _, _, _, hd, fr_r⟩
    | false =>
      rw [q] at hd
      exact ⟨_, _, _, _, hd, fr_r⟩
  · exact hd.elim
theorem ft_bast {p : Nat} {ls : gi_L} {st : List gi_V} {h : gi_H} : gi_Ft h (fun k => gi_bast k p ls st h) := by
  intro k hd
  simp only [gi_bast] at hd ⊢
  split at hd
  · obtain ⟨g, ⟨g1, hd⟩ | ⟨g1, hd⟩⟩ := hd
    · exact ⟨_, _, _, _, hd, fr_pI (by omega) (by omega)⟩
    · exact ⟨_, _, _, _, hd, fr_pI (by omega) (by omega)⟩
  · exact hd.elim
theorem ft_k {p : Nat} {ls : gi_L} {st : List gi_V} {h : gi_H} : gi_Ft h (fun k => k p ls st h) := fun k hd => ⟨_, _, _, _, hd, fr_r⟩
theorem ft_obj {p : Nat} {ls : gi_L} {st : List gi_V} {h : gi_H} : gi_Ft h (fun k => match st with
  | .inr (.inr (some _)) :: r => r.length ≤ 4 ∧ k p ls r h
  | _ => False) := by
  intro k hd
  split at hd
  · obtain ⟨g, hd⟩ := hd
    exact ⟨_, _, _, _, hd, fr_r⟩
  · exact hd.elim
theorem ft_putf {p : Nat} {ls : gi_L} {st : List gi_V} {h : gi_H} {ci f : Nat} (hci : ci ≠ 98) : gi_Ft h (fun k => gi_putf k p ls st h ci f) := by
  intro k hd
  simp only [gi_putf] at hd ⊢
  split at hd
  · obtain ⟨g0, g1, hd⟩ := hd
    exact ⟨_, _, _, _, hd, (by first | exact fr_pR | exact fr_pI (by omega) (by omega))⟩
  · obtain ⟨g0, g1, hd⟩ := hd
    exact ⟨_, _, _, _, hd, (by first | exact fr_pR | exact fr_pI (by omega) (by omega))⟩
  · exact hd.elim
theorem ft_iald {p : Nat} {ls : gi_L} {st : List gi_V} {h : gi_H}  : gi_Ft h (fun k => gi_iald k p ls st h) := by
  intro k hd
  simp only [gi_iald] at hd ⊢
  split at hd
  · obtain ⟨g0, g1, hd⟩ := hd
    exact ⟨_, _, _, _, hd, fr_r⟩
  · exact hd.elim
theorem ft_bald {p : Nat} {ls : gi_L} {st : List gi_V} {h : gi_H}  : gi_Ft h (fun k => gi_bald k p ls st h) := by
  intro k hd
  simp only [gi_bald] at hd ⊢
  split at hd
  · obtain ⟨g0, g1, hd⟩ := hd
    exact ⟨_, _, _, _, hd, fr_r⟩
  · exact hd.elim
theorem ft_aald {p : Nat} {ls : gi_L} {st : List gi_V} {h : gi_H}  : gi_Ft h (fun k => gi_aald k p ls st h) := by
  intro k hd
  simp only [gi_aald] at hd ⊢
  split at hd
  · obtain ⟨g0, g1, hd⟩ := hd
    exact ⟨_, _, _, _, hd, fr_r⟩
  · exact hd.elim
theorem ft_iast {p : Nat} {ls : gi_L} {st : List gi_V} {h : gi_H}  : gi_Ft h (fun k => gi_iast k p ls st h) := by
  intro k hd
  simp only [gi_iast] at hd ⊢
  split at hd
  · obtain ⟨g0, g1, hd⟩ := hd
    exact ⟨_, _, _, _, hd, fr_pI (by omega) (by omega)⟩
  · exact hd.elim
theorem ft_aast {p : Nat} {ls : gi_L} {st : List gi_V} {h : gi_H}  : gi_Ft h (fun k => gi_aast k p ls st h) := by
  intro k hd
  simp only [gi_aast] at hd ⊢
  split at hd
  · obtain ⟨g0, g1, g2, hd⟩ := hd
    exact ⟨_, _, _, _, hd, fr_pR⟩
  · exact hd.elim
theorem ft_alen {p : Nat} {ls : gi_L} {st : List gi_V} {h : gi_H}  : gi_Ft h (fun k => gi_alen k p ls st h) := by
  intro k hd
  simp only [gi_alen] at hd ⊢
  split at hd
  · obtain ⟨g0, hd⟩ := hd
    exact ⟨_, _, _, _, hd, fr_r⟩
  · exact hd.elim
theorem ft_newa {p : Nat} {ls : gi_L} {st : List gi_V} {h : gi_H} {t : Nat} : gi_Ft h (fun k => gi_newa k p ls st h t) := by
  intro k hd
  simp only [gi_newa] at hd ⊢
  split at hd
  · obtain ⟨g0, g1, hd⟩ := hd
    exact ⟨_, _, _, _, hd, fr_n⟩
  · exact hd.elim
theorem ft_newo {p : Nat} {ls : gi_L} {st : List gi_V} {h : gi_H} {ci N : Nat} : gi_Ft h (fun k => gi_newo k p ls st h ci N) := fun k hd => ⟨_, _, _, _, hd, fr_n⟩
theorem ft_acpy {p : Nat} {ls : gi_L} {st : List gi_V} {h : gi_H}  : gi_Ft h (fun k => gi_acpy k p ls st h) := by
  intro k hd
  simp only [gi_acpy] at hd ⊢
  split at hd
  · obtain ⟨g0, g1, g2, g3, g4, g5, g6, g7, hd⟩ := hd
    exact ⟨_, _, _, _, hd, fr_cp (by omega) (by omega)⟩
  · exact hd.elim
def gi_Fd (cp : Nat → List gi_V → gi_H → gi_P → Prop) (h : gi_H) (F : gi_P → gi_K → Prop) : Prop := ∀ Q k, F Q k →
  (∃ p' ls' st' h', k p' ls' st' h' ∧ fr h h') ∨ (∃ v, Q v h) ∨ (∃ y av p' ls' st', cp y av h (fun r h' => k p' ls' (r.toList ++ st') h'))
theorem fd_of {cp : Nat → List gi_V → gi_H → gi_P → Prop} {h : gi_H} {F : gi_K → Prop} (hF : gi_Ft h F) : gi_Fd cp h (fun _ k => F k) := fun _ k hd => Or.inl (hF k hd)
theorem gi_fr_do {cp : Nat → List gi_V → gi_H → gi_P → Prop} {z : Bool} {i : Instr} {a1 a2 p : Nat} {ls : gi_L} {st : List gi_V} {h : gi_H} (hp : ∀ x, i = .putfield x → a1 ≠ 98) : gi_Fd cp h (fun Q k => gi_do cp z Q k i a1 a2 p ls st h) := by
  cases i with
  | iconst n => exact fd_of ft_k
  | bipush n => exact fd_of ft_k
  | sipush n => exact fd_of ft_k
  | lconst n => exact fd_of ft_k
  | ldc x => exact fd_of ft_k
  | ldc2_w x => exact fd_of ft_k
  | aconst_null => exact fd_of ft_k
  | goto o => exact fd_of ft_k
  | new x => exact fd_of ft_newo
  | iload_n i => exact fd_of ft_ldI
  | iload i => exact fd_of ft_ldI
  | lload_n i => exact fd_of ft_ldL
  | lload i => exact fd_of ft_ldL
  | aload_n i => exact fd_of ft_ldR
  | aload i => exact fd_of ft_ldR
  | istore_n i => exact fd_of ft_stI
  | istore i => exact fd_of ft_stI
  | lstore_n i => exact fd_of ft_stL
  | lstore i => exact fd_of ft_stL
  | astore_n i => exact fd_of ft_stR
  | astore i => exact fd_of ft_stR
  | iinc i n => exact fd_of ft_inc
  | iadd => exact fd_of ft_2
  | isub => exact fd_of ft_2
  | imul => exact fd_of ft_2
  | iand => exact fd_of ft_2
  | ior => exact fd_of ft_2
  | ixor => exact fd_of ft_2
  | ishl => exact fd_of ft_2
  | ishr => exact fd_of ft_2
  | idiv => exact fd_of ft_2d
  | irem => exact fd_of ft_2d
  | ineg => exact fd_of ft_1
  | i2b => exact fd_of ft_1
  | i2l => exact fd_of ft_i2l
  | l2i => exact fd_of ft_l2i
  | land => exact fd_of ft_2L
  | lor => exact fd_of ft_2L
  | lshl => exact fd_of ft_2S
  | lshr => exact fd_of ft_2S
  | lushr => exact fd_of ft_2S
  | lcmp => exact fd_of ft_lcmp
  | ifCond c o => exact fd_of ft_br1
  | if_icmp c o => exact fd_of ft_br2
  | ifnull o => exact fd_of ft_brN
  | ifnonnull o => exact fd_of ft_brNN
  | tableswitch d lo hi offs => exact fd_of (ft_tsw (hi := hi))
  | dup => exact fd_of ft_dup
  | dup2 => exact fd_of ft_dup2
  | getfield x => exact fd_of ft_getf
  | putfield x => exact fd_of (ft_putf (hp _ rfl))
  | iaload => exact fd_of ft_iald
  | baload => exact fd_of ft_bald
  | aaload => exact fd_of ft_aald
  | iastore => exact fd_of ft_iast
  | bastore => exact fd_of ft_bast
  | aastore => exact fd_of ft_aast
  | arraylength => exact fd_of ft_alen
  | newarray t => exact fd_of ft_newa
  | anewarray x => exact fd_of ft_newa
  | invokevirtual x => exact fun Q k hd => Or.inr (Or.inr ⟨_, _, _, _, _, hd.2.2.2⟩)
  | invokestatic x =>
    intro Q k hd
    have hd : (bif Nat.beq a1 998 then gi_acpy k (p + 3) ls st h else gi_call k (p + 3) ls st h cp a1 a2) := hd
    cases q : Nat.beq a1 998 with
    | true =>
      rw [q] at hd
      exact Or.inl (ft_acpy k hd)
    | false =>
      rw [q] at hd
      exact Or.inr (Or.inr ⟨_, _, _, _, _, hd.2.2⟩)
  | invokespecial x =>
    intro Q k hd
    have hd : gi_invI k (p + 3) ls st h cp a1 a2 := hd
    cases q : Nat.beq a1 999 with
    | true =>
      unfold gi_invI at hd
      rw [q] at hd
      exact Or.inl (ft_obj k hd)
    | false =>
      unfold gi_invI at hd
      rw [q] at hd
      exact Or.inr (Or.inr ⟨_, _, _, _, _, hd.2.2.2⟩)
  | ireturn =>
    intro Q k hd
    have hd : gi_retI st h Q z := hd
    unfold gi_retI at hd
    split at hd
    · exact Or.inr (Or.inl ⟨_, hd.2⟩)
    · exact hd.elim
  | lreturn =>
    intro Q k hd
    have hd : gi_retL st h Q := hd
    unfold gi_retL at hd
    split at hd
    · exact Or.inr (Or.inl ⟨_, hd⟩)
    · exact hd.elim
  | areturn =>
    intro Q k hd
    have hd : gi_retR st h Q := hd
    unfold gi_retR at hd
    split at hd
    · exact Or.inr (Or.inl ⟨_, hd⟩)
    · exact hd.elim
  | return_ =>
    intro Q k hd
    have hd : gi_retV st h Q := hd
    unfold gi_retV at hd
    split at hd
    · exact Or.inr (Or.inl ⟨_, hd⟩)
    · exact hd.elim
  | _ => exact fun Q k hd => (hd : False).elim
def gi_Fc (cp : Nat → List gi_V → gi_H → gi_P → Prop) : Prop := ∀ y av h Q, cp y av h Q → ∃ r h', Q r h' ∧ fr h h'
theorem gi_F98 : ∀ e ∈ gi_F, e.2.2.1 ≠ 98 := by decide
theorem gi_pf {mi pc x l a1 a2 : Nat} (hc : gi_code mi pc = some (.putfield x, l, a1, a2)) : a1 ≠ 98 := by
  have q := (gi_code_ok hc).2
  have q : (Nat.beq l 3 && decide ((gi_oc mi, x, a1, a2) ∈ gi_F) && gi_fin mi a1 a2) = true := q
  rw [Bool.and_eq_true, Bool.and_eq_true] at q
  exact gi_F98 _ (of_decide_eq_true q.1.2)
theorem gi_fr_wp {cp : Nat → List gi_V → gi_H → gi_P → Prop} (hcp : gi_Fc cp) {mi : Nat} {Q : gi_P} : ∀ (n pc : Nat) (ls : gi_L) (st : List gi_V) (h : gi_H), gi_wp cp mi Q n pc ls st h → ∃ r h', Q r h' ∧ fr h h' := by
  intro n
  induction n with
  | zero => intro pc ls st h hw; exact hw.elim
  | succ n ih =>
    intro pc ls st h hw
    obtain ⟨i, len, a1, a2, hc⟩ := gi_wp_some hw
    rw [gi_wp_code hc] at hw
    rcases gi_fr_do (fun x e => gi_pf (by rw [hc, e])) Q _ hw with ⟨p', l', s', h', b1, b0⟩ | ⟨v, b1⟩ | ⟨y, av, p', l', s', b1⟩
    · obtain ⟨r, h2, c1, c0⟩ := ih p' l' s' h' b1
      exact ⟨r, h2, c1, fr_t b0 c0⟩
    · exact ⟨v, h, b1, fr_r⟩
    · obtain ⟨r1, h1, c1, c0⟩ := hcp _ _ _ _ b1
      obtain ⟨r, h2, d1, d0⟩ := ih p' l' (r1.toList ++ s') h1 c1
      exact ⟨r, h2, d1, fr_t c0 d0⟩
theorem gi_frm : ∀ d, gi_Fc (gi_cx d)
  | 0 => fun y av h Q hd => hd.elim
  | d + 1 => fun y av h Q hd => by
    cases q : Nat.beq y 78 with
    | true =>
      rw [gi_cx_eq1 q] at hd
      unfold gi_cpo at hd
      split at hd
      · obtain ⟨g1, g2, g3, g4, g5, hd⟩ := hd
        refine ⟨_, _, hd, fun w => ⟨Nat.le_succ _, fun x hx => ?_, fun _ j => ?_⟩⟩
        · show (if x = gi_n h then _ else gi_c h x) = gi_c h x
          rw [if_neg (by omega)]
        · show (if 0 = gi_n h ∧ _ then _ else if 0 = gi_n h then 0 else gi_I h 0 j) = gi_I h 0 j
          rw [if_neg (by omega), if_neg (by omega)]
      · exact hd.elim
    | false =>
      rw [gi_cx_eq q] at hd
      obtain ⟨g0, n, hd⟩ := hd
      exact gi_fr_wp (gi_frm d) n _ _ _ _ hd
theorem do_I {cp : Nat → List gi_V → gi_H → gi_P → Prop} {z : Bool} {Q Q1 : gi_P} {k : gi_K} {i : Instr} {a1 a2 p : Nat} {ls : gi_L} {st : List gi_V} {h : gi_H} (n1 : i ≠ .lreturn) (n2 : i ≠ .areturn) (n3 : i ≠ .return_) (hw : gi_do cp z Q k i a1 a2 p ls st h) : (∃ x, Q (some (.inl x)) h) ∨ gi_do cp z Q1 k i a1 a2 p ls st h := by
  cases i with
  | ireturn =>
    have hd : gi_retI st h Q z := hw
    unfold gi_retI at hd
    split at hd
    · exact Or.inl ⟨_, hd.2⟩
    · exact hd.elim
  | lreturn => exact absurd rfl n1
  | areturn => exact absurd rfl n2
  | return_ => exact absurd rfl n3
  | _ => exact Or.inr hw
theorem do_L {cp : Nat → List gi_V → gi_H → gi_P → Prop} {z : Bool} {Q Q1 : gi_P} {k : gi_K} {i : Instr} {a1 a2 p : Nat} {ls : gi_L} {st : List gi_V} {h : gi_H} (n1 : i ≠ .ireturn) (n2 : i ≠ .areturn) (n3 : i ≠ .return_) (hw : gi_do cp z Q k i a1 a2 p ls st h) : (∃ x, Q (some (.inr (.inl x))) h) ∨ gi_do cp z Q1 k i a1 a2 p ls st h := by
  cases i with
  | lreturn =>
    have hd : gi_retL st h Q := hw
    unfold gi_retL at hd
    split at hd
    · exact Or.inl ⟨_, hd⟩
    · exact hd.elim
  | ireturn => exact absurd rfl n1
  | areturn => exact absurd rfl n2
  | return_ => exact absurd rfl n3
  | _ => exact Or.inr hw
theorem ty_wpI {cp : Nat → List gi_V → gi_H → gi_P → Prop} (hcp : gi_Dc cp) {mi : Nat} {Q : gi_P} (hr : gi_ret mi = some .int) : ∀ (n pc : Nat) (ls : gi_L) (st : List gi_V) (h : gi_H), gi_wp cp mi Q n pc ls st h → gi_wp cp mi (fun r _ => ∃ x, r = some (.inl x)) n pc ls st h := by
  intro n
  induction n with
  | zero => intro pc ls st h hw; exact hw.elim
  | succ n ih =>
    intro pc ls st h hw
    obtain ⟨i, len, a1, a2, hc⟩ := gi_wp_some hw
    rw [gi_wp_code hc] at hw ⊢
    rcases gi_det_do Q _ hw with ⟨p', l', s', h', b1, b0, b2⟩ | ⟨v, b1, b2⟩ | ⟨y, av, p', l', s', b1, b2⟩
    · exact (b2 _ _).mp (ih p' l' s' h' b1)
    · refine (b2 _ _).mp ?_
      have f0 := (b2 (fun r _ => r = v) (fun _ _ _ _ => False)).mp rfl
      have q := (gi_code_ok hc).2
      rcases do_I (Q1 := fun _ _ => False) (fun e => by
        subst e
        have q : (Nat.beq len 1 && decide (gi_ret mi = some .long)) = true := q
        rw [hr, Bool.and_eq_true] at q
        exact absurd q.2 (by decide)) (fun e => by
        subst e
        have q : (Nat.beq len 1 && gi_isr (gi_ret mi)) = true := q
        rw [hr, Bool.and_eq_true] at q
        exact absurd q.2 (by decide)) (fun e => by
        subst e
        have q : (Nat.beq len 1 && decide (gi_ret mi = none)) = true := q
        rw [hr, Bool.and_eq_true] at q
        exact absurd q.2 (by decide)) f0 with ⟨x, hx⟩ | hx
      · exact ⟨x, hx.symm⟩
      · exact ((b2 (fun _ _ => False) (fun _ _ _ _ => False)).mpr hx).elim
    · obtain ⟨r1, h1, c1, c0, c2⟩ := hcp _ _ _ _ b1
      exact (b2 _ _).mp ((c2 _).mp (ih p' l' _ h1 c1))
theorem ty_I {d y : Nat} {av : List gi_V} {h : gi_H} {Q : gi_P} (hy : Nat.beq y 78 = false) (hr : gi_ret y = some .int) (H : gi_cx (d + 1) y av h Q) : gi_cx (d + 1) y av h (fun r _ => ∃ x, r = some (.inl x)) := by
  rw [gi_cx_eq hy] at H ⊢
  obtain ⟨g0, n, hd⟩ := H
  exact ⟨g0, n, ty_wpI (gi_det d) hr n _ _ _ _ hd⟩
theorem ty_wpL {cp : Nat → List gi_V → gi_H → gi_P → Prop} (hcp : gi_Dc cp) {mi : Nat} {Q : gi_P} (hr : gi_ret mi = some .long) : ∀ (n pc : Nat) (ls : gi_L) (st : List gi_V) (h : gi_H), gi_wp cp mi Q n pc ls st h → gi_wp cp mi (fun r _ => ∃ x, r = some (.inr (.inl x))) n pc ls st h := by
  intro n
  induction n with
  | zero => intro pc ls st h hw; exact hw.elim
  | succ n ih =>
    intro pc ls st h hw
    obtain ⟨i, len, a1, a2, hc⟩ := gi_wp_some hw
    rw [gi_wp_code hc] at hw ⊢
    rcases gi_det_do Q _ hw with ⟨p', l', s', h', b1, b0, b2⟩ | ⟨v, b1, b2⟩ | ⟨y, av, p', l', s', b1, b2⟩
    · exact (b2 _ _).mp (ih p' l' s' h' b1)
    · refine (b2 _ _).mp ?_
      have f0 := (b2 (fun r _ => r = v) (fun _ _ _ _ => False)).mp rfl
      have q := (gi_code_ok hc).2
      rcases do_L (Q1 := fun _ _ => False) (fun e => by
        subst e
        have q : (Nat.beq len 1 && (match gi_ret mi with
    | some .int => true
    | some .boolean => true
    | _ => false)) = true := q
        rw [hr, Bool.and_eq_true] at q
        exact absurd q.2 (by decide)) (fun e => by
        subst e
        have q : (Nat.beq len 1 && gi_isr (gi_ret mi)) = true := q
        rw [hr, Bool.and_eq_true] at q
        exact absurd q.2 (by decide)) (fun e => by
        subst e
        have q : (Nat.beq len 1 && decide (gi_ret mi = none)) = true := q
        rw [hr, Bool.and_eq_true] at q
        exact absurd q.2 (by decide)) f0 with ⟨x, hx⟩ | hx
      · exact ⟨x, hx.symm⟩
      · exact ((b2 (fun _ _ => False) (fun _ _ _ _ => False)).mpr hx).elim
    · obtain ⟨r1, h1, c1, c0, c2⟩ := hcp _ _ _ _ b1
      exact (b2 _ _).mp ((c2 _).mp (ih p' l' _ h1 c1))
theorem ty_L {d y : Nat} {av : List gi_V} {h : gi_H} {Q : gi_P} (hy : Nat.beq y 78 = false) (hr : gi_ret y = some .long) (H : gi_cx (d + 1) y av h Q) : gi_cx (d + 1) y av h (fun r _ => ∃ x, r = some (.inr (.inl x))) := by
  rw [gi_cx_eq hy] at H ⊢
  obtain ⟨g0, n, hd⟩ := H
  exact ⟨g0, n, ty_wpL (gi_det d) hr n _ _ _ _ hd⟩

/-! the step, the body, the contract of every method -/
def gi_Rk (mi : Nat) (i : Instr) (v : Option gi_V) : Prop := (i = .ireturn ∧ ∃ x, v = some (.inl x) ∧ (gi_ret mi = some .int ∨ (gi_ret mi = some .boolean ∧ (x = 0 ∨ x = 1)))) ∨ (i = .lreturn ∧ gi_ret mi = some .long ∧ ∃ x, v = some (.inr (.inl x))) ∨ (i = .areturn ∧ gi_isr (gi_ret mi) = true ∧ ∃ x, v = some (.inr (.inr x))) ∨ (i = .return_ ∧ gi_ret mi = none ∧ v = none)
def gi_End (p : Program) (l : Launch) (e : Env) (R : Room) (s : State) (m : MethodId) (args : Array Value) (below : List Frame) (meth : Method) (c : Code) (D : va_G) (dA : Nat → ClassId) (b base L : Nat) (xs : Nat → Int32) (mi n0 u0 : Nat) (Qw : State → Prop) (Qr : gi_P) : Prop :=
  ∀ v h, Qr v h → gi_n h ≤ n0 + R.cells ∧ gi_u h ≤ u0 + R.slots ∧ ∀ ls H locs cells slots pc i, gi_Rp D dA b base L xs h H → va_S (fun q => base ≤ q) s.heap H locs → gi_n h = n0 + cells → gi_u h = u0 + slots → decode (gi_b mi) pc = .ok (i, 1) → gi_Rk mi i v → W p l e R s m args below meth c H locs cells slots Qw (F0 m pc ls (v.toList.map (gi_tr (gi_ad b base))))
set_option maxHeartbeats 1000000 in
theorem gi_step {p : Program} {l : Launch} {e : Env} {R : Room} {s : State} {m : MethodId} {args : Array Value} {below : List Frame} {meth : Method} {c : Code} {D : va_G} {dA : Nat → ClassId} {b base L : Nat} {xs : Nat → Int32} {mi n0 u0 : Nat} {Qw : State → Prop} (C0 : gi_Cx D dA b base L xs p R s m args meth c mi) (hs0 : s.heap.size + 1 = base + n0) {cp : Nat → List gi_V → gi_H → gi_P → Prop} (hcp : ∀ y av h Q, cp y av h Q → ∃ r h', Q r h' ∧ gi_Ma l D dA b base L xs y av h r h') {K : gi_K} (hK : ∀ pc lsA st h, K pc lsA st h → gi_G p l e R s m args below meth c D dA b base L xs mi n0 u0 Qw pc lsA st h) {Qr : gi_P} (hE : gi_End p l e R s m args below meth c D dA b base L xs mi n0 u0 Qw Qr) {pc : Nat} {lsA : gi_L} {st : List gi_V} {h : gi_H} {i : Instr} {len a1 a2 : Nat} (how : gi_ow (gi_oc mi) = (gi_y mi).cls) (hdec : decode (gi_b mi) pc = .ok (i, len)) (hlk : gi_lk mi pc i len a1 a2 = true) (hdo : gi_do cp (gi_rz mi) Qr K i a1 a2 pc lsA st h) : gi_G p l e R s m args below meth c D dA b base L xs mi n0 u0 Qw pc lsA st h := by
  cases i with
  | iconst n =>
    have hl : len = 1 := Nat.eq_of_beq_eq_true hlk
    subst hl
    exact gs_iconst C0 hK hdec hdo
  | bipush n =>
    have hl : len = 2 := Nat.eq_of_beq_eq_true hlk
    subst hl
    exact gs_bipush C0 hK hdec hdo
  | sipush n =>
    have hl : len = 3 := Nat.eq_of_beq_eq_true hlk
    subst hl
    exact gs_sipush C0 hK hdec hdo
  | lconst n =>
    have hl : len = 1 := Nat.eq_of_beq_eq_true hlk
    subst hl
    exact gs_lconst C0 hK hdec hdo
  | aconst_null =>
    have hl : len = 1 := Nat.eq_of_beq_eq_true hlk
    subst hl
    exact gs_null C0 hK hdec hdo
  | iload_n k =>
    have hl : len = 1 := Nat.eq_of_beq_eq_true hlk
    subst hl
    exact gs_iload_n C0 hK hdec hdo
  | iload k =>
    have hl : len = 2 := Nat.eq_of_beq_eq_true hlk
    subst hl
    exact gs_iload C0 hK hdec hdo
  | lload_n k =>
    have hl : len = 1 := Nat.eq_of_beq_eq_true hlk
    subst hl
    exact gs_lload_n C0 hK hdec hdo
  | lload k =>
    have hl : len = 2 := Nat.eq_of_beq_eq_true hlk
    subst hl
    exact gs_lload C0 hK hdec hdo
  | aload_n k =>
    have hl : len = 1 := Nat.eq_of_beq_eq_true hlk
    subst hl
    exact gs_aload_n C0 hK hdec hdo
  | aload k =>
    have hl : len = 2 := Nat.eq_of_beq_eq_true hlk
    subst hl
    exact gs_aload C0 hK hdec hdo
  | istore_n k =>
    have hl : len = 1 := Nat.eq_of_beq_eq_true hlk
    subst hl
    exact gs_istore_n C0 hK hdec hdo
  | istore k =>
    have hl : len = 2 := Nat.eq_of_beq_eq_true hlk
    subst hl
    exact gs_istore C0 hK hdec hdo
  | lstore_n k =>
    have hl : len = 1 := Nat.eq_of_beq_eq_true hlk
    subst hl
    exact gs_lstore_n C0 hK hdec hdo
  | lstore k =>
    have hl : len = 2 := Nat.eq_of_beq_eq_true hlk
    subst hl
    exact gs_lstore C0 hK hdec hdo
  | astore_n k =>
    have hl : len = 1 := Nat.eq_of_beq_eq_true hlk
    subst hl
    exact gs_astore_n C0 hK hdec hdo
  | astore k =>
    have hl : len = 2 := Nat.eq_of_beq_eq_true hlk
    subst hl
    exact gs_astore C0 hK hdec hdo
  | iinc k n =>
    have hl : len = 3 := Nat.eq_of_beq_eq_true hlk
    subst hl
    exact gs_iinc C0 hK hdec hdo
  | iadd =>
    have hl : len = 1 := Nat.eq_of_beq_eq_true hlk
    subst hl
    exact gs_iadd C0 hK hdec hdo
  | isub =>
    have hl : len = 1 := Nat.eq_of_beq_eq_true hlk
    subst hl
    exact gs_isub C0 hK hdec hdo
  | imul =>
    have hl : len = 1 := Nat.eq_of_beq_eq_true hlk
    subst hl
    exact gs_imul C0 hK hdec hdo
  | iand =>
    have hl : len = 1 := Nat.eq_of_beq_eq_true hlk
    subst hl
    exact gs_iand C0 hK hdec hdo
  | ior =>
    have hl : len = 1 := Nat.eq_of_beq_eq_true hlk
    subst hl
    exact gs_ior C0 hK hdec hdo
  | ixor =>
    have hl : len = 1 := Nat.eq_of_beq_eq_true hlk
    subst hl
    exact gs_ixor C0 hK hdec hdo
  | ishl =>
    have hl : len = 1 := Nat.eq_of_beq_eq_true hlk
    subst hl
    exact gs_ishl C0 hK hdec hdo
  | ishr =>
    have hl : len = 1 := Nat.eq_of_beq_eq_true hlk
    subst hl
    exact gs_ishr C0 hK hdec hdo
  | idiv =>
    have hl : len = 1 := Nat.eq_of_beq_eq_true hlk
    subst hl
    exact gs_idiv C0 hK hdec hdo
  | irem =>
    have hl : len = 1 := Nat.eq_of_beq_eq_true hlk
    subst hl
    exact gs_irem C0 hK hdec hdo
  | ineg =>
    have hl : len = 1 := Nat.eq_of_beq_eq_true hlk
    subst hl
    exact gs_ineg C0 hK hdec hdo
  | i2b =>
    have hl : len = 1 := Nat.eq_of_beq_eq_true hlk
    subst hl
    exact gs_i2b C0 hK hdec hdo
  | i2l =>
    have hl : len = 1 := Nat.eq_of_beq_eq_true hlk
    subst hl
    exact gs_i2l C0 hK hdec hdo
  | l2i =>
    have hl : len = 1 := Nat.eq_of_beq_eq_true hlk
    subst hl
    exact gs_l2i C0 hK hdec hdo
  | land =>
    have hl : len = 1 := Nat.eq_of_beq_eq_true hlk
    subst hl
    exact gs_land C0 hK hdec hdo
  | lor =>
    have hl : len = 1 := Nat.eq_of_beq_eq_true hlk
    subst hl
    exact gs_lor C0 hK hdec hdo
  | lshl =>
    have hl : len = 1 := Nat.eq_of_beq_eq_true hlk
    subst hl
    exact gs_lshl C0 hK hdec hdo
  | lshr =>
    have hl : len = 1 := Nat.eq_of_beq_eq_true hlk
    subst hl
    exact gs_lshr C0 hK hdec hdo
  | lushr =>
    have hl : len = 1 := Nat.eq_of_beq_eq_true hlk
    subst hl
    exact gs_lushr C0 hK hdec hdo
  | lcmp =>
    have hl : len = 1 := Nat.eq_of_beq_eq_true hlk
    subst hl
    exact gs_lcmp C0 hK hdec hdo
  | dup =>
    have hl : len = 1 := Nat.eq_of_beq_eq_true hlk
    subst hl
    exact gs_dup C0 hK hdec hdo
  | dup2 =>
    have hl : len = 1 := Nat.eq_of_beq_eq_true hlk
    subst hl
    exact gs_dup2 C0 hK hdec hdo
  | baload =>
    have hl : len = 1 := Nat.eq_of_beq_eq_true hlk
    subst hl
    exact gs_baload C0 hK hdec hdo
  | aaload =>
    have hl : len = 1 := Nat.eq_of_beq_eq_true hlk
    subst hl
    exact gs_aaload C0 hK hdec hdo
  | iaload =>
    have hl : len = 1 := Nat.eq_of_beq_eq_true hlk
    subst hl
    exact gs_iaload C0 hs0 hK hdec hdo
  | iastore =>
    have hl : len = 1 := Nat.eq_of_beq_eq_true hlk
    subst hl
    exact gs_iastore C0 hs0 hK hdec hdo
  | bastore =>
    have hl : len = 1 := Nat.eq_of_beq_eq_true hlk
    subst hl
    exact gs_bastore C0 hs0 hK hdec hdo
  | aastore =>
    have hl : len = 1 := Nat.eq_of_beq_eq_true hlk
    subst hl
    exact gs_aastore C0 hs0 hK hdec hdo
  | arraylength =>
    have hl : len = 1 := Nat.eq_of_beq_eq_true hlk
    subst hl
    exact gs_alen C0 hs0 hK hdec hdo
  | goto o =>
    simp only [gi_lk, Bool.and_eq_true, decide_eq_true_eq, List.all_eq_true] at hlk
    have hl := Nat.eq_of_beq_eq_true hlk.1
    subst hl
    exact gs_goto C0 hK hlk.2 hdec hdo
  | ifnull o =>
    simp only [gi_lk, Bool.and_eq_true, decide_eq_true_eq, List.all_eq_true] at hlk
    have hl := Nat.eq_of_beq_eq_true hlk.1
    subst hl
    exact gs_ifnull C0 hK hlk.2 hdec hdo
  | ifnonnull o =>
    simp only [gi_lk, Bool.and_eq_true, decide_eq_true_eq, List.all_eq_true] at hlk
    have hl := Nat.eq_of_beq_eq_true hlk.1
    subst hl
    exact gs_ifnonnull C0 hK hlk.2 hdec hdo
  | ifCond q o =>
    simp only [gi_lk, Bool.and_eq_true, decide_eq_true_eq, List.all_eq_true] at hlk
    have hl := Nat.eq_of_beq_eq_true hlk.1
    subst hl
    cases q with
    | eq => exact gs_if_eq C0 hK hlk.2 hdec hdo
    | ne => exact gs_if_ne C0 hK hlk.2 hdec hdo
    | lt => exact gs_if_lt C0 hK hlk.2 hdec hdo
    | ge => exact gs_if_ge C0 hK hlk.2 hdec hdo
    | gt => exact gs_if_gt C0 hK hlk.2 hdec hdo
    | le => exact gs_if_le C0 hK hlk.2 hdec hdo
  | if_icmp q o =>
    simp only [gi_lk, Bool.and_eq_true, decide_eq_true_eq, List.all_eq_true] at hlk
    have hl := Nat.eq_of_beq_eq_true hlk.1
    subst hl
    cases q with
    | eq => exact gs_icmp_eq C0 hK hlk.2 hdec hdo
    | ne => exact gs_icmp_ne C0 hK hlk.2 hdec hdo
    | lt => exact gs_icmp_lt C0 hK hlk.2 hdec hdo
    | ge => exact gs_icmp_ge C0 hK hlk.2 hdec hdo
    | gt => exact gs_icmp_gt C0 hK hlk.2 hdec hdo
    | le => exact gs_icmp_le C0 hK hlk.2 hdec hdo
  | tableswitch d lo hi offs =>
    simp only [gi_lk, Bool.and_eq_true, decide_eq_true_eq, List.all_eq_true] at hlk
    exact gs_tsw C0 hK hlk.1.1 hlk.1.2 hlk.2 hdec hdo
  | getfield x =>
    simp only [gi_lk, Bool.and_eq_true, decide_eq_true_eq, List.all_eq_true] at hlk
    have hl := Nat.eq_of_beq_eq_true hlk.1
    subst hl
    exact gs_getfield C0 hK hlk.2 hdec hdo
  | putfield x =>
    simp only [gi_lk, Bool.and_eq_true, decide_eq_true_eq, List.all_eq_true] at hlk
    have hl := Nat.eq_of_beq_eq_true hlk.1.1
    subst hl
    exact gs_putfield C0 hs0 hK hlk.1.2 hlk.2 how hdec hdo
  | ldc x =>
    simp only [gi_lk, Bool.and_eq_true, decide_eq_true_eq, List.all_eq_true] at hlk
    have hl := Nat.eq_of_beq_eq_true hlk.1
    subst hl
    rw [← gi_x_Ki] at hlk
    obtain ⟨⟨e1, j⟩, he, h1⟩ := List.mem_map.mp hlk.2
    have h1 : e1 = (gi_oc mi, x, a1, a2) := h1
    subst h1
    exact gs_ldc C0 hK (gi_at_in (List.all_eq_true.mp gi_ok_Ki _ he)) hdec hdo
  | ldc2_w x =>
    simp only [gi_lk, Bool.and_eq_true, decide_eq_true_eq, List.all_eq_true] at hlk
    have hl := Nat.eq_of_beq_eq_true hlk.1
    subst hl
    rw [← gi_x_Kj] at hlk
    obtain ⟨⟨e1, j⟩, he, h1⟩ := List.mem_map.mp hlk.2
    have h1 : e1 = (gi_oc mi, x, a1, a2) := h1
    subst h1
    exact gs_ldc2 C0 hK (gi_at_in (List.all_eq_true.mp gi_ok_Kj _ he)) hdec hdo
  | new x =>
    simp only [gi_lk, Bool.and_eq_true, decide_eq_true_eq, List.all_eq_true] at hlk
    have hl := Nat.eq_of_beq_eq_true hlk.1
    subst hl
    exact gs_new C0 hs0 hK hlk.2 hdec hdo
  | newarray t =>
    simp only [gi_lk, Bool.and_eq_true, decide_eq_true_eq, List.all_eq_true] at hlk
    have hl := Nat.eq_of_beq_eq_true hlk.1.1
    subst hl
    have h3 := hlk.2
    simp only [Nat.blt, Nat.ble_eq] at h3
    exact gs_newarray C0 hs0 hK rfl hlk.1.2 (by omega) hdec hdo
  | anewarray x =>
    simp only [gi_lk, Bool.and_eq_true, decide_eq_true_eq, List.all_eq_true] at hlk
    have hl := Nat.eq_of_beq_eq_true hlk.1
    subst hl
    obtain ⟨C, h1, h2, h3, h4⟩ := gi_Al_get hlk.2
    exact gs_anewarray C0 hs0 hK rfl h1 h2 h3 h4 hdec hdo
  | invokevirtual x =>
    simp only [gi_lk, Bool.and_eq_true, decide_eq_true_eq, List.all_eq_true] at hlk
    obtain ⟨⟨⟨⟨q0, q1⟩, q2⟩, q3⟩, q4⟩ := hlk
    have hl := Nat.eq_of_beq_eq_true q0
    subst hl
    obtain ⟨hrv, hdo⟩ := hdo
    exact gs_virtual C0 hcp hK q2 q1 (Nat.eq_of_beq_eq_true q3) q4 hrv hdec hdo
  | invokestatic x =>
    have hlk : (Nat.beq len 3 && (bif Nat.beq a1 998 then decide ((gi_oc mi, x) ∈ gi_Ac) && Nat.ble 1 (gi_rf mi) && Nat.ble 32 (gi_rl mi) else (decide ((gi_oc mi, x, a1) ∈ gi_Ml) || decide ((gi_oc mi, x, a1) ∈ gi_Mn)) && decide (a1 ∈ gi_Ss) && Nat.beq a2 (gi_na a1) && gi_rm mi a1)) = true := hlk
    have hdo : (bif Nat.beq a1 998 then gi_acpy K (pc + 3) lsA st h else gi_call K (pc + 3) lsA st h cp a1 a2) := hdo
    cases q : Nat.beq a1 998 with
    | true =>
      rw [q] at hlk hdo
      simp only [cond_true, Bool.and_eq_true, decide_eq_true_eq, Nat.ble_eq] at hlk
      obtain ⟨q0, ⟨q1, q2⟩, q3⟩ := hlk
      have hl := Nat.eq_of_beq_eq_true q0
      subst hl
      rw [← gi_x_Ac] at q1
      obtain ⟨⟨e1, j⟩, he, h1⟩ := List.mem_map.mp q1
      have h1 : e1 = (gi_oc mi, x) := h1
      subst h1
      exact gs_acpy C0 hs0 hK (gi_at_in (List.all_eq_true.mp gi_ok_Ac _ he)) q2 q3 hdec hdo
    | false =>
      rw [q] at hlk hdo
      simp only [cond_false, Bool.and_eq_true, Bool.or_eq_true, decide_eq_true_eq] at hlk
      obtain ⟨q0, ⟨⟨q1, q2⟩, q3⟩, q4⟩ := hlk
      have hl := Nat.eq_of_beq_eq_true q0
      subst hl
      exact gs_static C0 hcp hK q2 (q1.imp gi_Ml_get gi_Mn_get) (Nat.eq_of_beq_eq_true q3) q4 hdec hdo
  | invokespecial x =>
    have hlk : (Nat.beq len 3 && (bif Nat.beq a1 999 then decide ((gi_oc mi, x) ∈ gi_Ob) && Nat.ble 1 (gi_rf mi) && Nat.ble 20 (gi_rl mi) else (decide ((gi_oc mi, x, a1) ∈ gi_Ml) || decide ((gi_oc mi, x, a1) ∈ gi_Mn)) && decide (a1 ∈ gi_Is) && Nat.beq a2 (gi_na a1 + 1) && gi_rm mi a1)) = true := hlk
    have hdo : gi_invI K (pc + 3) lsA st h cp a1 a2 := hdo
    unfold gi_invI at hdo
    cases q : Nat.beq a1 999 with
    | true =>
      rw [q] at hlk hdo
      simp only [cond_true, Bool.and_eq_true, decide_eq_true_eq, Nat.ble_eq] at hlk
      obtain ⟨q0, ⟨q1, q2⟩, q3⟩ := hlk
      have hl := Nat.eq_of_beq_eq_true q0
      subst hl
      rw [← gi_x_Ob] at q1
      obtain ⟨⟨e1, j⟩, he, h1⟩ := List.mem_map.mp q1
      have h1 : e1 = (gi_oc mi, x) := h1
      subst h1
      exact gs_objInit C0 hK (gi_at_in (List.all_eq_true.mp gi_ok_Ob _ he)) q2 q3 hdec hdo
    | false =>
      rw [q] at hlk hdo
      simp only [cond_false, Bool.and_eq_true, Bool.or_eq_true, decide_eq_true_eq] at hlk
      obtain ⟨q0, ⟨⟨q1, q2⟩, q3⟩, q4⟩ := hlk
      have hl := Nat.eq_of_beq_eq_true q0
      subst hl
      obtain ⟨hrv, hdo⟩ := hdo
      exact gs_special C0 hcp hK q2 q1 (Nat.eq_of_beq_eq_true q3) q4 hrv hdec hdo
  | ireturn =>
    have hlk : (Nat.beq len 1 && (match gi_ret mi with
      | some .int => true
      | some .boolean => true
      | _ => false)) = true := hlk
    simp only [Bool.and_eq_true] at hlk
    have hl := Nat.eq_of_beq_eq_true hlk.1
    subst hl
    have hdo : gi_retI st h Qr (gi_rz mi) := hdo
    unfold gi_retI at hdo
    split at hdo
    · rename_i x hq0
      obtain ⟨hn, hu, hw⟩ := hE _ _ hdo.2
      refine ⟨hn, hu, fun ls H locs cells slots hst => hw ls H locs cells slots pc .ireturn hst.1 hst.2.2.1 hst.2.2.2.1 hst.2.2.2.2 hdec (Or.inl ⟨rfl, x, rfl, ?_⟩)⟩
      have hz := hdo.1
      unfold gi_rz at hz
      have h2 := hlk.2
      split at h2
      · rename_i e1; exact Or.inl e1
      · rename_i e1; rw [e1] at hz; exact Or.inr ⟨e1, hz rfl⟩
      · cases h2
    · exact hdo.elim
  | lreturn =>
    simp only [gi_lk, Bool.and_eq_true, decide_eq_true_eq, List.all_eq_true] at hlk
    have hl := Nat.eq_of_beq_eq_true hlk.1
    subst hl
    have hdo : gi_retL st h Qr := hdo
    unfold gi_retL at hdo
    split at hdo
    · rename_i x hq0
      obtain ⟨hn, hu, hw⟩ := hE _ _ hdo
      exact ⟨hn, hu, fun ls H locs cells slots hst => hw ls H locs cells slots pc .lreturn hst.1 hst.2.2.1 hst.2.2.2.1 hst.2.2.2.2 hdec (Or.inr (Or.inl ⟨rfl, hlk.2, x, rfl⟩))⟩
    · exact hdo.elim
  | areturn =>
    simp only [gi_lk, Bool.and_eq_true, decide_eq_true_eq, List.all_eq_true] at hlk
    have hl := Nat.eq_of_beq_eq_true hlk.1
    subst hl
    have hdo : gi_retR st h Qr := hdo
    unfold gi_retR at hdo
    split at hdo
    · rename_i x hq0
      obtain ⟨hn, hu, hw⟩ := hE _ _ hdo
      exact ⟨hn, hu, fun ls H locs cells slots hst => hw ls H locs cells slots pc .areturn hst.1 hst.2.2.1 hst.2.2.2.1 hst.2.2.2.2 hdec (Or.inr (Or.inr (Or.inl ⟨rfl, hlk.2, x, rfl⟩)))⟩
    · exact hdo.elim
  | return_ =>
    simp only [gi_lk, Bool.and_eq_true, decide_eq_true_eq, List.all_eq_true] at hlk
    have hl := Nat.eq_of_beq_eq_true hlk.1
    subst hl
    have hdo : gi_retV st h Qr := hdo
    unfold gi_retV at hdo
    split at hdo
    · obtain ⟨hn, hu, hw⟩ := hE _ _ hdo
      exact ⟨hn, hu, fun ls H locs cells slots hst => hw ls H locs cells slots pc .return_ hst.1 hst.2.2.1 hst.2.2.2.1 hst.2.2.2.2 hdec (Or.inr (Or.inr (Or.inr ⟨rfl, hlk.2, rfl⟩)))⟩
    · exact hdo.elim
  | _ => exact (hdo : False).elim
theorem gi_body {p : Program} {l : Launch} {e : Env} {R : Room} {s : State} {m : MethodId} {args : Array Value} {below : List Frame} {meth : Method} {c : Code} {D : va_G} {dA : Nat → ClassId} {b base L : Nat} {xs : Nat → Int32} {mi n0 u0 : Nat} {Qw : State → Prop} (C0 : gi_Cx D dA b base L xs p R s m args meth c mi) (hs0 : s.heap.size + 1 = base + n0) {cp : Nat → List gi_V → gi_H → gi_P → Prop} (hcp : ∀ y av h Q, cp y av h Q → ∃ r h', Q r h' ∧ gi_Ma l D dA b base L xs y av h r h') {Qr : gi_P} (hE : gi_End p l e R s m args below meth c D dA b base L xs mi n0 u0 Qw Qr) (how : gi_ow (gi_oc mi) = (gi_y mi).cls) : ∀ n pc lsA st h, gi_wp cp mi Qr n pc lsA st h → gi_G p l e R s m args below meth c D dA b base L xs mi n0 u0 Qw pc lsA st h := by
  intro n
  induction n with
  | zero => intro pc lsA st h hw; exact hw.elim
  | succ n ih =>
    intro pc lsA st h hw
    obtain ⟨i, len, a1, a2, hc⟩ := gi_wp_some hw
    rw [gi_wp_code hc] at hw
    obtain ⟨hd, hl⟩ := gi_code_ok hc
    exact gi_step C0 hs0 hcp ih hE how hd hl hw
/-- the locals at the start -/
def gi_e1 (v : gi_V) : List (Option gi_V) := match v with
  | .inr (.inl x) => [some (.inr (.inl x)), none]
  | v => [some v]
theorem gi_ent_eq (n : Nat) (av : List gi_V) : gi_ent n av = av.flatMap gi_e1 ++ List.replicate (n - (av.flatMap gi_e1).length) none := rfl
theorem gi_ent_get {ad : Nat → Nat} : ∀ (av : List gi_V) (k i : Nat) (v : gi_V), (av.flatMap gi_e1)[i]? = some (some v) → (k + i, gi_tr ad v) ∈ lv_args k (av.map (gi_tr ad))
  | [], k, i, v, h => by simp at h
  | w :: av, k, i, v, h => by
    rw [List.flatMap_cons] at h
    rw [List.map_cons]
    unfold lv_args
    rcases w with x | x | x
    · cases i with
      | zero =>
        have h : some (some (.inl x : gi_V)) = some (some v) := h
        cases h
        exact List.mem_cons_self
      | succ i =>
        have h2 := gi_ent_get (ad := ad) av (k + 1) i v h
        rw [show k + 1 + i = k + (i + 1) by omega] at h2
        exact List.mem_cons_of_mem _ h2
    · cases i with
      | zero =>
        have h : some (some (.inr (.inl x) : gi_V)) = some (some v) := h
        cases h
        exact List.mem_cons_self
      | succ i =>
        cases i with
        | zero =>
          have h : some (none : Option gi_V) = some (some v) := h
          cases h
        | succ i =>
          have h2 := gi_ent_get (ad := ad) av (k + 2) i v h
          rw [show k + 2 + i = k + (i + 1 + 1) by omega] at h2
          exact List.mem_cons_of_mem _ h2
    · have hc : ((gi_tr ad (.inr (.inr x))).category = 2) = False := by
        cases x <;> simp [gi_tr, va_rf, Value.category]
      cases i with
      | zero =>
        have h : some (some (.inr (.inr x) : gi_V)) = some (some v) := h
        cases h
        exact List.mem_cons_self
      | succ i =>
        have h2 := gi_ent_get (ad := ad) av (k + 1) i v h
        rw [show k + 1 + i = k + (i + 1) by omega] at h2
        rw [if_neg (by rw [hc]; exact fun h => h)]
        exact List.mem_cons_of_mem _ h2
theorem gi_ent_len {ad : Nat → Nat} : ∀ (av : List gi_V), (av.flatMap gi_e1).length = (lg_sl (av.map (gi_tr ad))).length
  | [] => rfl
  | w :: av => by
    rw [List.flatMap_cons, List.length_append, gi_ent_len (ad := ad) av, List.map_cons]
    unfold lg_sl
    rw [List.flatMap_cons, List.length_append]
    congr 1
    rcases w with x | x | x
    · rfl
    · rfl
    · cases x <;> rfl
theorem gi_ent_Lr {ad : Nat → Nat} {av : List gi_V} {nL : Nat} (h : (lg_sl (av.map (gi_tr ad))).length ≤ nL) : gi_Lr ad nL (gi_ent nL av) ((lg_sl (av.map (gi_tr ad)) ++ List.replicate (nL - (lg_sl (av.map (gi_tr ad))).length) Slot.unset).toArray) := by
  rw [gi_ent_eq]
  refine ⟨?_, _, lv_entry _ h, fun i v hi => ?_⟩
  · rw [List.length_append, List.length_replicate, gi_ent_len (ad := ad)]
    omega
  · by_cases hl : i < (av.flatMap gi_e1).length
    · rw [List.getElem?_append_left hl] at hi
      have := gi_ent_get (ad := ad) av 0 i v hi
      rwa [Nat.zero_add] at this
    · rw [List.getElem?_append_right (by omega)] at hi
      have hm := List.mem_of_getElem? hi
      exact absurd (List.mem_replicate.mp hm).2 (by simp)

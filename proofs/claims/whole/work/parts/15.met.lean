/-! every method's contract out of the interpreter's run -/
theorem gi_end {p : Program} {l : Launch} {e : Env} {R : Room} {s : State} {m : MethodId} {args : Array Value} {below : List Frame} {meth : Method} {c : Code} {D : va_G} {dA : Nat → ClassId} {b base L : Nat} {xs : Nat → Int32} {mi : Nat} (C0 : gi_Cx D dA b base L xs p R s m args meth c mi) {r : Option gi_V} {h0 h' : gi_H} (hn : gi_n h0 ≤ gi_n h') (hu : gi_u h0 ≤ gi_u h') (hRc : R.cells = gi_n h' - gi_n h0) (hRs : R.slots = gi_u h' - gi_u h0) : gi_End p l e R s m args below meth c D dA b base L xs mi (gi_n h0) (gi_u h0) (MQ below (gi_Qc D dA b base L xs r h') args s (gi_n h' - gi_n h0) (gi_u h' - gi_u h0) (fun q => base ≤ q)) (fun r1 h1 => r1 = r ∧ h1 = h') := by
  obtain ⟨hx, hb, hr, hlocks, hml, hown, hnm, hts, hKK, hNe, hAO, hCa, hX, hbb, hbs, hrf, hrl⟩ := C0
  rintro v h ⟨rfl, rfl⟩
  refine ⟨by omega, by omega, fun ls H locs cells slots pc i hR hS hc1 hc2 hdec hrk => ?_⟩
  obtain rfl : cells = gi_n h - gi_n h0 := by omega
  obtain rfl : slots = gi_u h - gi_u h0 := by omega
  have hq : ∀ t : State, t.heap = H → s.WarmedH t.vm → gi_Qc D dA b base L xs v h args s (.returned (v.map (gi_tr (gi_ad b base)))) t := fun t ht _ => ⟨rfl, by rw [ht]; exact hR, hS.F ht⟩
  rcases hrk with ⟨rfl, x, rfl, h1 | ⟨h1, h2⟩⟩ | ⟨rfl, h1, x, rfl⟩ | ⟨rfl, h1, x, rfl⟩ | ⟨rfl, h1, rfl⟩
  · exact W.iret hx hb (hr.trans h1) hq hS.2.2 hdec
  · exact W.zret hx hb (hr.trans h1) (by rcases h2 with rfl | rfl <;> rfl) hq hS.2.2 hdec
  · exact W.lret hx hb (hr.trans h1) hq hS.2.2 hdec
  · cases e1 : gi_ret mi with
    | none => rw [e1] at h1; cases h1
    | some rt =>
      rw [e1] at h1
      refine W.aret hx hb (hr.trans e1) ?_ (va_rf_or _) hq hS.2.2 hdec
      cases rt <;> first | (cases h1; done) | exact Or.inl ⟨_, rfl⟩ | exact Or.inr ⟨_, rfl⟩
  · exact W.vret hx hb (hr.trans h1) hq hS.2.2 hdec
theorem gi_of_in {y : Nat} (h : y ∈ gi_Vs ∨ y ∈ gi_Ss ∨ y ∈ gi_Is) : gi_cd_ok y ∧ plainFor (gi_y y) = true ∧ gi_ow (gi_oc y) = (gi_y y).cls := by
  rcases h with h | h | h
  · obtain ⟨e, rfl, m1, -, -⟩ := gi_V_get h
    obtain ⟨-, -, g3, -, g5⟩ := gi_mb_get m1
    exact ⟨gi_cm_Vs _ h, g3, g5⟩
  · obtain ⟨e, rfl, m1, -⟩ := gi_S_get h
    obtain ⟨-, -, g3, -, g5⟩ := gi_mb_get m1
    exact ⟨gi_cm_Ss _ h, g3, g5⟩
  · obtain ⟨e, rfl, m1, -, -, -⟩ := gi_I_get h
    obtain ⟨-, -, g3, -, g5⟩ := gi_mb_get m1
    exact ⟨gi_cm_Is _ h, g3, g5⟩
theorem gi_met1 {l : Launch} {D : va_G} {dA : Nat → ClassId} {b base L : Nat} {xs : Nat → Int32} {cp : Nat → List gi_V → gi_H → gi_P → Prop} (hcp : ∀ y av h Q, cp y av h Q → ∃ r h', Q r h' ∧ gi_Ma l D dA b base L xs y av h r h') {y n : Nat} {av : List gi_V} {h h' : gi_H} {r : Option gi_V} (hn : gi_n h ≤ gi_n h') (hu : gi_u h ≤ gi_u h') (hy : y ∈ gi_Vs ∨ y ∈ gi_Ss ∨ y ∈ gi_Is) (hlen : (gi_ent (gi_nL y) av).length = gi_nL y) (hw : gi_wp cp y (fun r1 h1 => r1 = r ∧ h1 = h') n 0 (gi_ent (gi_nL y) av) [] h) :
    Met l (gi_y y) (gi_wm y) ({ frames := gi_rf y, cells := gi_n h' - gi_n h, slots := gi_u h' - gi_u h, locals := gi_rl y }) (gi_Pc D dA b base L xs av h) (gi_Qc D dA b base L xs r h') (gi_n h' - gi_n h) (gi_u h' - gi_u h) (fun q => base ≤ q) := by
  obtain ⟨hcd, hpl, how⟩ := gi_of_in hy
  refine va_MetF (cc := gi_b y) (maxL := gi_nL y) (ret := gi_ret y) hpl rfl ?_
  intro p e s m args below meth c s₁ B hml hv
  obtain ⟨rfl, hR, hK, hNe, hAO, hCa, hX, hbb⟩ := hv
  have hts := atoms_spec (ws := gi_wm y) B.pre
  have hown : s.vm.findClass (gi_ow (gi_oc y)) = some m.cls := by rw [how]; exact findClass_of_methodNamed B.named
  have hs0 : s.heap.size + 1 = base + gi_n h := hR.2.1
  have h0 := hR.2.2.1
  have C0 : gi_Cx D dA b base L xs p ({ frames := gi_rf y, cells := gi_n h' - gi_n h, slots := gi_u h' - gi_u h, locals := gi_rl y } : Room) s m (av.map (gi_tr (gi_ad b base))).toArray meth c y :=
    ⟨B.exec, B.bytes, B.returns, B.notSynchronized, hml, hown, (fun h => (name_of_methodNamed B.named B.method).1.trans h), fun w hw => hts w (List.mem_cons_of_mem _ hw), hK, hNe, hAO, hCa, hX, hbb, by omega, Nat.le_refl _, Nat.le_refl _⟩
  have G := gi_body (l := l) (e := e) (below := below) C0 hs0 hcp (gi_end C0 hn hu rfl rfl) how n 0 _ _ _ hw
  have hlen2 : (lg_sl (av.map (gi_tr (gi_ad b base)))).length ≤ gi_nL y := by
    rw [← gi_ent_len (ad := gi_ad b base)]
    rw [gi_ent_eq] at hlen
    rw [List.length_append, List.length_replicate] at hlen
    omega
  rw [lg_entry_eq]
  exact G.2.2 _ s.heap [] 0 0 ⟨hR, gi_ent_Lr hlen2, va_S.rf, rfl, rfl⟩

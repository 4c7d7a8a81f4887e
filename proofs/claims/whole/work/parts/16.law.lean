/-! the law's walk out of the interpreter's run -/
def gi_h0 (L : Nat) (xs : Nat → Int32) : gi_H := (fun a => if a = 0 then (99, L) else (0, 0), fun a i => if a = 0 then xs i else 0, fun _ _ => none, 1, 0)
def gi_Ql : gi_P := fun v h => v = some (.inl 1) ∧ gi_n h ≤ 600001 ∧ gi_u h ≤ 7302250
theorem gi_nest_in : ∀ w ∈ gi_nest, w ∈ lw_tbl := by decide +kernel
theorem gi_ao_in : ∀ C ∈ gi_ao, Jvm.Cond.arrayOver (.object C) ∈ lw_tbl := by decide +kernel
theorem gi_ca_in : Jvm.Cond.castable "[B" "java/lang/Cloneable" ∈ lw_tbl := by decide +kernel
theorem gi_knows {args : Array Value} {s : State} (hts : ∀ w ∈ lw_tbl, w.before args s = true) : ∃ (dC : Nat → ClassId) (dI : Nat → Nat → Nat) (dA : Nat → ClassId), va_K (dC, dI) gi_cl (gi_tys dA) s := by
  have htw : ∀ w ∈ gi_ws, w.before args s = true := fun w h => hts w (List.mem_filter.mp h).1
  have h1 : ∀ k : Nat, ∃ (cC : ClassId) (iS : Nat → Nat), ∀ q : vw_C, gi_cl[k]? = some q → u_Kn s q.1 q.2.1 q.2.2 cC iS := by
    intro k
    cases e : gi_cl[k]? with
    | none => exact ⟨0, fun _ => 0, fun q h => by cases h⟩
    | some q =>
      obtain ⟨C, T, N⟩ := q
      obtain ⟨k1, k2, -⟩ := gi_cls_get e
      obtain ⟨cC, iS, hk⟩ := u_known (C := C) (T := T) (N := N) (n := N) htw k1 (htw _ k2)
      exact ⟨cC, iS, fun q h => by cases h; exact hk⟩
  have h2 : ∀ t : Nat, ∃ cA : ClassId, ∀ ty : FieldType, gi_ar[t]? = some ty → ArrOfT s cA ty ∧ va_RA s cA ty := by
    intro t
    have prim : ∀ ty : FieldType, Jvm.Cond.arrayClass ty ∈ gi_ws → (∀ cA, s.vm.findClass ("[" ++ ty.toString) = some cA → va_RA s cA ty) → ∃ cA : ClassId, ArrOfT s cA ty ∧ va_RA s cA ty := by
      intro ty hw hra
      obtain ⟨c, k, comp, q1, q2, q3⟩ := Cond.arrayClass_spec (htw _ hw)
      exact ⟨c, fun n z => ⟨fun k h => (by cases h), k, q2, comp, q3⟩, hra c q1⟩
    have refs : ∀ C : String, C ∈ gi_ao → ∃ cA : ClassId, ArrOfT s cA (.object C) ∧ va_RA s cA (.object C) := by
      intro C hC
      obtain ⟨comp, c, k, q1, -, q3, q4, q5⟩ := Cond.arrayOver_spec (hts _ (gi_ao_in C hC))
      exact ⟨c, fun n z => ⟨fun k h => (by cases h), k, q3, comp, q4⟩, k, comp, q3, q4, q1, q5⟩
    obtain ⟨-, -, -, -, -, w1, w2, w3⟩ := gi_x_words
    match t with
    | 0 => obtain ⟨cA, h⟩ := prim .int w1 (fun _ h => h); exact ⟨cA, fun ty e => by cases e; exact h⟩
    | 1 => obtain ⟨cA, h⟩ := prim .byte w2 (fun _ h => h); exact ⟨cA, fun ty e => by cases e; exact h⟩
    | 2 => obtain ⟨cA, h⟩ := prim .boolean w3 (fun _ h => h); exact ⟨cA, fun ty e => by cases e; exact h⟩
    | 3 => obtain ⟨cA, h⟩ := refs "GuardedInodes$Inode" (by decide); exact ⟨cA, fun ty e => by cases e; exact h⟩
    | 4 => obtain ⟨cA, h⟩ := refs "GuardedInodes$Block" (by decide); exact ⟨cA, fun ty e => by cases e; exact h⟩
    | 5 => obtain ⟨cA, h⟩ := refs "GuardedInodes$Quota" (by decide); exact ⟨cA, fun ty e => by cases e; exact h⟩
    | 6 => obtain ⟨cA, h⟩ := refs "GuardedInodes$Attribute" (by decide); exact ⟨cA, fun ty e => by cases e; exact h⟩
    | t + 7 => exact ⟨0, fun ty e => by simp [gi_ar] at e⟩
  refine ⟨fun k => Classical.choose (h1 k), fun k => Classical.choose (Classical.choose_spec (h1 k)), fun t => Classical.choose (h2 t), fun k q hq => Classical.choose_spec (Classical.choose_spec (h1 k)) q hq, fun k q hq => ?_⟩
  have hl : k < 7 := (List.getElem?_eq_some_iff.mp hq).1
  have key : ∀ (t : Nat) ty, gi_ar[t]? = some ty → (gi_tys (fun t => Classical.choose (h2 t)))[t]? = some q → ArrOfT s q.1 q.2 ∧ va_RA s q.1 q.2 := by
    intro t ty e hq
    rw [gi_arr_ty e] at hq
    cases hq
    exact Classical.choose_spec (h2 t) ty e
  obtain ⟨ty, hty⟩ : ∃ ty, gi_ar[k]? = some ty := ⟨_, List.getElem?_eq_getElem (show k < gi_ar.length from hl)⟩
  exact key k ty hty hq
set_option maxHeartbeats 1000000 in
theorem gi_whole {l : Launch} (hmet : ∀ (D : va_G) (dA : Nat → ClassId) (b base L : Nat) (xs : Nat → Int32) d y av h Q, gi_cx d y av h Q → ∃ r h', Q r h' ∧ gi_Ma l D dA b base L xs y av h r h') {p : Program} {e : Env} {s : State} {m : MethodId} {below : List Frame} {meth : Method} {c : Code} {b L : Nat} {xs : Nat → Int32} (C0 : lw_At p s m meth c b L xs) {d n : Nat} (hw : gi_wp (gi_cx d) 0 gi_Ql n 0 (gi_ent 4 [.inr (.inr (some 0))]) [] (gi_h0 L xs)) : W p l e room_1 s m #[Value.ref b] below meth c s.heap [] 0 0 (lw_Z below #[Value.ref b] s) (entryFrame m ([Value.ref b] : List Value).toArray 4) := by
  obtain ⟨hx, hb, hr, hml, hown, hts, hX, hbl, hlocks, hgv⟩ := C0
  obtain ⟨dC, dI, dA, hKK⟩ := gi_knows hts
  have htw : ∀ w ∈ gi_ws, w.before #[Value.ref b] s = true := fun w h => hts w (List.mem_filter.mp h).1
  have hNe : ∀ w ∈ gi_nest, va_Nw w s := fun w hw => by
    have h1 := hts w (gi_nest_in w hw)
    obtain ⟨_, _, _, _, rfl⟩ := gi_nestM w hw
    exact va_Nw.of rfl h1
  have C1 : gi_Cx (dC, dI) dA b s.heap.size L xs p room_1 s m #[Value.ref b] meth c 0 :=
    ⟨hx, hb, hr, hlocks, hml, hown, fun h => absurd h (by decide), htw, hKK, hNe, fun C hC => va_AO.of (hts _ (gi_ao_in C hC)), va_Nw.of rfl (hts _ gi_ca_in), hX, hbl, Nat.le_refl _, by decide, by decide⟩
  have hE : gi_End p l e room_1 s m #[Value.ref b] below meth c (dC, dI) dA b s.heap.size L xs 0 1 0 (lw_Z below #[Value.ref b] s) gi_Ql := by
    rintro v h ⟨rfl, h1, h2⟩
    refine ⟨by show gi_n h ≤ 1 + 600000; omega, by show gi_u h ≤ 0 + 7302250; omega, fun ls H locs cells slots pc i hR hS hc1 hc2 hdec hrk => ?_⟩
    have hi : i = .ireturn := by
      rcases hrk with ⟨q, -⟩ | ⟨-, -, x, q⟩ | ⟨-, -, x, q⟩ | ⟨-, -, q⟩
      · exact q
      · cases q
      · cases q
      · cases q
    subst hi
    refine va_forget (fun q hq => hS.2.2 q hq) ?_
    refine W.widen (k := 600000) (n := 7302250) (by omega) (by omega) ?_
    exact lw_ret hx hb hr hlocks hdec
  have G := gi_body (below := below) (e := e) C1 rfl (hmet (dC, dI) dA b s.heap.size L xs d) hE (by decide) n 0 _ _ _ hw
  rw [lg_entry_eq]
  refine G.2.2 _ s.heap [] 0 0 ⟨⟨fun k q hq => ?_, rfl, Nat.one_pos, rfl, fun i _ => rfl, fun a ha => ?_⟩, gi_ent_Lr (av := [.inr (.inr (some 0))]) (Nat.le_of_ble_eq_true rfl), va_S.rf, rfl, rfl⟩
  · obtain ⟨h1, -⟩ := gi_wl_of hq
    exact absurd h1 (by show ¬ k + 1 < 1; omega)
  · have ha : 1 ≤ a := ha
    show ((if a = 0 then (99, L) else (0, 0)) : Nat × Nat).1 = 0
    rw [if_neg (by omega)]

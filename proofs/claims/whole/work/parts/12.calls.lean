/-! calls -/
theorem gi_good : ∀ w ∈ gi_ws, w ∈ gi_ws ∧ ((w.onTables && w.keeps) = true ∨ ∃ ty, w = .arrayClass ty) := fun w h => ⟨h, good_of_word (List.mem_filter.mp h).2⟩
theorem gi_goodm {y : Nat} (h : gi_cd_ok y) : GoodIn gi_ws (gi_wm y) := fun w hw => by
  rcases List.mem_cons.mp hw with rfl | hw
  · exact gi_good _ h
  · exact gi_good _ hw
theorem gi_nestM : ∀ w ∈ gi_nest, ∃ a i x h, w = Jvm.Cond.methodLinkNest a i x h := by
  intro w hw
  simp only [gi_nest, List.mem_cons, List.not_mem_nil, or_false] at hw
  rcases hw with rfl | rfl | rfl | rfl | rfl | rfl <;> exact ⟨_, _, _, _, rfl⟩
theorem gi_blind {D : va_G} {dA : Nat → ClassId} {b base L : Nat} {xs : Nat → Int32} {av : List gi_V} {h : gi_H} : FrameBlind (gi_Pc D dA b base L xs av h) := by
  intro a U g mk ⟨q1, q2, q3, q4, q5, q8, q6, q7⟩
  refine ⟨q1, q2, va_K.moved (u := U) (U := U.calling g mk a) (Vm.Alike.refl U.vm) q3, fun w hw => ?_, fun C hC => va_AO.moved (u := U) (U := U.calling g mk a) (Vm.Alike.refl U.vm) (q5 C hC), va_Nw.same rfl (rfl : U.vm = (U.calling g mk a).vm) q8, va_X.moved (u := U) (U := U.calling g mk a) (Vm.Alike.refl U.vm) q6, q7⟩
  obtain ⟨_, _, _, _, rfl⟩ := gi_nestM w hw
  exact va_Nw.same rfl (rfl : U.vm = (U.calling g mk a).vm) (q4 _ hw)
theorem gi_pre {D : va_G} {dA : Nat → ClassId} {b base L : Nat} {xs : Nat → Int32} {p : Program} {R : Room} {s : State} {m : MethodId} {args : Array Value} {meth : Method} {c : Code} {mi : Nat} (C0 : gi_Cx D dA b base L xs p R s m args meth c mi) {av : List gi_V} {h : gi_H} {H : Heap} {locs : List Loc} (hR : gi_Rp D dA b base L xs h H) (hS : va_S (fun q => base ≤ q) s.heap H locs) (U : State) (hU : U.heap = H) (hW : s.WarmedH U.vm) : gi_Pc D dA b base L xs av h (av.map (gi_tr (gi_ad b base))).toArray U := by
  obtain ⟨hx, hb, hr, hlocks, hml, hown, hnm, hts, hKK, hNe, hAO, hCa, hX, hbb, hbs, hrf, hrl⟩ := C0
  refine ⟨rfl, by rw [hU]; exact hR, va_K.moved hW.alike hKK, fun w hw => ?_, fun C hC => va_AO.moved hW.alike (hAO C hC), va_Nw.warmC hW hCa, ?_, hbb⟩
  · obtain ⟨_, _, _, _, rfl⟩ := gi_nestM w hw
    exact va_Nw.warmM hW (hNe _ hw)
  · rw [hU]
    exact va_X.moved hW.alike (va_X.kept hX (hS.2.1 b (by omega) (by omega)))
/-- behind a call -/
theorem gi_goes {p : Program} {l : Launch} {e : Env} {R : Room} {s : State} {m : MethodId} {args : Array Value} {below : List Frame} {meth : Method} {c : Code} {H : Heap} {locs : List Loc} {cells slots : Nat} {Q : State → Prop} {D : va_G} {dA : Nat → ClassId} {b base L : Nat} {xs : Nat → Int32} {r : Option gi_V} {h' : gi_H} {mc ms pc : Nat} {ls : Array Slot} {st0 rest : List Value} {a : Array Value}
    (hr : va_Run p l e R s m args below meth c H locs cells slots mc ms (F0 m pc ls st0) rest (gi_Qc D dA b base L xs r h' a) (fun q => base ≤ q)) (hS : va_S (fun q => base ≤ q) s.heap H locs)
    (kk : ∀ (H1 : Heap) (locs1 : List Loc), gi_Rp D dA b base L xs h' H1 → va_S (fun q => base ≤ q) s.heap H1 locs1 → W p l e R s m args below meth c H1 locs1 (cells + mc) (slots + ms) Q (F0 m (pc + 3) ls ((r.map (gi_tr (gi_ad b base))).toList ++ rest))) : W p l e R s m args below meth c H locs cells slots Q (F0 m pc ls st0) := by
  intro T hT X
  obtain ⟨v, st₀, t, T', L', h0, X', hL, e1, e2, ⟨hv, hRp, hz, hk⟩, st⟩ := hr T hT X
  cases hv
  rw [h0] at hz hk
  obtain ⟨t2, a1, b1⟩ := kk T'.heap (locs ++ L') (by rw [e1]; exact hRp) ⟨Nat.le_trans hS.1 (by rw [e1]; exact hz), fun q h1 h2 => by rw [e1, hk q (Nat.lt_of_lt_of_le h1 hS.1) h2]; exact hS.2.1 q h1 h2, fun q hq => by
      rcases List.mem_append.mp hq with h | h
      · exact hS.2.2 q h
      · exact hL q h⟩ T' rfl X'
  exact ⟨t2, st t2 a1, b1⟩
theorem gi_mb_get {e : Nat × Nat × Nat × Nat × Nat} (h : gi_mb e = true) : Jvm.Cond.initialized (gi_y e.1).cls ∈ gi_ws ∧ ((gi_y e.1).cls ≠ "java/lang/invoke/MethodHandle" ∧ (gi_y e.1).cls ≠ "java/lang/invoke/VarHandle") ∧ plainFor (gi_y e.1) = true ∧ (parseMethodDescriptor (gi_y e.1).desc).map (fun d => d.parameters.length) = some (gi_na e.1) ∧ gi_ow (gi_oc e.1) = (gi_y e.1).cls := by
  simp only [gi_mb, gi_mhn, Bool.and_eq_true, decide_eq_true_eq] at h
  obtain ⟨⟨⟨⟨h1, h2⟩, h3⟩, h4⟩, h5⟩ := h
  exact ⟨gi_at_in h1, h2, h3, h4, h5⟩
theorem gi_ib_get {e : Nat × Nat × Nat × Nat × Nat} (h : gi_ib e = true) : Jvm.Cond.instanceMethod (gi_y e.1) ∈ gi_ws ∧ ∃ T N, gi_cl[gi_mc e.1]? = some ((gi_y e.1).cls, T, N) := by
  simp only [gi_ib, Bool.and_eq_true] at h
  obtain ⟨h1, h2⟩ := h
  refine ⟨gi_at_in h1, ?_⟩
  split at h2
  · rename_i C T N hc
    have e : C = (gi_y e.1).cls := of_decide_eq_true h2
    subst e
    exact ⟨T, N, hc⟩
  · cases h2
theorem gi_S_get {y : Nat} (h : y ∈ gi_Ss) : ∃ e : Nat × Nat × Nat × Nat × Nat, e.1 = y ∧ gi_mb e = true ∧ Jvm.Cond.static (gi_y y) ∈ gi_ws := by
  rw [← gi_x_Ss] at h
  obtain ⟨e, he, rfl⟩ := List.mem_map.mp h
  have h2 := List.all_eq_true.mp gi_ok_Ss _ he
  simp only [gi_sb, Bool.and_eq_true] at h2
  exact ⟨e, rfl, h2.1, gi_at_in h2.2⟩
theorem gi_I_get {y : Nat} (h : y ∈ gi_Is) : ∃ e : Nat × Nat × Nat × Nat × Nat, e.1 = y ∧ gi_mb e = true ∧ gi_ib e = true ∧ (gi_y y).name = "<init>" ∧ gi_ret y = none := by
  rw [← gi_x_Is] at h
  obtain ⟨e, he, rfl⟩ := List.mem_map.mp h
  have h2 := List.all_eq_true.mp gi_ok_Is _ he
  simp only [gi_spb, Bool.and_eq_true, decide_eq_true_eq] at h2
  exact ⟨e, rfl, h2.1.1.1, h2.1.1.2, h2.1.2, h2.2⟩
theorem gi_V_get {y : Nat} (h : y ∈ gi_Vs) : ∃ e : Nat × Nat × Nat × Nat × Nat, e.1 = y ∧ gi_mb e = true ∧ gi_ib e = true ∧ Jvm.Cond.selects (gi_y y).cls (gi_y y) (gi_y y) ∈ gi_ws := by
  rw [← gi_x_Vs] at h
  obtain ⟨e, he, rfl⟩ := List.mem_map.mp h
  have h2 := List.all_eq_true.mp gi_ok_Vs _ he
  simp only [gi_vb, Bool.and_eq_true] at h2
  exact ⟨e, rfl, h2.1.1, h2.1.2, gi_at_in h2.2⟩
theorem gi_Ml_get {o x y : Nat} (h : (o, x, y) ∈ gi_Ml) : Jvm.Cond.methodLink (gi_ow o) x (gi_y y) ∈ gi_ws := by
  rw [← gi_x_Ml] at h
  obtain ⟨⟨e, j⟩, he, h1⟩ := List.mem_map.mp h
  have h1 : e = (o, x, y) := h1
  subst h1
  exact gi_at_in (List.all_eq_true.mp gi_ok_Ml _ he)
theorem gi_Mn_get {o x y : Nat} (h : (o, x, y) ∈ gi_Mn) : Jvm.Cond.methodLinkNest (gi_ow o) x (gi_y y) "GuardedInodes" ∈ gi_nest := of_decide_eq_true (List.all_eq_true.mp gi_ok_Mn _ h)
theorem gi_split {ad : Nat → Nat} {st : List gi_V} {n : Nat} : st.map (gi_tr ad) = (((st.take n).reverse).map (gi_tr ad)).reverse ++ (st.drop n).map (gi_tr ad) := by
  rw [← List.map_reverse, List.reverse_reverse, ← List.map_append, List.take_append_drop]
theorem gi_rm_get {mi y : Nat} (h : gi_rm mi y = true) : gi_rf y + 1 ≤ gi_rf mi ∧ 8 + (gi_nL y + 11) + gi_rl y ≤ gi_rl mi := by
  simp only [gi_rm, Bool.and_eq_true, Nat.ble_eq] at h
  exact h
theorem gi_opt {ad : Nat → Nat} {r : Option gi_V} {rest : List gi_V} : (r.toList ++ rest).map (gi_tr ad) = (r.map (gi_tr ad)).toList ++ rest.map (gi_tr ad) := by
  cases r <;> rfl
theorem gs_static {p : Program} {l : Launch} {e : Env} {R : Room} {s : State} {m : MethodId} {args : Array Value} {below : List Frame} {meth : Method} {c : Code} {D : va_G} {dA : Nat → ClassId} {b base L : Nat} {xs : Nat → Int32} {mi n0 u0 : Nat} {Qw : State → Prop} (C0 : gi_Cx D dA b base L xs p R s m args meth c mi) {cp : Nat → List gi_V → gi_H → gi_P → Prop} (hcp : ∀ y av h Q, cp y av h Q → ∃ r h', Q r h' ∧ gi_Ma l D dA b base L xs y av h r h') {K : gi_K} (hK : ∀ pc lsA st h, K pc lsA st h → gi_G p l e R s m args below meth c D dA b base L xs mi n0 u0 Qw pc lsA st h) {pc : Nat} {lsA : gi_L} {st : List gi_V} {h : gi_H} {x y n : Nat} (hy : y ∈ gi_Ss) (hl : Jvm.Cond.methodLink (gi_ow (gi_oc mi)) x (gi_y y) ∈ gi_ws ∨ Jvm.Cond.methodLinkNest (gi_ow (gi_oc mi)) x (gi_y y) "GuardedInodes" ∈ gi_nest) (ha : n = gi_na y) (hrm : gi_rm mi y = true) (hdec : decode (gi_b mi) pc = .ok (.invokestatic x, 3)) (hdo : gi_call K (pc + 3) lsA st h cp y n) : gi_G p l e R s m args below meth c D dA b base L xs mi n0 u0 Qw pc lsA st h := by
  have C1 := C0
  obtain ⟨hx, hb, hr, hlocks, hml, hown, hnm, hts, hKK, hNe, hAO, hCa, hX, hbb, hbs, hrf, hrl⟩ := C0
  obtain ⟨hn0, h4, hdo⟩ := hdo
  obtain ⟨rv, h', hdo, hM1, hM2, hM3⟩ := hcp _ _ _ _ hdo
  obtain ⟨hn, hu, hk⟩ := hK _ _ _ _ hdo
  refine ⟨by omega, by omega, fun ls H locs cells slots hst => ?_⟩
  obtain ⟨hR, hL, hS, hc1, hc2⟩ := hst
  obtain ⟨r1, r2⟩ := gi_rm_get hrm
  have hls : ls.size = gi_nL mi := by obtain ⟨-, l2, hl2, -⟩ := hL; exact hl2.1
  have hcat := gi_cats (ad := gi_ad b base) h4
  have fin : ∀ (H1 : Heap) (locs1 : List Loc), gi_Rp D dA b base L xs h' H1 → va_S (fun q => base ≤ q) s.heap H1 locs1 → W p l e R s m args below meth c H1 locs1 (cells + (gi_n h' - gi_n h)) (slots + (gi_u h' - gi_u h)) Qw (F0 m (pc + 3) ls ((rv.map (gi_tr (gi_ad b base))).toList ++ (st.drop n).map (gi_tr (gi_ad b base)))) := by
    intro H1 locs1 hR1 hS1
    have := hk ls H1 locs1 (cells + (gi_n h' - gi_n h)) (slots + (gi_u h' - gi_u h)) ⟨hR1, hL, hS1, by omega, by omega⟩
    rw [gi_opt] at this
    exact this
  have hbnd : cells + (gi_n h' - gi_n h) ≤ R.cells ∧ slots + (gi_u h' - gi_u h) ≤ R.slots := by omega
  obtain ⟨em, rfl, m1, m2⟩ := gi_S_get hy
  obtain ⟨g1, g2, g3, g4, g5⟩ := gi_mb_get m1
  have hcd := gi_cm_Ss _ hy
  have hMet := hM3 (Or.inr (Or.inl hy))
  have hln : ((st.take n).reverse.map (gi_tr (gi_ad b base))).length = gi_na em.1 := by simp only [List.length_map, List.length_reverse, List.length_take]; omega
  rw [gi_split (n := n)]
  rcases hl with hl | hl
  · exact gi_goes (va_runS (n := gi_na em.1) ⟨hx, hb, hml, hown, hts⟩ hMet ⟨callB_of (gi_na em.1) hts (gi_goodm hcd) rfl rfl rfl (hts _ g1) (hts _ hl) ⟨g2.1, g2.2, g4⟩ ⟨by show gi_rf em.1 + 1 ≤ _; omega, by show 8 + (gi_nL em.1 + 11) + gi_rl em.1 ≤ _; omega⟩, hts _ m2⟩ ⟨gi_blind, fun U hU hW => gi_pre C1 hR hS U hU hW⟩ rfl hln hls rfl (lv_room hcat) hdec hbnd) hS fin
  · exact gi_goes (va_runSN (n := gi_na em.1) ⟨hx, hb, hml, hown, hts⟩ hMet ⟨va_cnB (gi_na em.1) hts (gi_goodm hcd) rfl rfl rfl (hNe _ hl) (hts _ g1) ⟨g2.1, g2.2, g4⟩ ⟨by show gi_rf em.1 + 1 ≤ _; omega, by show 8 + (gi_nL em.1 + 11) + gi_rl em.1 ≤ _; omega⟩, hts _ m2, trivial⟩ ⟨gi_blind, fun U hU hW => gi_pre C1 hR hS U hU hW⟩ rfl hln hls rfl (lv_room hcat) hdec hbnd) hS fin
theorem gs_virtual {p : Program} {l : Launch} {e : Env} {R : Room} {s : State} {m : MethodId} {args : Array Value} {below : List Frame} {meth : Method} {c : Code} {D : va_G} {dA : Nat → ClassId} {b base L : Nat} {xs : Nat → Int32} {mi n0 u0 : Nat} {Qw : State → Prop} (C0 : gi_Cx D dA b base L xs p R s m args meth c mi) {cp : Nat → List gi_V → gi_H → gi_P → Prop} (hcp : ∀ y av h Q, cp y av h Q → ∃ r h', Q r h' ∧ gi_Ma l D dA b base L xs y av h r h') {K : gi_K} (hK : ∀ pc lsA st h, K pc lsA st h → gi_G p l e R s m args below meth c D dA b base L xs mi n0 u0 Qw pc lsA st h) {pc : Nat} {lsA : gi_L} {st : List gi_V} {h : gi_H} {x y n : Nat} (hy : y ∈ gi_Vs) (hl : (gi_oc mi, x, y) ∈ gi_Ml) (ha : n = gi_na y + 1) (hrm : gi_rm mi y = true) (hrv : gi_recv st h y n) (hdec : decode (gi_b mi) pc = .ok (.invokevirtual x, 3)) (hdo : gi_call K (pc + 3) lsA st h cp y n) : gi_G p l e R s m args below meth c D dA b base L xs mi n0 u0 Qw pc lsA st h := by
  have C1 := C0
  obtain ⟨hx, hb, hr, hlocks, hml, hown, hnm, hts, hKK, hNe, hAO, hCa, hX, hbb, hbs, hrf, hrl⟩ := C0
  obtain ⟨hn0, h4, hdo⟩ := hdo
  obtain ⟨rv, h', hdo, hM1, hM2, hM3⟩ := hcp _ _ _ _ hdo
  obtain ⟨hn, hu, hk⟩ := hK _ _ _ _ hdo
  refine ⟨by omega, by omega, fun ls H locs cells slots hst => ?_⟩
  obtain ⟨hR, hL, hS, hc1, hc2⟩ := hst
  obtain ⟨r1, r2⟩ := gi_rm_get hrm
  have hls : ls.size = gi_nL mi := by obtain ⟨-, l2, hl2, -⟩ := hL; exact hl2.1
  have hcat := gi_cats (ad := gi_ad b base) h4
  have fin : ∀ (H1 : Heap) (locs1 : List Loc), gi_Rp D dA b base L xs h' H1 → va_S (fun q => base ≤ q) s.heap H1 locs1 → W p l e R s m args below meth c H1 locs1 (cells + (gi_n h' - gi_n h)) (slots + (gi_u h' - gi_u h)) Qw (F0 m (pc + 3) ls ((rv.map (gi_tr (gi_ad b base))).toList ++ (st.drop n).map (gi_tr (gi_ad b base)))) := by
    intro H1 locs1 hR1 hS1
    have := hk ls H1 locs1 (cells + (gi_n h' - gi_n h)) (slots + (gi_u h' - gi_u h)) ⟨hR1, hL, hS1, by omega, by omega⟩
    rw [gi_opt] at this
    exact this
  have hbnd : cells + (gi_n h' - gi_n h) ≤ R.cells ∧ slots + (gi_u h' - gi_u h) ≤ R.slots := by omega
  obtain ⟨em, rfl, m1, m2, m3⟩ := gi_V_get hy
  obtain ⟨g1, g2, g3, g4, g5⟩ := gi_mb_get m1
  obtain ⟨g6, T, N, hTN⟩ := gi_ib_get m2
  have hcd := gi_cm_Vs _ hy
  have hMet := hM3 (Or.inl hy)
  obtain ⟨av0, hav0, htag⟩ : ∃ z, (st.take n).getLast? = some (.inr (.inr z)) ∧ gi_tag h z = gi_mc em.1 + 1 := by
    unfold gi_recv at hrv
    split at hrv
    · rename_i z hz
      exact ⟨z, hz, hrv⟩
    · exact hrv.elim
  have hci := gi_cl_lt hTN
  obtain ⟨a, rfl, a0, an, at1⟩ := gi_tag_in hR htag (by omega) (by omega)
  obtain ⟨av', hav⟩ : ∃ av', (st.take n).reverse = .inr (.inr (some a)) :: av' := by
    rw [List.getLast?_eq_head?_reverse] at hav0
    cases e : (st.take n).reverse with
    | nil => rw [e] at hav0; cases hav0
    | cons v l => rw [e] at hav0; cases hav0; exact ⟨l, rfl⟩
  have hln : (av'.map (gi_tr (gi_ad b base))).length = gi_na em.1 := by
    have h1 : (st.take n).reverse.length = n := by simp only [List.length_reverse, List.length_take]; omega
    rw [hav, List.length_cons] at h1
    rw [List.length_map]
    omega
  have he := gi_wl_at (dA := dA) (ad := gi_ad b base) a0 an
  rw [gi_E_obj hTN at1] at he
  have hmv : (av'.map (gi_tr (gi_ad b base))) = (av'.map (gi_tr (gi_ad b base))) := rfl
  have hst0 : st.map (gi_tr (gi_ad b base)) = (av'.map (gi_tr (gi_ad b base))).reverse ++ .ref (gi_ad b base a) :: (st.drop n).map (gi_tr (gi_ad b base)) := by
    rw [gi_split (n := n), hav]
    simp [gi_tr, va_rf]
  have hpc : ∀ U : State, U.heap = H → s.WarmedH U.vm → gi_Pc D dA b base L xs ((st.take n).reverse) h (Value.ref (gi_ad b base a) :: av'.map (gi_tr (gi_ad b base))).toArray U := by
    intro U hU hW
    have := gi_pre C1 (av := (st.take n).reverse) hR hS U hU hW
    rw [hav] at this ⊢
    exact this
  rw [hst0]
  exact gi_goes (va_runV (n := gi_na em.1) ⟨hx, hb, hml, hown, hts⟩ hMet ⟨callB_of (gi_na em.1) hts (gi_goodm hcd) rfl rfl rfl (hts _ g1) (hts _ (gi_Ml_get hl)) ⟨g2.1, g2.2, g4⟩ ⟨by show gi_rf em.1 + 1 ≤ _; omega, by show 8 + (gi_nL em.1 + 11) + gi_rl em.1 ≤ _; omega⟩, hts _ g6, hts _ m3⟩ ⟨gi_blind, va_recv hKK hR.1 hTN he, hpc⟩ rfl hln hls rfl (lv_room hcat) hdec hbnd) hS fin
theorem gs_special {p : Program} {l : Launch} {e : Env} {R : Room} {s : State} {m : MethodId} {args : Array Value} {below : List Frame} {meth : Method} {c : Code} {D : va_G} {dA : Nat → ClassId} {b base L : Nat} {xs : Nat → Int32} {mi n0 u0 : Nat} {Qw : State → Prop} (C0 : gi_Cx D dA b base L xs p R s m args meth c mi) {cp : Nat → List gi_V → gi_H → gi_P → Prop} (hcp : ∀ y av h Q, cp y av h Q → ∃ r h', Q r h' ∧ gi_Ma l D dA b base L xs y av h r h') {K : gi_K} (hK : ∀ pc lsA st h, K pc lsA st h → gi_G p l e R s m args below meth c D dA b base L xs mi n0 u0 Qw pc lsA st h) {pc : Nat} {lsA : gi_L} {st : List gi_V} {h : gi_H} {x y n : Nat} (hy : y ∈ gi_Is) (hl : (gi_oc mi, x, y) ∈ gi_Ml ∨ (gi_oc mi, x, y) ∈ gi_Mn) (ha : n = gi_na y + 1) (hrm : gi_rm mi y = true) (hrv : gi_recv st h y n) (hdec : decode (gi_b mi) pc = .ok (.invokespecial x, 3)) (hdo : gi_call K (pc + 3) lsA st h cp y n) : gi_G p l e R s m args below meth c D dA b base L xs mi n0 u0 Qw pc lsA st h := by
  have C1 := C0
  obtain ⟨hx, hb, hr, hlocks, hml, hown, hnm, hts, hKK, hNe, hAO, hCa, hX, hbb, hbs, hrf, hrl⟩ := C0
  obtain ⟨hn0, h4, hdo⟩ := hdo
  obtain ⟨rv, h', hdo, hM1, hM2, hM3⟩ := hcp _ _ _ _ hdo
  obtain ⟨hn, hu, hk⟩ := hK _ _ _ _ hdo
  refine ⟨by omega, by omega, fun ls H locs cells slots hst => ?_⟩
  obtain ⟨hR, hL, hS, hc1, hc2⟩ := hst
  obtain ⟨r1, r2⟩ := gi_rm_get hrm
  have hls : ls.size = gi_nL mi := by obtain ⟨-, l2, hl2, -⟩ := hL; exact hl2.1
  have hcat := gi_cats (ad := gi_ad b base) h4
  have fin : ∀ (H1 : Heap) (locs1 : List Loc), gi_Rp D dA b base L xs h' H1 → va_S (fun q => base ≤ q) s.heap H1 locs1 → W p l e R s m args below meth c H1 locs1 (cells + (gi_n h' - gi_n h)) (slots + (gi_u h' - gi_u h)) Qw (F0 m (pc + 3) ls ((rv.map (gi_tr (gi_ad b base))).toList ++ (st.drop n).map (gi_tr (gi_ad b base)))) := by
    intro H1 locs1 hR1 hS1
    have := hk ls H1 locs1 (cells + (gi_n h' - gi_n h)) (slots + (gi_u h' - gi_u h)) ⟨hR1, hL, hS1, by omega, by omega⟩
    rw [gi_opt] at this
    exact this
  have hbnd : cells + (gi_n h' - gi_n h) ≤ R.cells ∧ slots + (gi_u h' - gi_u h) ≤ R.slots := by omega
  obtain ⟨em, rfl, m1, m2, m3, m4⟩ := gi_I_get hy
  obtain ⟨g1, g2, g3, g4, g5⟩ := gi_mb_get m1
  obtain ⟨g6, T, N, hTN⟩ := gi_ib_get m2
  have hcd := gi_cm_Is _ hy
  have hMet := hM3 (Or.inr (Or.inr hy))
  have hwm : gi_wm em.1 = Jvm.Cond.code (gi_y em.1) (gi_b em.1) (gi_nL em.1) none :: gi_ws := by unfold gi_wm; rw [m4]
  obtain ⟨av0, hav0, htag⟩ : ∃ z, (st.take n).getLast? = some (.inr (.inr z)) ∧ gi_tag h z = gi_mc em.1 + 1 := by
    unfold gi_recv at hrv
    split at hrv
    · rename_i z hz
      exact ⟨z, hz, hrv⟩
    · exact hrv.elim
  have hci := gi_cl_lt hTN
  obtain ⟨a, rfl, a0, an, at1⟩ := gi_tag_in hR htag (by omega) (by omega)
  obtain ⟨av', hav⟩ : ∃ av', (st.take n).reverse = .inr (.inr (some a)) :: av' := by
    rw [List.getLast?_eq_head?_reverse] at hav0
    cases e : (st.take n).reverse with
    | nil => rw [e] at hav0; cases hav0
    | cons v l => rw [e] at hav0; cases hav0; exact ⟨l, rfl⟩
  have hln : (av'.map (gi_tr (gi_ad b base))).length = gi_na em.1 := by
    have h1 : (st.take n).reverse.length = n := by simp only [List.length_reverse, List.length_take]; omega
    rw [hav, List.length_cons] at h1
    rw [List.length_map]
    omega
  have he := gi_wl_at (dA := dA) (ad := gi_ad b base) a0 an
  rw [gi_E_obj hTN at1] at he
  have hmv : (av'.map (gi_tr (gi_ad b base))) = (av'.map (gi_tr (gi_ad b base))) := rfl
  have hst0 : st.map (gi_tr (gi_ad b base)) = (av'.map (gi_tr (gi_ad b base))).reverse ++ .ref (gi_ad b base a) :: (st.drop n).map (gi_tr (gi_ad b base)) := by
    rw [gi_split (n := n), hav]
    simp [gi_tr, va_rf]
  have hpc : ∀ U : State, U.heap = H → s.WarmedH U.vm → gi_Pc D dA b base L xs ((st.take n).reverse) h (Value.ref (gi_ad b base a) :: av'.map (gi_tr (gi_ad b base))).toArray U := by
    intro U hU hW
    have := gi_pre C1 (av := (st.take n).reverse) hR hS U hU hW
    rw [hav] at this ⊢
    exact this
  rw [hst0]
  rcases hl with hl | hl
  · exact gi_goes (va_runI (n := gi_na em.1) ⟨hx, hb, hml, hown, hts⟩ hMet ⟨callB_of (gi_na em.1) hts (gi_goodm hcd) hwm rfl rfl (hts _ g1) (hts _ (gi_Ml_get hl)) ⟨g2.1, g2.2, g4⟩ ⟨by show gi_rf em.1 + 1 ≤ _; omega, by show 8 + (gi_nL em.1 + 11) + gi_rl em.1 ≤ _; omega⟩, m3, hts _ g6⟩ ⟨gi_blind, hpc⟩ rfl hln hls rfl (lv_room hcat) hdec hbnd) hS fin
  · exact gi_goes (va_runIN (n := gi_na em.1) ⟨hx, hb, hml, hown, hts⟩ hMet ⟨va_cnB (gi_na em.1) hts (gi_goodm hcd) hwm rfl rfl (hNe _ (gi_Mn_get hl)) (hts _ g1) ⟨g2.1, g2.2, g4⟩ ⟨by show gi_rf em.1 + 1 ≤ _; omega, by show 8 + (gi_nL em.1 + 11) + gi_rl em.1 ≤ _; omega⟩, m3, hts _ g6⟩ ⟨gi_blind, hpc⟩ rfl hln hls rfl (lv_room hcat) hdec hbnd) hS fin

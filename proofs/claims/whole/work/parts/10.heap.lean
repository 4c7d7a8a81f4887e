/-! the cases that read or change the heap -/
theorem gi_par : gi_cl.all (fun q => (List.range q.2.2).all (fun k => gi_isr (parseFieldDescriptor (q.2.1 k).2.2.1) || decide (parseFieldDescriptor (q.2.1 k).2.2.1 = some .int))) = true := by decide +kernel
theorem gi_kx_at : ∀ ci, ci < 9 → ∃ e, e ∈ gi_kx ∧ e.1 = ci := by
  intro ci hci
  have h : ∀ ci, ci < 9 → (gi_kx.any (fun e => e.1 == ci)) = true := by decide +kernel
  obtain ⟨e, he, h2⟩ := List.any_eq_true.mp (h ci hci)
  exact ⟨e, he, by simpa using h2⟩
theorem gi_cl_lt {ci : Nat} {q : vw_C} (h : gi_cl[ci]? = some q) : ci < 9 := (List.getElem?_eq_some_iff.mp h).1
/-- what is known of a class -/
theorem gi_cls_get {ci : Nat} {C : String} {T : u_T} {N : Nat} (h : gi_cl[ci]? = some (C, T, N)) : (∀ w ∈ u_ws C T N, w ∈ gi_ws) ∧ Jvm.Cond.instantiable C N ∈ gi_ws ∧ Jvm.Cond.initialized C ∈ gi_ws ∧ (∀ a, a < N → ∀ b, b < N → a ≠ b → (T a).2.1 ≠ (T b).2.1) ∧ (∀ k, k < N → (T k).1 = C) ∧ (∀ k, k < N → (gi_isr (parseFieldDescriptor (T k).2.2.1) = true ∨ parseFieldDescriptor (T k).2.2.1 = some .int)) := by
  obtain ⟨e, he, rfl⟩ := gi_kx_at ci (gi_cl_lt h)
  have h1 := List.all_eq_true.mp gi_ok_cl e he
  have h2 := List.all_eq_true.mp gi_par (C, T, N) (List.mem_of_getElem? h)
  unfold gi_kb at h1
  rw [h] at h1
  simp only [Bool.and_eq_true, decide_eq_true_eq, List.all_eq_true, List.mem_range, Bool.or_eq_true] at h1 h2
  obtain ⟨⟨⟨⟨h3, h4⟩, h5⟩, h6⟩, h7⟩ := h1
  refine ⟨fun w hw => ?_, gi_at_in h3, gi_at_in h4, h7, fun k hk => (h6 k hk).2, h2⟩
  obtain ⟨k, hk, rfl⟩ := List.mem_map.mp hw
  exact gi_at_in (h6 k (List.mem_range.mp hk)).1
theorem gi_F_get {o x ci f : Nat} (h : (o, x, ci, f) ∈ gi_F) : ∃ C T N, gi_cl[ci]? = some (C, T, N) ∧ f / 2 < N ∧ Jvm.Cond.fieldLink (gi_ow o) x C (T (f / 2)).2.1 (T (f / 2)).2.2.1 ∈ gi_ws ∧ (f % 2 = 1 → gi_isr (parseFieldDescriptor (T (f / 2)).2.2.1) = true) ∧ (¬ f % 2 = 1 → parseFieldDescriptor (T (f / 2)).2.2.1 = some .int) := by
  rw [← gi_x_F] at h
  obtain ⟨⟨e, j⟩, he, h1⟩ := List.mem_map.mp h
  have h2 := List.all_eq_true.mp gi_ok_F _ he
  have h1 : e = (o, x, ci, f) := h1
  subst h1
  unfold gi_Fb at h2
  split at h2
  · rename_i C T N hc
    simp only [Bool.and_eq_true, decide_eq_true_eq] at h2
    obtain ⟨⟨⟨h3, h4⟩, h5⟩, h6⟩ := h2
    refine ⟨C, T, N, hc, by have h3' := h3; simp only [Nat.blt, Nat.ble_eq] at h3'; omega, gi_at_in h5, fun q => ?_, fun q => ?_⟩
    · have q' : Nat.beq (f % 2) 1 = true := by rw [q]; rfl
      rw [q'] at h6
      exact h6
    · have q' : Nat.beq (f % 2) 1 = false := by
        cases hq : Nat.beq (f % 2) 1 with
        | false => rfl
        | true => exact absurd (Nat.eq_of_beq_eq_true hq) q
      rw [q'] at h6
      simpa using h6
  · cases h2
theorem gi_E_obj {dA : Nat → ClassId} {ad : Nat → Nat} {h : gi_H} {a ci : Nat} {C : String} {T : u_T} {N : Nat} (hc : gi_cl[ci]? = some (C, T, N)) (ht : (gi_c h a).1 = ci + 1) : gi_E dA ad h a = .inr (ci, (List.range N).map (gi_fv ad h a ci)) := by
  have h9 := gi_cl_lt hc
  have hnf : gi_nf ci = N := by unfold gi_nf; rw [hc]
  unfold gi_E
  rw [if_pos (by omega), ht, Nat.add_sub_cancel, hnf]
theorem gi_E_arr {dA : Nat → ClassId} {ad : Nat → Nat} {h : gi_H} {a t : Nat} (ht : (gi_c h a).1 = 100 + t) (h3 : t < 3) : gi_E dA ad h a = .inl (dA t, (gi_c h a).2, .inl (gi_I h a)) := by
  unfold gi_E
  rw [if_neg (by omega), if_pos (by omega), ht, Nat.add_sub_cancel_left]
theorem gi_E_rar {dA : Nat → ClassId} {ad : Nat → Nat} {h : gi_H} {a t : Nat} (ht : (gi_c h a).1 = 100 + t) (h3 : 2 < t) : gi_E dA ad h a = .inl (dA t, (gi_c h a).2, .inr (.inr (.inr (.inr (fun i => (gi_R h a i).map ad))))) := by
  unfold gi_E
  rw [if_neg (by omega), if_neg (by omega), ht, Nat.add_sub_cancel_left]
theorem gi_fv_ref {ad : Nat → Nat} {h : gi_H} {a ci k : Nat} {C : String} {T : u_T} {N : Nat} (hc : gi_cl[ci]? = some (C, T, N)) (hr : gi_isr (parseFieldDescriptor (T k).2.2.1) = true) : gi_fv ad h a ci k = va_rf ((gi_R h a k).map ad) := by
  unfold gi_fv gi_fr
  rw [hc]
  exact if_pos hr
theorem gi_fv_int {ad : Nat → Nat} {h : gi_H} {a ci k : Nat} {C : String} {T : u_T} {N : Nat} (hc : gi_cl[ci]? = some (C, T, N)) (hr : parseFieldDescriptor (T k).2.2.1 = some .int) : gi_fv ad h a ci k = .int (gi_I h a k) := by
  unfold gi_fv gi_fr
  rw [hc]
  exact if_neg (by show ¬ gi_isr (parseFieldDescriptor (T k).2.2.1) = true; rw [hr]; intro q; cases q)
theorem gi_fs_at {f : Nat → Value} {N k : Nat} (hk : k < N) : ((List.range N).map f)[k]? = some (f k) := by
  rw [List.getElem?_map, List.getElem?_range hk]; rfl
theorem gi_fs_set {f g : Nat → Value} {N k : Nat} {v : Value} (hv : g k = v) (hfg : ∀ j, j ≠ k → g j = f j) : ((List.range N).map f).set k v = (List.range N).map g := by
  apply List.ext_getElem?
  intro i
  by_cases hi : i < N
  · rw [gi_fs_at hi]
    by_cases e : i = k
    · subst e
      rw [List.getElem?_set_self (by simpa using hi), hv]
    · rw [List.getElem?_set_ne (Ne.symm e), gi_fs_at hi, hfg i e]
  · rw [List.getElem?_eq_none (by simpa using hi), List.getElem?_eq_none (by simpa using hi)]
theorem gi_I0 {h : gi_H} {a k : Nat} {v : Int32} (h0 : 0 < a) : gi_I (gi_pI h a k v) 0 = gi_I h 0 := by
  funext j
  simp only [gi_I, gi_pI]
  rw [if_neg (by omega)]
theorem gs_getfield {p : Program} {l : Launch} {e : Env} {R : Room} {s : State} {m : MethodId} {args : Array Value} {below : List Frame} {meth : Method} {c : Code} {D : va_G} {dA : Nat → ClassId} {b base L : Nat} {xs : Nat → Int32} {mi n0 u0 : Nat} {Qw : State → Prop} (C0 : gi_Cx D dA b base L xs p R s m args meth c mi) {K : gi_K} (hK : ∀ pc lsA st h, K pc lsA st h → gi_G p l e R s m args below meth c D dA b base L xs mi n0 u0 Qw pc lsA st h) {pc : Nat} {lsA : gi_L} {st : List gi_V} {h : gi_H} {x ci f : Nat} (hl : (gi_oc mi, x, ci, f) ∈ gi_F) (hdec : decode (gi_b mi) pc = .ok (.getfield x, 3)) (hdo : gi_getf K (pc + 3) lsA st h ci f) : gi_G p l e R s m args below meth c D dA b base L xs mi n0 u0 Qw pc lsA st h := by
  obtain ⟨hx, hb, hr, hlocks, hml, hown, hnm, hts, hKK, hNe, hAO, hCa, hX, hbb, hbs, hrf, hrl⟩ := C0
  unfold gi_getf at hdo
  split at hdo
  · rename_i z r
    obtain ⟨htag, hdo⟩ := hdo
    obtain ⟨C, T, N, hc, hk, hw, h1, h2⟩ := gi_F_get hl
    obtain ⟨k1, k2, k3, k4, k5, k6⟩ := gi_cls_get hc
    have hci := gi_cl_lt hc
    have main : ∀ v : gi_V, K (pc + 3) lsA (v :: r) h → (∀ a, z = some a → gi_fv (gi_ad b base) h a ci (f / 2) = gi_tr (gi_ad b base) v) → gi_G p l e R s m args below meth c D dA b base L xs mi n0 u0 Qw pc lsA (.inr (.inr z) :: r) h := by
      intro v hdo hv
      obtain ⟨hn, hu, hk'⟩ := hK _ _ _ _ hdo
      refine ⟨hn, hu, fun ls H locs cells slots hst => ?_⟩
      obtain ⟨a, rfl, h0, ha, ht⟩ := gi_tag_in hst.1 htag (by omega) (by omega)
      have he := gi_wl_at (dA := dA) (ad := gi_ad b base) h0 ha
      rw [gi_E_obj hc ht] at he
      exact va_get hx hb hts k1 hown hKK hst.1.1 (a - 1) he hc (f / 2) hk (hts _ hw) (fun y hy => by rw [k5 _ hk] at hy; exact hy) (by rw [gi_fs_at hk, hv a rfl]) hdec (hk' ls H locs cells slots hst)
    cases hq : Nat.beq (f % 2) 1 with
    | true =>
      rw [hq] at hdo
      refine main _ hdo (fun a ha => ?_)
      subst ha
      exact gi_fv_ref hc (h1 (Nat.eq_of_beq_eq_true hq))
    | false =>
      rw [hq] at hdo
      refine main _ hdo (fun a ha => ?_)
      subst ha
      exact gi_fv_int hc (h2 (fun e => by rw [e] at hq; cases hq))
  · exact hdo.elim
theorem gs_putfield {p : Program} {l : Launch} {e : Env} {R : Room} {s : State} {m : MethodId} {args : Array Value} {below : List Frame} {meth : Method} {c : Code} {D : va_G} {dA : Nat → ClassId} {b base L : Nat} {xs : Nat → Int32} {mi n0 u0 : Nat} {Qw : State → Prop} (C0 : gi_Cx D dA b base L xs p R s m args meth c mi) (hs0 : s.heap.size + 1 = base + n0) {K : gi_K} (hK : ∀ pc lsA st h, K pc lsA st h → gi_G p l e R s m args below meth c D dA b base L xs mi n0 u0 Qw pc lsA st h) {pc : Nat} {lsA : gi_L} {st : List gi_V} {h : gi_H} {x ci f : Nat} (hl : (gi_oc mi, x, ci, f) ∈ gi_F) (hfi : gi_fin mi ci f = true) (how : gi_ow (gi_oc mi) = (gi_y mi).cls) (hdec : decode (gi_b mi) pc = .ok (.putfield x, 3)) (hdo : gi_putf K (pc + 3) lsA st h ci f) : gi_G p l e R s m args below meth c D dA b base L xs mi n0 u0 Qw pc lsA st h := by
  obtain ⟨hx, hb, hr, hlocks, hml, hown, hnm, hts, hKK, hNe, hAO, hCa, hX, hbb, hbs, hrf, hrl⟩ := C0
  unfold gi_putf at hdo
  split at hdo
  · rename_i v z r
    obtain ⟨htag, hf2, hdo⟩ := hdo
    obtain ⟨C, T, N, hc, hk, hw, h1, h2⟩ := gi_F_get hl
    obtain ⟨k1, k2, k3, k4, k5, k6⟩ := gi_cls_get hc
    have hci := gi_cl_lt hc
    obtain ⟨hn, hu, hk'⟩ := hK _ _ _ _ hdo
    refine ⟨hn, hu, fun ls H locs cells slots hst => ?_⟩
    obtain ⟨a, rfl, h0, ha, ht⟩ := gi_tag_in hst.1 htag (by omega) (by omega)
    obtain ⟨hR, hL, hS, hc1, hc2⟩ := hst
    have he := gi_wl_at (dA := dA) (ad := gi_ad b base) h0 ha
    rw [gi_E_obj hc ht] at he
    have hty : ∀ k, k < N → parseFieldDescriptor (T k).2.2.1 = some ((parseFieldDescriptor (T k).2.2.1).getD .int) := fun k hk => by
      rcases k6 k hk with q | q
      · cases e : parseFieldDescriptor (T k).2.2.1 with
        | none => rw [e] at q; cases q
        | some t => rfl
      · rw [q]; rfl
    have hE : (.inr (ci, ((List.range N).map (gi_fv (gi_ad b base) h a ci)).set (f / 2) (gi_tr (gi_ad b base) (.inl v))) : va_E) = gi_E dA (gi_ad b base) (gi_pI h a (f / 2) v) a := by
      rw [gi_E_obj (h := gi_pI h a (f / 2) v) hc ht]
      congr 2
      exact gi_fs_set (by rw [gi_fv_int hc (h2 (by omega))]; simp [gi_I, gi_pI, gi_tr]) (fun j hj => by simp [gi_fv, gi_I, gi_R, gi_pI, gi_pR, hj])
    have fin : ∀ (H1 : Heap) (locs1 : List Loc), va_P D gi_cl ((gi_wl dA (gi_ad b base) h).set (a - 1) (gi_ad b base a, .inr (ci, ((List.range N).map (gi_fv (gi_ad b base) h a ci)).set (f / 2) (gi_tr (gi_ad b base) (.inl v))))) H1 → va_S (fun q => base ≤ q) s.heap H1 locs1 → W p l e R s m args below meth c H1 locs1 cells slots Qw (F0 m (pc + 3) ls (r.map (gi_tr (gi_ad b base)))) := by
      intro H1 locs1 hP1 hS1
      refine gi_size (fun hz => hk' ls H1 locs1 cells slots ⟨gi_Rp_set hR h0 ha rfl rfl (fun x hx => gi_E_pI hx) (gi_I0 h0) (by rw [hE] at hP1; exact hP1) ?_, hL, hS1, hc1, hc2⟩)
      have := hR.2.1
      omega
    have hnar : narrow ((parseFieldDescriptor (T (f / 2)).2.2.1).getD .int) (gi_tr (gi_ad b base) (.inl v)) = gi_tr (gi_ad b base) (.inl v) ∧ fits ((parseFieldDescriptor (T (f / 2)).2.2.1).getD .int) (gi_tr (gi_ad b base) (.inl v)) = true := by
      rw [h2 (by omega)]; exact ⟨rfl, rfl⟩
    have hfl : f / 2 < ((List.range N).map (gi_fv (gi_ad b base) h a ci)).length := by simpa using hk
    cases hfin : (T (f / 2)).2.2.2 with
    | false => exact va_put hx hb hts k1 (fun k => (parseFieldDescriptor (T k).2.2.1).getD .int) hty k4 hown hKK hR.1 gi_D hS (a - 1) he hc (f / 2) hk (hts _ hw) (fun y hy => by rw [k5 _ hk] at hy; exact hy) hfin (hty _ hk) hnar.1 hnar.2 hfl hdec (fun H1 locs1 hP1 _ hS1 => fin H1 locs1 hP1 hS1)
    | true =>
      unfold gi_fin at hfi
      rw [hc] at hfi
      simp only [hfin, Bool.not_true, Bool.false_or, Bool.and_eq_true, decide_eq_true_eq] at hfi
      exact va_putF hx hb hts k1 (fun k => (parseFieldDescriptor (T k).2.2.1).getD .int) hty k4 hown hKK hR.1 gi_D hS (a - 1) he hc (f / 2) hk (hts _ hw) (fun y hy => by rw [k5 _ hk] at hy; exact hy) hfin (hnm hfi.1) (by rw [k5 _ hk, how]; exact hfi.2.symm) (hty _ hk) hnar.1 hnar.2 hfl hdec (fun H1 locs1 hP1 _ hS1 => fin H1 locs1 hP1 hS1)
  · rename_i v z r
    obtain ⟨htag, hf2, hdo⟩ := hdo
    obtain ⟨C, T, N, hc, hk, hw, h1, h2⟩ := gi_F_get hl
    obtain ⟨k1, k2, k3, k4, k5, k6⟩ := gi_cls_get hc
    have hci := gi_cl_lt hc
    obtain ⟨hn, hu, hk'⟩ := hK _ _ _ _ hdo
    refine ⟨hn, hu, fun ls H locs cells slots hst => ?_⟩
    obtain ⟨a, rfl, h0, ha, ht⟩ := gi_tag_in hst.1 htag (by omega) (by omega)
    obtain ⟨hR, hL, hS, hc1, hc2⟩ := hst
    have he := gi_wl_at (dA := dA) (ad := gi_ad b base) h0 ha
    rw [gi_E_obj hc ht] at he
    have hty : ∀ k, k < N → parseFieldDescriptor (T k).2.2.1 = some ((parseFieldDescriptor (T k).2.2.1).getD .int) := fun k hk => by
      rcases k6 k hk with q | q
      · cases e : parseFieldDescriptor (T k).2.2.1 with
        | none => rw [e] at q; cases q
        | some t => rfl
      · rw [q]; rfl
    have hE : (.inr (ci, ((List.range N).map (gi_fv (gi_ad b base) h a ci)).set (f / 2) (gi_tr (gi_ad b base) (.inr (.inr v)))) : va_E) = gi_E dA (gi_ad b base) (gi_pR h a (f / 2) v) a := by
      rw [gi_E_obj (h := gi_pR h a (f / 2) v) hc ht]
      congr 2
      exact gi_fs_set (by rw [gi_fv_ref hc (h1 hf2)]; simp [gi_R, gi_pR, gi_tr]) (fun j hj => by simp [gi_fv, gi_I, gi_R, gi_pI, gi_pR, hj])
    have fin : ∀ (H1 : Heap) (locs1 : List Loc), va_P D gi_cl ((gi_wl dA (gi_ad b base) h).set (a - 1) (gi_ad b base a, .inr (ci, ((List.range N).map (gi_fv (gi_ad b base) h a ci)).set (f / 2) (gi_tr (gi_ad b base) (.inr (.inr v)))))) H1 → va_S (fun q => base ≤ q) s.heap H1 locs1 → W p l e R s m args below meth c H1 locs1 cells slots Qw (F0 m (pc + 3) ls (r.map (gi_tr (gi_ad b base)))) := by
      intro H1 locs1 hP1 hS1
      refine gi_size (fun hz => hk' ls H1 locs1 cells slots ⟨gi_Rp_set hR h0 ha rfl rfl (fun x hx => gi_E_pR hx) (rfl) (by rw [hE] at hP1; exact hP1) ?_, hL, hS1, hc1, hc2⟩)
      have := hR.2.1
      omega
    have hnar : narrow ((parseFieldDescriptor (T (f / 2)).2.2.1).getD .int) (gi_tr (gi_ad b base) (.inr (.inr v))) = gi_tr (gi_ad b base) (.inr (.inr v)) ∧ fits ((parseFieldDescriptor (T (f / 2)).2.2.1).getD .int) (gi_tr (gi_ad b base) (.inr (.inr v))) = true := by
      have h3 := h1 hf2
      cases e : parseFieldDescriptor (T (f / 2)).2.2.1 with
      | none => rw [e] at h3; cases h3
      | some t => rw [e] at h3; cases t <;> first | (cases h3; done) | (cases v <;> exact ⟨rfl, rfl⟩)
    have hfl : f / 2 < ((List.range N).map (gi_fv (gi_ad b base) h a ci)).length := by simpa using hk
    cases hfin : (T (f / 2)).2.2.2 with
    | false => exact va_put hx hb hts k1 (fun k => (parseFieldDescriptor (T k).2.2.1).getD .int) hty k4 hown hKK hR.1 gi_D hS (a - 1) he hc (f / 2) hk (hts _ hw) (fun y hy => by rw [k5 _ hk] at hy; exact hy) hfin (hty _ hk) hnar.1 hnar.2 hfl hdec (fun H1 locs1 hP1 _ hS1 => fin H1 locs1 hP1 hS1)
    | true =>
      unfold gi_fin at hfi
      rw [hc] at hfi
      simp only [hfin, Bool.not_true, Bool.false_or, Bool.and_eq_true, decide_eq_true_eq] at hfi
      exact va_putF hx hb hts k1 (fun k => (parseFieldDescriptor (T k).2.2.1).getD .int) hty k4 hown hKK hR.1 gi_D hS (a - 1) he hc (f / 2) hk (hts _ hw) (fun y hy => by rw [k5 _ hk] at hy; exact hy) hfin (hnm hfi.1) (by rw [k5 _ hk, how]; exact hfi.2.symm) (hty _ hk) hnar.1 hnar.2 hfl hdec (fun H1 locs1 hP1 _ hS1 => fin H1 locs1 hP1 hS1)
  · exact hdo.elim
theorem gi_tys_at {dA : Nat → ClassId} {t : Nat} (h : t < 7) : ∃ ty, (gi_tys dA)[t]? = some (dA t, ty) := by
  match t, h with
  | 0, _ => exact ⟨_, rfl⟩
  | 1, _ => exact ⟨_, rfl⟩
  | 2, _ => exact ⟨_, rfl⟩
  | 3, _ => exact ⟨_, rfl⟩
  | 4, _ => exact ⟨_, rfl⟩
  | 5, _ => exact ⟨_, rfl⟩
  | 6, _ => exact ⟨_, rfl⟩
theorem gi_tys_ref {dA : Nat → ClassId} {t : Nat} (h : t < 7) (h3 : 2 < t) : ∃ r : vw_C, gi_cl[gi_comp.getD t 50]? = some r ∧ (gi_tys dA)[t]? = some (dA t, .object r.1) := by
  match t, h, h3 with
  | 3, _, _ => exact ⟨_, rfl, rfl⟩
  | 4, _, _ => exact ⟨_, rfl, rfl⟩
  | 5, _, _ => exact ⟨_, rfl, rfl⟩
  | 6, _, _ => exact ⟨_, rfl, rfl⟩
theorem gi_arr_ty {dA : Nat → ClassId} {t : Nat} {ty : FieldType} (h : gi_ar[t]? = some ty) : (gi_tys dA)[t]? = some (dA t, ty) := by
  have hl : t < 7 := (List.getElem?_eq_some_iff.mp h).1
  match t, hl, h with
  | 0, _, h => cases h; rfl
  | 1, _, h => cases h; rfl
  | 2, _, h => cases h; rfl
  | 3, _, h => cases h; rfl
  | 4, _, h => cases h; rfl
  | 5, _, h => cases h; rfl
  | 6, _, h => cases h; rfl
theorem gs_iaload {p : Program} {l : Launch} {e : Env} {R : Room} {s : State} {m : MethodId} {args : Array Value} {below : List Frame} {meth : Method} {c : Code} {D : va_G} {dA : Nat → ClassId} {b base L : Nat} {xs : Nat → Int32} {mi n0 u0 : Nat} {Qw : State → Prop} (C0 : gi_Cx D dA b base L xs p R s m args meth c mi) (hs0 : s.heap.size + 1 = base + n0) {K : gi_K} (hK : ∀ pc lsA st h, K pc lsA st h → gi_G p l e R s m args below meth c D dA b base L xs mi n0 u0 Qw pc lsA st h) {pc : Nat} {lsA : gi_L} {st : List gi_V} {h : gi_H}  (hdec : decode (gi_b mi) pc = .ok (.iaload, 1)) (hdo : gi_iald K (pc + 1) lsA st h) : gi_G p l e R s m args below meth c D dA b base L xs mi n0 u0 Qw pc lsA st h := by
  obtain ⟨hx, hb, hr, hlocks, hml, hown, hnm, hts, hKK, hNe, hAO, hCa, hX, hbb, hbs, hrf, hrl⟩ := C0
  unfold gi_iald at hdo
  split at hdo
  · rename_i i z r
    obtain ⟨htag, hin, hdo⟩ := hdo
    obtain ⟨hn, hu, hk⟩ := hK _ _ _ _ hdo
    refine ⟨hn, hu, fun ls H locs cells slots hst => ?_⟩
    have hR := hst.1
    cases z with
    | none => rcases htag with q | q <;> cases q
    | some a =>
      rcases Nat.eq_zero_or_pos a with e | h0
      · subst e
        have hL : gi_len h (some 0) = L := by show (gi_c h 0).2 = L; rw [hR.2.2.2.1]
        rw [hL] at hin
        have hlt : i.toNatClampNeg < L := Nat.not_le.mp fun q => hin (Or.inr q)
        refine va_sld hx hb hX (by omega) (by omega) hst.2.2.1 hin hdec ?_
        have e1 := hR.2.2.2.2.1 _ hlt
        rw [← e1]
        exact hk ls H locs cells slots hst
      · have ha : a < gi_n h := by
          rcases Nat.lt_or_ge a (gi_n h) with q | q
          · exact q
          · have := hR.2.2.2.2.2 a q
            have h2 : gi_tag h (some a) = (gi_c h a).1 := rfl
            omega
        have ht : gi_E dA (gi_ad b base) h a = .inl (dA 0, (gi_c h a).2, .inl (gi_I h a)) := by
          have h2 : gi_tag h (some a) = (gi_c h a).1 := rfl
          unfold gi_E
          rw [if_neg (by omega), if_pos (by omega), show (gi_c h a).1 - 100 = 0 by omega]
        have he := gi_wl_at (dA := dA) (ad := gi_ad b base) h0 ha
        rw [ht] at he
        exact va_iald hx hb hKK hR.1 (a - 1) 0 he rfl hin hdec (hk ls H locs cells slots hst)
  · exact hdo.elim
theorem gs_baload {p : Program} {l : Launch} {e : Env} {R : Room} {s : State} {m : MethodId} {args : Array Value} {below : List Frame} {meth : Method} {c : Code} {D : va_G} {dA : Nat → ClassId} {b base L : Nat} {xs : Nat → Int32} {mi n0 u0 : Nat} {Qw : State → Prop} (C0 : gi_Cx D dA b base L xs p R s m args meth c mi) {K : gi_K} (hK : ∀ pc lsA st h, K pc lsA st h → gi_G p l e R s m args below meth c D dA b base L xs mi n0 u0 Qw pc lsA st h) {pc : Nat} {lsA : gi_L} {st : List gi_V} {h : gi_H}  (hdec : decode (gi_b mi) pc = .ok (.baload, 1)) (hdo : gi_bald K (pc + 1) lsA st h) : gi_G p l e R s m args below meth c D dA b base L xs mi n0 u0 Qw pc lsA st h := by
  obtain ⟨hx, hb, hr, hlocks, hml, hown, hnm, hts, hKK, hNe, hAO, hCa, hX, hbb, hbs, hrf, hrl⟩ := C0
  unfold gi_bald at hdo
  split at hdo
  · rename_i i z r
    obtain ⟨htag, hin, hdo⟩ := hdo
    obtain ⟨hn, hu, hk⟩ := hK _ _ _ _ hdo
    refine ⟨hn, hu, fun ls H locs cells slots hst => ?_⟩
    have hR := hst.1
    rcases htag with htag | htag
    · obtain ⟨a, rfl, h0, ha, ht⟩ := gi_tag_in hR htag (by omega) (by omega)
      have he := gi_wl_at (dA := dA) (ad := gi_ad b base) h0 ha
      rw [gi_E_arr (t := 1) ht (by omega)] at he
      exact va_bald hx hb hKK hR.1 (a - 1) 1 he rfl hin hdec (hk ls H locs cells slots hst)
    · obtain ⟨a, rfl, h0, ha, ht⟩ := gi_tag_in hR htag (by omega) (by omega)
      have he := gi_wl_at (dA := dA) (ad := gi_ad b base) h0 ha
      rw [gi_E_arr (t := 2) ht (by omega)] at he
      exact va_zald hx hb hKK hR.1 (a - 1) 2 he rfl hin hdec (hk ls H locs cells slots hst)
  · exact hdo.elim
theorem gs_aaload {p : Program} {l : Launch} {e : Env} {R : Room} {s : State} {m : MethodId} {args : Array Value} {below : List Frame} {meth : Method} {c : Code} {D : va_G} {dA : Nat → ClassId} {b base L : Nat} {xs : Nat → Int32} {mi n0 u0 : Nat} {Qw : State → Prop} (C0 : gi_Cx D dA b base L xs p R s m args meth c mi) {K : gi_K} (hK : ∀ pc lsA st h, K pc lsA st h → gi_G p l e R s m args below meth c D dA b base L xs mi n0 u0 Qw pc lsA st h) {pc : Nat} {lsA : gi_L} {st : List gi_V} {h : gi_H}  (hdec : decode (gi_b mi) pc = .ok (.aaload, 1)) (hdo : gi_aald K (pc + 1) lsA st h) : gi_G p l e R s m args below meth c D dA b base L xs mi n0 u0 Qw pc lsA st h := by
  obtain ⟨hx, hb, hr, hlocks, hml, hown, hnm, hts, hKK, hNe, hAO, hCa, hX, hbb, hbs, hrf, hrl⟩ := C0
  unfold gi_aald at hdo
  split at hdo
  · rename_i i z r
    obtain ⟨⟨htag, htag2⟩, hin, hdo⟩ := hdo
    obtain ⟨hn, hu, hk⟩ := hK _ _ _ _ hdo
    refine ⟨hn, hu, fun ls H locs cells slots hst => ?_⟩
    have hR := hst.1
    obtain ⟨a, rfl, h0, ha, ht⟩ := gi_tag_in hR (t := gi_tag h z) rfl (by omega) (by omega)
    obtain ⟨t, htt⟩ : ∃ t, gi_tag h (some a) = 100 + t := ⟨gi_tag h (some a) - 100, by omega⟩
    obtain ⟨rc, -, hty⟩ := gi_tys_ref (dA := dA) (t := t) (by omega) (by omega)
    have he := gi_wl_at (dA := dA) (ad := gi_ad b base) h0 ha
    rw [gi_E_rar (t := t) (by omega) (by omega)] at he
    exact va_aldq hx hb hKK hR.1 (a - 1) t he hty hin hdec (hk ls H locs cells slots hst)
  · exact hdo.elim
theorem gs_alen {p : Program} {l : Launch} {e : Env} {R : Room} {s : State} {m : MethodId} {args : Array Value} {below : List Frame} {meth : Method} {c : Code} {D : va_G} {dA : Nat → ClassId} {b base L : Nat} {xs : Nat → Int32} {mi n0 u0 : Nat} {Qw : State → Prop} (C0 : gi_Cx D dA b base L xs p R s m args meth c mi) (hs0 : s.heap.size + 1 = base + n0) {K : gi_K} (hK : ∀ pc lsA st h, K pc lsA st h → gi_G p l e R s m args below meth c D dA b base L xs mi n0 u0 Qw pc lsA st h) {pc : Nat} {lsA : gi_L} {st : List gi_V} {h : gi_H}  (hdec : decode (gi_b mi) pc = .ok (.arraylength, 1)) (hdo : gi_alen K (pc + 1) lsA st h) : gi_G p l e R s m args below meth c D dA b base L xs mi n0 u0 Qw pc lsA st h := by
  obtain ⟨hx, hb, hr, hlocks, hml, hown, hnm, hts, hKK, hNe, hAO, hCa, hX, hbb, hbs, hrf, hrl⟩ := C0
  unfold gi_alen at hdo
  split at hdo
  · rename_i z r
    obtain ⟨⟨htag, htag2⟩, hdo⟩ := hdo
    obtain ⟨hn, hu, hk⟩ := hK _ _ _ _ hdo
    refine ⟨hn, hu, fun ls H locs cells slots hst => ?_⟩
    have hR := hst.1
    cases z with
    | none => exact absurd htag (by show ¬ 98 < 0; omega)
    | some a =>
      have h2 : gi_tag h (some a) = (gi_c h a).1 := rfl
      rcases Nat.eq_zero_or_pos a with e | h0
      · subst e
        have hL : gi_len h (some 0) = L := by show (gi_c h 0).2 = L; rw [hR.2.2.2.1]
        rw [hL] at hk
        have hbl : b < s.heap.size := by omega
        have hbA : ¬ base ≤ b := by omega
        exact va_slen (b := b) hx hb hX hbl hbA hst.2.2.1 hdec (hk ls H locs cells slots hst)
      · have ha : a < gi_n h := by
          rcases Nat.lt_or_ge a (gi_n h) with q | q
          · exact q
          · have := hR.2.2.2.2.2 a q
            omega
        have he := gi_wl_at (dA := dA) (ad := gi_ad b base) h0 ha
        obtain ⟨x, hx1, hx2⟩ : ∃ x : vp_A, gi_E dA (gi_ad b base) h a = .inl (dA ((gi_c h a).1 - 100), x) ∧ x.1 = (gi_c h a).2 := by
          unfold gi_E
          rw [if_neg (by omega)]
          by_cases q : (gi_c h a).1 < 103
          · rw [if_pos q]; exact ⟨_, rfl, rfl⟩
          · rw [if_neg q]; exact ⟨_, rfl, rfl⟩
        obtain ⟨ty, hty⟩ := gi_tys_at (dA := dA) (t := (gi_c h a).1 - 100) (by omega)
        rw [hx1] at he
        exact va_alen hx hb hKK hR.1 (a - 1) _ he hty (by rw [hx2]; rfl) hdec (hk ls H locs cells slots hst)
  · exact hdo.elim
theorem gs_iastore {p : Program} {l : Launch} {e : Env} {R : Room} {s : State} {m : MethodId} {args : Array Value} {below : List Frame} {meth : Method} {c : Code} {D : va_G} {dA : Nat → ClassId} {b base L : Nat} {xs : Nat → Int32} {mi n0 u0 : Nat} {Qw : State → Prop} (C0 : gi_Cx D dA b base L xs p R s m args meth c mi) (hs0 : s.heap.size + 1 = base + n0) {K : gi_K} (hK : ∀ pc lsA st h, K pc lsA st h → gi_G p l e R s m args below meth c D dA b base L xs mi n0 u0 Qw pc lsA st h) {pc : Nat} {lsA : gi_L} {st : List gi_V} {h : gi_H}  (hdec : decode (gi_b mi) pc = .ok (.iastore, 1)) (hdo : gi_iast K (pc + 1) lsA st h) : gi_G p l e R s m args below meth c D dA b base L xs mi n0 u0 Qw pc lsA st h := by
  obtain ⟨hx, hb, hr, hlocks, hml, hown, hnm, hts, hKK, hNe, hAO, hCa, hX, hbb, hbs, hrf, hrl⟩ := C0
  unfold gi_iast at hdo
  split at hdo
  · rename_i v i z r
    obtain ⟨htag, hin, hdo⟩ := hdo
    obtain ⟨hn, hu, hk⟩ := hK _ _ _ _ hdo
    refine ⟨hn, hu, fun ls H locs cells slots hst => ?_⟩
    obtain ⟨a, rfl, h0, ha, ht⟩ := gi_tag_in hst.1 htag (by omega) (by omega)
    obtain ⟨hR, hL, hS, hc1, hc2⟩ := hst
    have he := gi_wl_at (dA := dA) (ad := gi_ad b base) h0 ha
    rw [gi_E_arr (t := 0) ht (by omega)] at he
    refine va_iast hx hb hKK hR.1 gi_D hS (a - 1) 0 he rfl hin hdec (fun H1 locs1 hP1 _ hS1 => gi_size (fun hz => hk ls H1 locs1 cells slots ⟨gi_Rp_set hR h0 ha rfl rfl (fun x hx => gi_E_pI hx) (gi_I0 h0) ?_ ?_, hL, hS1, hc1, hc2⟩))
    · rw [gi_E_arr (t := 0) (h := gi_pI h ((some a).getD 0) i.toNatClampNeg v) ht (by omega)]
      have e1 : gi_I (gi_pI h ((some a).getD 0) i.toNatClampNeg v) a = upd (gi_I h a) i.toNatClampNeg v := by
        funext j
        simp [gi_I, gi_pI, upd] <;> rfl
      rw [e1]
      exact hP1
    · have := hR.2.1
      omega
  · exact hdo.elim
theorem gs_bastore {p : Program} {l : Launch} {e : Env} {R : Room} {s : State} {m : MethodId} {args : Array Value} {below : List Frame} {meth : Method} {c : Code} {D : va_G} {dA : Nat → ClassId} {b base L : Nat} {xs : Nat → Int32} {mi n0 u0 : Nat} {Qw : State → Prop} (C0 : gi_Cx D dA b base L xs p R s m args meth c mi) (hs0 : s.heap.size + 1 = base + n0) {K : gi_K} (hK : ∀ pc lsA st h, K pc lsA st h → gi_G p l e R s m args below meth c D dA b base L xs mi n0 u0 Qw pc lsA st h) {pc : Nat} {lsA : gi_L} {st : List gi_V} {h : gi_H}  (hdec : decode (gi_b mi) pc = .ok (.bastore, 1)) (hdo : gi_bast K (pc + 1) lsA st h) : gi_G p l e R s m args below meth c D dA b base L xs mi n0 u0 Qw pc lsA st h := by
  obtain ⟨hx, hb, hr, hlocks, hml, hown, hnm, hts, hKK, hNe, hAO, hCa, hX, hbb, hbs, hrf, hrl⟩ := C0
  unfold gi_bast at hdo
  split at hdo
  · rename_i v i z r
    obtain ⟨hin, ⟨htag, hdo⟩ | ⟨htag, hdo⟩⟩ := hdo
    · obtain ⟨hn, hu, hk⟩ := hK _ _ _ _ hdo
      refine ⟨hn, hu, fun ls H locs cells slots hst => ?_⟩
      obtain ⟨a, rfl, h0, ha, ht⟩ := gi_tag_in hst.1 htag (by omega) (by omega)
      obtain ⟨hR, hL, hS, hc1, hc2⟩ := hst
      have he := gi_wl_at (dA := dA) (ad := gi_ad b base) h0 ha
      rw [gi_E_arr (t := 1) ht (by omega)] at he
      refine va_bast hx hb hKK hR.1 gi_D hS (a - 1) 1 he rfl hin hdec (fun H1 locs1 hP1 _ hS1 => gi_size (fun hz => hk ls H1 locs1 cells slots ⟨gi_Rp_set hR h0 ha rfl rfl (fun x hx => gi_E_pI hx) (gi_I0 h0) ?_ ?_, hL, hS1, hc1, hc2⟩))
      · rw [gi_E_arr (t := 1) (h := gi_pI h ((some a).getD 0) i.toNatClampNeg v.toInt8.toInt32) ht (by omega)]
        have e1 : gi_I (gi_pI h ((some a).getD 0) i.toNatClampNeg v.toInt8.toInt32) a = upd (gi_I h a) i.toNatClampNeg (vp_nar .byte v) := by
          funext j
          simp [gi_I, gi_pI, upd] <;> rfl
        rw [e1]
        exact hP1
      · have := hR.2.1
        omega
    · obtain ⟨hn, hu, hk⟩ := hK _ _ _ _ hdo
      refine ⟨hn, hu, fun ls H locs cells slots hst => ?_⟩
      obtain ⟨a, rfl, h0, ha, ht⟩ := gi_tag_in hst.1 htag (by omega) (by omega)
      obtain ⟨hR, hL, hS, hc1, hc2⟩ := hst
      have he := gi_wl_at (dA := dA) (ad := gi_ad b base) h0 ha
      rw [gi_E_arr (t := 2) ht (by omega)] at he
      refine va_zast hx hb hKK hR.1 gi_D hS (a - 1) 2 he rfl hin hdec (fun H1 locs1 hP1 _ hS1 => gi_size (fun hz => hk ls H1 locs1 cells slots ⟨gi_Rp_set hR h0 ha rfl rfl (fun x hx => gi_E_pI hx) (gi_I0 h0) ?_ ?_, hL, hS1, hc1, hc2⟩))
      · rw [gi_E_arr (t := 2) (h := gi_pI h ((some a).getD 0) i.toNatClampNeg (v &&& 1)) ht (by omega)]
        have e1 : gi_I (gi_pI h ((some a).getD 0) i.toNatClampNeg (v &&& 1)) a = upd (gi_I h a) i.toNatClampNeg (vp_nar .boolean v) := by
          funext j
          simp [gi_I, gi_pI, upd] <;> rfl
        rw [e1]
        exact hP1
      · have := hR.2.1
        omega
  · exact hdo.elim
theorem gs_aastore {p : Program} {l : Launch} {e : Env} {R : Room} {s : State} {m : MethodId} {args : Array Value} {below : List Frame} {meth : Method} {c : Code} {D : va_G} {dA : Nat → ClassId} {b base L : Nat} {xs : Nat → Int32} {mi n0 u0 : Nat} {Qw : State → Prop} (C0 : gi_Cx D dA b base L xs p R s m args meth c mi) (hs0 : s.heap.size + 1 = base + n0) {K : gi_K} (hK : ∀ pc lsA st h, K pc lsA st h → gi_G p l e R s m args below meth c D dA b base L xs mi n0 u0 Qw pc lsA st h) {pc : Nat} {lsA : gi_L} {st : List gi_V} {h : gi_H}  (hdec : decode (gi_b mi) pc = .ok (.aastore, 1)) (hdo : gi_aast K (pc + 1) lsA st h) : gi_G p l e R s m args below meth c D dA b base L xs mi n0 u0 Qw pc lsA st h := by
  obtain ⟨hx, hb, hr, hlocks, hml, hown, hnm, hts, hKK, hNe, hAO, hCa, hX, hbb, hbs, hrf, hrl⟩ := C0
  unfold gi_aast at hdo
  split at hdo
  · rename_i v i z r
    obtain ⟨⟨htag, htag2⟩, hin, hv, hdo⟩ := hdo
    obtain ⟨hn, hu, hk⟩ := hK _ _ _ _ hdo
    refine ⟨hn, hu, fun ls H locs cells slots hst => ?_⟩
    obtain ⟨a, rfl, h0, ha, ht⟩ := gi_tag_in hst.1 (t := gi_tag h z) rfl (by omega) (by omega)
    obtain ⟨hR, hL, hS, hc1, hc2⟩ := hst
    obtain ⟨t, htt⟩ : ∃ t, gi_tag h (some a) = 100 + t := ⟨gi_tag h (some a) - 100, by omega⟩
    rw [show gi_tag h (some a) - 100 = t by omega] at hv
    obtain ⟨rc, hrc, hty⟩ := gi_tys_ref (dA := dA) (t := t) (by omega) (by omega)
    have he := gi_wl_at (dA := dA) (ad := gi_ad b base) h0 ha
    rw [gi_E_rar (t := t) (by omega) (by omega)] at he
    have fin : ∀ (H1 : Heap) (locs1 : List Loc), va_P D gi_cl ((gi_wl dA (gi_ad b base) h).set (a - 1) (gi_ad b base a, .inl (dA t, (gi_c h a).2, .inr (.inr (.inr (.inr (va_up (fun i => (gi_R h a i).map (gi_ad b base)) i.toNatClampNeg (v.map (gi_ad b base))))))))) H1 → va_S (fun q => base ≤ q) s.heap H1 locs1 → W p l e R s m args below meth c H1 locs1 cells slots Qw (F0 m (pc + 1) ls (r.map (gi_tr (gi_ad b base)))) := by
      intro H1 locs1 hP1 hS1
      refine gi_size (fun hz => hk ls H1 locs1 cells slots ⟨gi_Rp_set hR h0 ha rfl rfl (fun x hx => gi_E_pR hx) rfl ?_ ?_, hL, hS1, hc1, hc2⟩)
      · rw [gi_E_rar (t := t) (h := gi_pR h ((some a).getD 0) i.toNatClampNeg v) (by show (gi_c h a).1 = _; omega) (by omega)]
        have e1 : (fun j => (gi_R (gi_pR h ((some a).getD 0) i.toNatClampNeg v) a j).map (gi_ad b base)) = va_up (fun i => (gi_R h a i).map (gi_ad b base)) i.toNatClampNeg (v.map (gi_ad b base)) := by
          funext j
          by_cases q : j = i.toNatClampNeg
          · subst q; simp [gi_R, gi_pR, va_up]
          · simp [gi_R, gi_pR, va_up, q]
        rw [e1]
        exact hP1
      · have := hR.2.1
        omega
    cases v with
    | none => exact va_astqN hx hb hKK hR.1 gi_D hS (a - 1) t he hty hin hdec (fun H1 locs1 hP1 _ hS1 => fin H1 locs1 hP1 hS1)
    | some w =>
      have hw : gi_tag h (some w) = gi_comp.getD t 50 + 1 := by
        rcases hv with q | q
        · cases q
        · exact q
      have hlt := gi_cl_lt hrc
      obtain ⟨w2, e2, g1, g2, g3⟩ := gi_tag_in hR hw (by omega) (by omega)
      cases e2
      have hev := gi_wl_at (dA := dA) (ad := gi_ad b base) g1 g2
      rw [gi_E_obj (C := rc.1) (T := rc.2.1) (N := rc.2.2) hrc g3] at hev
      exact va_astq hx hb hKK hR.1 gi_D hS (a - 1) t (w - 1) (gi_comp.getD t 50) he hty hev hrc hin hdec (fun H1 locs1 hP1 _ hS1 => fin H1 locs1 hP1 hS1)
  · exact hdo.elim

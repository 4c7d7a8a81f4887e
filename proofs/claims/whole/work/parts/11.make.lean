/-! makings, copies, calls, returns -/
theorem gi_ra_eq {s : State} {c1 c2 : ClassId} {ty : FieldType} (h1 : va_RA s c1 ty) (h2 : va_RA s c2 ty) : c1 = c2 := by
  cases ty with
  | object C =>
    obtain ⟨_, _, _, _, _, q1⟩ := h1
    obtain ⟨_, _, _, _, _, q2⟩ := h2
    exact Option.some.inj (q1.symm.trans q2)
  | _ => exact Option.some.inj (Eq.trans (Eq.symm h1) h2)
theorem gi_K_new {D : va_G} {dA : Nat → ClassId} {s : State} {cA : ClassId} {ty : FieldType} {t : Nat} (hKK : va_K D gi_cl (gi_tys dA) s) (ht : (gi_tys dA)[t]? = some (dA t, ty)) (hK2 : va_K D gi_cl (gi_tys dA ++ [(cA, ty)]) s) : cA = dA t :=
  gi_ra_eq (hK2.2 (gi_tys dA).length (cA, ty) (by rw [List.getElem?_append_right (Nat.le_refl _), Nat.sub_self]; rfl)).2 (hKK.2 t _ ht).2
theorem gi_Cl_get {o x ci N' : Nat} (h : (o, x, ci, N') ∈ gi_Cl) : ∃ C T, gi_cl[ci]? = some (C, T, N') ∧ Jvm.Cond.classLink (gi_ow o) x C ∈ gi_ws := by
  rw [← gi_x_Cl] at h
  obtain ⟨⟨e, j⟩, he, h1⟩ := List.mem_map.mp h
  have h2 := List.all_eq_true.mp gi_ok_Cl _ he
  have h1 : e = (o, x, ci, N') := h1
  subst h1
  unfold gi_Clb at h2
  split at h2
  · rename_i C T N hc
    simp only [Bool.and_eq_true] at h2
    have e := Nat.eq_of_beq_eq_true h2.1
    have e : N = N' := e
    subst e
    exact ⟨C, T, hc, gi_at_in h2.2⟩
  · cases h2
theorem gi_Al_get {o x t : Nat} (h : (o, x, t) ∈ gi_Al) : ∃ C, gi_ar[t]? = some (.object C) ∧ Jvm.Cond.classLink (gi_ow o) x C ∈ gi_ws ∧ C ∈ gi_ao ∧ 2 < t := by
  rw [← gi_x_Al] at h
  obtain ⟨⟨e, j⟩, he, h1⟩ := List.mem_map.mp h
  have h2 := List.all_eq_true.mp gi_ok_Al _ he
  have h1 : e = (o, x, t) := h1
  subst h1
  unfold gi_Alb at h2
  split at h2
  · rename_i C hc
    simp only [Bool.and_eq_true, decide_eq_true_eq] at h2
    have h3 := h2.2
    simp only [Nat.blt, Nat.ble_eq] at h3
    exact ⟨C, hc, gi_at_in h2.1.1, h2.1.2, by omega⟩
  · cases h2
theorem gi_n_new {h : gi_H} {t n u : Nat} : gi_n (gi_new h t n u) = gi_n h + 1 := rfl
theorem gi_u_new {h : gi_H} {t n u : Nat} : gi_u (gi_new h t n u) = gi_u h + u := rfl
theorem gi_c_new {h : gi_H} {t n u : Nat} : gi_c (gi_new h t n u) (gi_n h) = (t, n) := by simp [gi_c, gi_new]
theorem gi_x_words : Jvm.Cond.instanceMethod objectInit ∈ gi_ws ∧ Jvm.Cond.code objectInit ⟨#[0xb1]⟩ 1 none ∈ gi_ws ∧ Jvm.Cond.native arraycopyName ∈ gi_ws ∧ Jvm.Cond.static arraycopyName ∈ gi_ws ∧ Jvm.Cond.initialized "java/lang/System" ∈ gi_ws ∧ Jvm.Cond.arrayClass .int ∈ gi_ws ∧ Jvm.Cond.arrayClass .byte ∈ gi_ws ∧ Jvm.Cond.arrayClass .boolean ∈ gi_ws := by
  have h := gi_ok_x
  simp only [Bool.and_eq_true] at h
  obtain ⟨⟨⟨⟨⟨⟨⟨h1, h2⟩, h3⟩, h4⟩, h5⟩, h6⟩, h7⟩, h8⟩ := h
  exact ⟨gi_at_in h1, gi_at_in h2, gi_at_in h3, gi_at_in h4, gi_at_in h5, gi_at_in h6, gi_at_in h7, gi_at_in h8⟩
theorem gs_new {p : Program} {l : Launch} {e : Env} {R : Room} {s : State} {m : MethodId} {args : Array Value} {below : List Frame} {meth : Method} {c : Code} {D : va_G} {dA : Nat → ClassId} {b base L : Nat} {xs : Nat → Int32} {mi n0 u0 : Nat} {Qw : State → Prop} (C0 : gi_Cx D dA b base L xs p R s m args meth c mi) (hs0 : s.heap.size + 1 = base + n0) {K : gi_K} (hK : ∀ pc lsA st h, K pc lsA st h → gi_G p l e R s m args below meth c D dA b base L xs mi n0 u0 Qw pc lsA st h) {pc : Nat} {lsA : gi_L} {st : List gi_V} {h : gi_H} {x ci N : Nat} (hl : (gi_oc mi, x, ci, N) ∈ gi_Cl) (hdec : decode (gi_b mi) pc = .ok (.new x, 3)) (hdo : gi_newo K (pc + 3) lsA st h ci N) : gi_G p l e R s m args below meth c D dA b base L xs mi n0 u0 Qw pc lsA st h := by
  obtain ⟨hx, hb, hr, hlocks, hml, hown, hnm, hts, hKK, hNe, hAO, hCa, hX, hbb, hbs, hrf, hrl⟩ := C0
  unfold gi_newo at hdo
  obtain ⟨C, T, hc, hw⟩ := gi_Cl_get hl
  obtain ⟨k1, k2, k3, k4, k5, k6⟩ := gi_cls_get hc
  have hci := gi_cl_lt hc
  obtain ⟨hn, hu, hk⟩ := hK _ _ _ _ hdo
  rw [gi_n_new] at hn
  rw [gi_u_new] at hu
  refine ⟨by omega, by omega, fun ls H locs cells slots hst => ?_⟩
  obtain ⟨hR, hL, hS, hc1, hc2⟩ := hst
  have hty : ∀ k, k < N → parseFieldDescriptor (T k).2.2.1 = some ((parseFieldDescriptor (T k).2.2.1).getD .int) := fun k hk => by
    rcases k6 k hk with q | q
    · cases e : parseFieldDescriptor (T k).2.2.1 with
      | none => rw [e] at q; cases q
      | some t => rfl
    · rw [q]; rfl
  have hE : gi_E dA (gi_ad b base) (gi_new h (ci + 1) 0 N) (gi_n h) = .inr (ci, (List.range N).map (gi_fv (gi_ad b base) (gi_new h (ci + 1) 0 N) (gi_n h) ci)) := gi_E_obj hc (by rw [gi_c_new])
  refine va_new hx hb hts k1 (fun k => (parseFieldDescriptor (T k).2.2.1).getD .int) hty hown (hts _ hw) (hts _ k2) (hts _ k3) hKK hR.1 gi_D hS (fun q hq => by show base ≤ q; omega) hc (fs := (List.range N).map (gi_fv (gi_ad b base) (gi_new h (ci + 1) 0 N) (gi_n h) ci)) ?_ (by omega) (by omega) hdec (fun q H1 hP1 hD1 hS1 => gi_size (fun hz => ?_))
  · intro j hj
    unfold vp_V
    rw [List.getD_eq_getElem?_getD, gi_fs_at hj]
    rcases k6 j hj with q | q
    · rw [gi_fv_ref hc q]
      have e1 : gi_R (gi_new h (ci + 1) 0 N) (gi_n h) j = none := by simp [gi_R, gi_new]
      rw [e1]
      cases e : parseFieldDescriptor (T j).2.2.1 with
      | none => rw [e] at q; cases q
      | some t => rw [e] at q; cases t <;> first | (cases q; done) | rfl
    · rw [gi_fv_int hc q]
      have e1 : gi_I (gi_new h (ci + 1) 0 N) (gi_n h) j = 0 := by simp [gi_I, gi_new]
      rw [e1, q]
      rfl
  · rw [← hE] at hP1 hD1
    have hsz := hR.2.1
    obtain ⟨rfl, hR1⟩ := gi_Rp_new hR gi_n_new (fun x hx => by simp [gi_c, gi_new, hx]) (fun x hx => gi_E_new hx) (by have := hR.2.2.1; funext j; simp only [gi_I, gi_new]; rw [if_neg (by omega)]) hP1 hD1 (by omega)
    exact hk ls H1 locs (cells + 1) (slots + N) ⟨hR1, hL, hS1, by rw [gi_n_new]; omega, by rw [gi_u_new]; omega⟩
theorem gs_newarray {p : Program} {l : Launch} {e : Env} {R : Room} {s : State} {m : MethodId} {args : Array Value} {below : List Frame} {meth : Method} {c : Code} {D : va_G} {dA : Nat → ClassId} {b base L : Nat} {xs : Nat → Int32} {mi n0 u0 : Nat} {Qw : State → Prop} (C0 : gi_Cx D dA b base L xs p R s m args meth c mi) (hs0 : s.heap.size + 1 = base + n0) {K : gi_K} (hK : ∀ pc lsA st h, K pc lsA st h → gi_G p l e R s m args below meth c D dA b base L xs mi n0 u0 Qw pc lsA st h) {pc : Nat} {lsA : gi_L} {st : List gi_V} {h : gi_H} {t : Nat} {at_ : ArrayType} {ty : FieldType} (hat : newarray.typeOf at_ = ty) (har : gi_ar[t]? = some ty) (h3 : t < 3) (hdec : decode (gi_b mi) pc = .ok (.newarray at_, 2)) (hdo : gi_newa K (pc + 2) lsA st h t) : gi_G p l e R s m args below meth c D dA b base L xs mi n0 u0 Qw pc lsA st h := by
  obtain ⟨hx, hb, hr, hlocks, hml, hown, hnm, hts, hKK, hNe, hAO, hCa, hX, hbb, hbs, hrf, hrl⟩ := C0
  unfold gi_newa at hdo
  split at hdo
  · rename_i z r
    obtain ⟨h0, h1, hdo⟩ := hdo
    obtain ⟨hn, hu, hk⟩ := hK _ _ _ _ hdo
    rw [gi_n_new] at hn
    rw [gi_u_new] at hu
    refine ⟨by omega, by omega, fun ls H locs cells slots hst => ?_⟩
    obtain ⟨hR, hL, hS, hc1, hc2⟩ := hst
    have fin : ∀ (q : Nat) (cA : ClassId) (ct : vp_A) (H1 : Heap), va_K D gi_cl (gi_tys dA ++ [(cA, ty)]) s → (cA = dA t → (.inl (cA, ct) : va_E) = gi_E dA (gi_ad b base) (gi_new h (100 + t) z.toNatClampNeg z.toNatClampNeg) (gi_n h)) → va_P D gi_cl (gi_wl dA (gi_ad b base) h ++ [(q, .inl (cA, ct))]) H1 → va_D (fun q => base ≤ q) (gi_wl dA (gi_ad b base) h ++ [(q, .inl (cA, ct))]) → va_S (fun q => base ≤ q) s.heap H1 locs → W p l e R s m args below meth c H1 locs (cells + 1) (slots + z.toNatClampNeg) Qw (F0 m (pc + 2) ls (.ref q :: r.map (gi_tr (gi_ad b base)))) := by
      intro q cA ct H1 hK2 hE hP1 hD1 hS1
      refine gi_size (fun hz => ?_)
      rw [hE (gi_K_new hKK (gi_arr_ty har) hK2)] at hP1 hD1
      have hsz := hR.2.1
      obtain ⟨rfl, hR1⟩ := gi_Rp_new hR gi_n_new (fun x hx => by simp [gi_c, gi_new, hx]) (fun x hx => gi_E_new hx) (by have := hR.2.2.1; funext j; simp only [gi_I, gi_new]; rw [if_neg (by omega)]) hP1 hD1 (by omega)
      exact hk ls H1 locs (cells + 1) (slots + z.toNatClampNeg) ⟨hR1, hL, hS1, by rw [gi_n_new]; omega, by rw [gi_u_new]; omega⟩
    have hI0 : gi_I (gi_new h (100 + t) z.toNatClampNeg z.toNatClampNeg) (gi_n h) = fun _ => 0 := by funext j; simp [gi_I, gi_new]
    have hcomp : ty = .int ∨ ty = .byte ∨ ty = .boolean := by
      match t, h3, har with
      | 0, _, har => cases har; exact Or.inl rfl
      | 1, _, har => cases har; exact Or.inr (Or.inl rfl)
      | 2, _, har => cases har; exact Or.inr (Or.inr rfl)
    have hwd : Jvm.Cond.arrayClass (newarray.typeOf at_) ∈ gi_ws := by
      rw [hat]
      obtain ⟨-, -, -, -, -, w1, w2, w3⟩ := gi_x_words
      rcases hcomp with rfl | rfl | rfl
      · exact w1
      · exact w2
      · exact w3
    refine va_newa hx hb (hts _ hwd) hat hKK hR.1 gi_D hS (fun q hq => by show base ≤ q; omega) (a0 := (z.toNatClampNeg, .inl (fun _ => 0))) ?_ h0 rfl ?_ (by omega) (by omega) hdec (fun q cA H1 hK2 hP1 hD1 hS1 => fin q cA _ H1 hK2 (fun e => ?_) hP1 hD1 hS1)
    · intro cA
      rcases hcomp with rfl | rfl | rfl <;> rfl
    · rcases hcomp with rfl | rfl | rfl <;> simp only [componentBytes] <;> omega
    · rw [gi_E_arr (t := t) (by rw [gi_c_new]) h3, gi_c_new, hI0, e]
  · exact hdo.elim
theorem gs_anewarray {p : Program} {l : Launch} {e : Env} {R : Room} {s : State} {m : MethodId} {args : Array Value} {below : List Frame} {meth : Method} {c : Code} {D : va_G} {dA : Nat → ClassId} {b base L : Nat} {xs : Nat → Int32} {mi n0 u0 : Nat} {Qw : State → Prop} (C0 : gi_Cx D dA b base L xs p R s m args meth c mi) (hs0 : s.heap.size + 1 = base + n0) {K : gi_K} (hK : ∀ pc lsA st h, K pc lsA st h → gi_G p l e R s m args below meth c D dA b base L xs mi n0 u0 Qw pc lsA st h) {pc : Nat} {lsA : gi_L} {st : List gi_V} {h : gi_H} {t x : Nat} {C : String} {ty : FieldType} (hty : ty = .object C) (har : gi_ar[t]? = some ty) (hw : Jvm.Cond.classLink (gi_ow (gi_oc mi)) x C ∈ gi_ws) (hC : C ∈ gi_ao) (h3 : 2 < t) (hdec : decode (gi_b mi) pc = .ok (.anewarray x, 3)) (hdo : gi_newa K (pc + 3) lsA st h t) : gi_G p l e R s m args below meth c D dA b base L xs mi n0 u0 Qw pc lsA st h := by
  obtain ⟨hx, hb, hr, hlocks, hml, hown, hnm, hts, hKK, hNe, hAO, hCa, hX, hbb, hbs, hrf, hrl⟩ := C0
  unfold gi_newa at hdo
  split at hdo
  · rename_i z r
    obtain ⟨h0, h1, hdo⟩ := hdo
    obtain ⟨hn, hu, hk⟩ := hK _ _ _ _ hdo
    rw [gi_n_new] at hn
    rw [gi_u_new] at hu
    refine ⟨by omega, by omega, fun ls H locs cells slots hst => ?_⟩
    obtain ⟨hR, hL, hS, hc1, hc2⟩ := hst
    have fin : ∀ (q : Nat) (cA : ClassId) (ct : vp_A) (H1 : Heap), va_K D gi_cl (gi_tys dA ++ [(cA, ty)]) s → (cA = dA t → (.inl (cA, ct) : va_E) = gi_E dA (gi_ad b base) (gi_new h (100 + t) z.toNatClampNeg z.toNatClampNeg) (gi_n h)) → va_P D gi_cl (gi_wl dA (gi_ad b base) h ++ [(q, .inl (cA, ct))]) H1 → va_D (fun q => base ≤ q) (gi_wl dA (gi_ad b base) h ++ [(q, .inl (cA, ct))]) → va_S (fun q => base ≤ q) s.heap H1 locs → W p l e R s m args below meth c H1 locs (cells + 1) (slots + z.toNatClampNeg) Qw (F0 m (pc + 3) ls (.ref q :: r.map (gi_tr (gi_ad b base)))) := by
      intro q cA ct H1 hK2 hE hP1 hD1 hS1
      refine gi_size (fun hz => ?_)
      rw [hE (gi_K_new hKK (gi_arr_ty har) hK2)] at hP1 hD1
      have hsz := hR.2.1
      obtain ⟨rfl, hR1⟩ := gi_Rp_new hR gi_n_new (fun x hx => by simp [gi_c, gi_new, hx]) (fun x hx => gi_E_new hx) (by have := hR.2.2.1; funext j; simp only [gi_I, gi_new]; rw [if_neg (by omega)]) hP1 hD1 (by omega)
      exact hk ls H1 locs (cells + 1) (slots + z.toNatClampNeg) ⟨hR1, hL, hS1, by rw [gi_n_new]; omega, by rw [gi_u_new]; omega⟩
    subst hty
    refine va_newq hx hb hown (hts _ hw) (hAO _ hC) hKK hR.1 gi_D hS (fun q hq => by show base ≤ q; omega) h0 rfl (by omega) (by omega) (by omega) hdec (fun q cA H1 hK2 hP1 hD1 hS1 => fin q cA _ H1 hK2 (fun e => ?_) hP1 hD1 hS1)
    rw [gi_E_rar (t := t) (by rw [gi_c_new]) h3, gi_c_new, e]
    have e1 : (fun i => (gi_R (gi_new h (100 + t) z.toNatClampNeg z.toNatClampNeg) (gi_n h) i).map (gi_ad b base)) = fun _ => none := by funext j; simp [gi_R, gi_new]
    rw [e1]
  · exact hdo.elim
theorem gi_cats {ad : Nat → Nat} {r : List gi_V} (h : r.length ≤ 4) : ((r.map (gi_tr ad)).map fun v => v.category).sum ≤ 8 := by
  have key : ∀ (l : List gi_V), ((l.map (gi_tr ad)).map fun v => v.category).sum ≤ 2 * l.length := by
    intro l
    induction l with
    | nil => simp
    | cons v l ih =>
      simp only [List.map_cons, List.sum_cons, List.length_cons]
      have : (gi_tr ad v).category ≤ 2 := by
        rcases v with x | x | x
        · exact Nat.le_succ 1
        · exact Nat.le_refl 2
        · cases x <;> exact Nat.le_succ 1
      omega
  have := key r
  omega
theorem gs_acpy {p : Program} {l : Launch} {e : Env} {R : Room} {s : State} {m : MethodId} {args : Array Value} {below : List Frame} {meth : Method} {c : Code} {D : va_G} {dA : Nat → ClassId} {b base L : Nat} {xs : Nat → Int32} {mi n0 u0 : Nat} {Qw : State → Prop} (C0 : gi_Cx D dA b base L xs p R s m args meth c mi) (hs0 : s.heap.size + 1 = base + n0) {K : gi_K} (hK : ∀ pc lsA st h, K pc lsA st h → gi_G p l e R s m args below meth c D dA b base L xs mi n0 u0 Qw pc lsA st h) {pc : Nat} {lsA : gi_L} {st : List gi_V} {h : gi_H} {x : Nat} (hw : Jvm.Cond.methodLink (gi_ow (gi_oc mi)) x arraycopyName ∈ gi_ws) (h1 : 1 ≤ gi_rf mi) (h2 : 32 ≤ gi_rl mi) (hdec : decode (gi_b mi) pc = .ok (.invokestatic x, 3)) (hdo : gi_acpy K (pc + 3) lsA st h) : gi_G p l e R s m args below meth c D dA b base L xs mi n0 u0 Qw pc lsA st h := by
  obtain ⟨hx, hb, hr, hlocks, hml, hown, hnm, hts, hKK, hNe, hAO, hCa, hX, hbb, hbs, hrf, hrl⟩ := C0
  unfold gi_acpy at hdo
  split at hdo
  · rename_i n dp y sp z r
    obtain ⟨ht1, ht2, q1, q2, q3, q4, q5, q6, hdo⟩ := hdo
    obtain ⟨hn, hu, hk⟩ := hK _ _ _ _ hdo
    refine ⟨hn, hu, fun ls H locs cells slots hst => ?_⟩
    obtain ⟨a, rfl, a0, an, at1⟩ := gi_tag_in hst.1 ht1 (by omega) (by omega)
    obtain ⟨a', rfl, a0', an', at1'⟩ := gi_tag_in hst.1 ht2 (by omega) (by omega)
    obtain ⟨hR, hL, hS, hc1, hc2⟩ := hst
    obtain ⟨-, -, w1, w2, w3, -⟩ := gi_x_words
    have he := gi_wl_at (dA := dA) (ad := gi_ad b base) a0 an
    rw [gi_E_arr (t := 0) at1 (by omega)] at he
    have he' := gi_wl_at (dA := dA) (ad := gi_ad b base) a0' an'
    rw [gi_E_arr (t := 0) at1' (by omega)] at he'
    have hls : c.maxLocals = ls.size := by rw [hml]; obtain ⟨-, l2, hl2, -⟩ := hL; exact hl2.1.symm
    have hcat := gi_cats (ad := gi_ad b base) q6
    refine va_copyi hx hb hls hown (hts _ hw) (hts _ w1) (hts _ w2) (hts _ w3) hKK hR.1 gi_D hS (a - 1) (a' - 1) 0 0 he he' rfl rfl rfl q1 q2 q3 q4 q5 (fun i _ => rfl) (by omega) ?_ hdec (fun H1 locs1 hP1 _ hS1 => gi_size (fun hz => hk ls H1 locs1 cells slots ⟨gi_Rp_set hR a0' an' rfl rfl (fun x hx => gi_E_cpy hx) ?_ ?_ ?_, hL, hS1, hc1, hc2⟩))
    · have e1 : nativeFrameWords "java/lang/System" "arraycopy" 5 = 7 := by decide
      rw [e1]
      omega
    · funext j
      simp only [gi_I, gi_cpy, Option.getD_some]
      rw [if_neg (by omega)]
    · rw [gi_E_arr (t := 0) (h := gi_cpy h ((some a).getD 0) ((some a').getD 0) sp.toNatClampNeg dp.toNatClampNeg n.toNatClampNeg) at1' (by omega)]
      have e1 : gi_I (gi_cpy h ((some a).getD 0) ((some a').getD 0) sp.toNatClampNeg dp.toNatClampNeg n.toNatClampNeg) a' = va_cpy (gi_I h a) (gi_I h a') sp.toNatClampNeg dp.toNatClampNeg n.toNatClampNeg := by
        funext j
        simp [gi_I, gi_cpy, va_cpy]
      rw [e1]
      exact hP1
    · have := hR.2.1
      omega
  · exact hdo.elim
theorem gs_objInit {p : Program} {l : Launch} {e : Env} {R : Room} {s : State} {m : MethodId} {args : Array Value} {below : List Frame} {meth : Method} {c : Code} {D : va_G} {dA : Nat → ClassId} {b base L : Nat} {xs : Nat → Int32} {mi n0 u0 : Nat} {Qw : State → Prop} (C0 : gi_Cx D dA b base L xs p R s m args meth c mi) {K : gi_K} (hK : ∀ pc lsA st h, K pc lsA st h → gi_G p l e R s m args below meth c D dA b base L xs mi n0 u0 Qw pc lsA st h) {pc : Nat} {lsA : gi_L} {st : List gi_V} {h : gi_H} {x : Nat} (hw : Jvm.Cond.methodLink (gi_ow (gi_oc mi)) x objectInit ∈ gi_ws) (h1 : 1 ≤ gi_rf mi) (h2 : 20 ≤ gi_rl mi) (hdec : decode (gi_b mi) pc = .ok (.invokespecial x, 3)) (hdo : (match st with
  | .inr (.inr (some _)) :: r => r.length ≤ 4 ∧ K (pc + 3) lsA r h
  | _ => False)) : gi_G p l e R s m args below meth c D dA b base L xs mi n0 u0 Qw pc lsA st h := by
  obtain ⟨hx, hb, hr, hlocks, hml, hown, hnm, hts, hKK, hNe, hAO, hCa, hX, hbb, hbs, hrf, hrl⟩ := C0
  split at hdo
  · rename_i a r
    obtain ⟨q6, hdo⟩ := hdo
    obtain ⟨hn, hu, hk⟩ := hK _ _ _ _ hdo
    refine ⟨hn, hu, fun ls H locs cells slots hst => ?_⟩
    obtain ⟨w1, w2, -⟩ := gi_x_words
    have hls : ls.size = c.maxLocals := by rw [hml]; obtain ⟨-, l2, hl2, -⟩ := hst.2.1; exact hl2.1
    have hcat := gi_cats (ad := gi_ad b base) q6
    exact W.objInit hx hb hown (hts _ hw) (hts _ w1) (hts _ w2) rfl hls rfl hdec (by omega) (by show 2 * 0 + _ + 12 ≤ _; omega) (hk ls H locs cells slots hst)
  · exact hdo.elim

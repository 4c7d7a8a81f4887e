/-! Arrays.copyOf(byte[], int): its contract, by hand -/
theorem gi_cw0 : Jvm.Cond.methodLink "java/util/Arrays" 310 ⟨"[B", "clone", "()Ljava/lang/Object;"⟩ ∈ gi_ws := gi_at_in (j := 514) (by decide +kernel)
theorem gi_cw1 : Jvm.Cond.sameMethod "[B" "java/lang/Object" "clone" "()Ljava/lang/Object;" ∈ gi_ws := gi_at_in (j := 515) (by decide +kernel)
theorem gi_cw2 : Jvm.Cond.native ⟨"java/lang/Object", "clone", "()Ljava/lang/Object;"⟩ ∈ gi_ws := gi_at_in (j := 516) (by decide +kernel)
theorem gi_cw3 : Jvm.Cond.instanceMethod ⟨"java/lang/Object", "clone", "()Ljava/lang/Object;"⟩ ∈ gi_ws := gi_at_in (j := 517) (by decide +kernel)
theorem gi_cw4 : Jvm.Cond.selects "[B" ⟨"[B", "clone", "()Ljava/lang/Object;"⟩ ⟨"java/lang/Object", "clone", "()Ljava/lang/Object;"⟩ ∈ gi_ws := gi_at_in (j := 518) (by decide +kernel)
theorem gi_cw5 : Jvm.Cond.classLink "java/util/Arrays" 311 "[B" ∈ gi_ws := gi_at_in (j := 520) (by decide +kernel)
theorem gi_cw6 : Jvm.Cond.methodLink "java/util/Arrays" 304 ⟨"java/lang/Math", "min", "(II)I"⟩ ∈ gi_ws := gi_at_in (j := 521) (by decide +kernel)
theorem gi_cw7 : Jvm.Cond.methodLink "java/util/Arrays" 150 arraycopyName ∈ gi_ws := gi_at_in (j := 522) (by decide +kernel)
theorem gi_cell_eq {cA : ClassId} {n : Nat} {f g : Nat → Int32} (h : ∀ j, j < n → f j = g j) : vp_cell cA (n, .inl f) = vp_cell cA (n, .inl g) := by
  show arrV cA n (fun j => .int (f j)) = arrV cA n (fun j => .int (g j))
  unfold arrV
  congr 2
  funext j
  exact congrArg Value.int (h j.val j.isLt)
theorem gi_c_cpy {h : gi_H} {a0 a1 sp dp n : Nat} : gi_c (gi_cpy h a0 a1 sp dp n) = gi_c h := rfl
theorem gs_clone {p : Program} {l : Launch} {e : Env} {R : Room} {s : State} {m : MethodId} {args : Array Value} {below : List Frame} {meth : Method} {c : Code} {D : va_G} {dA : Nat → ClassId} {b base L : Nat} {xs : Nat → Int32} {mi n0 u0 : Nat} {Qw : State → Prop} (C0 : gi_Cx D dA b base L xs p R s m args meth c mi) (hs0 : s.heap.size + 1 = base + n0) {K : gi_K} (hK : ∀ pc lsA st h, K pc lsA st h → gi_G p l e R s m args below meth c D dA b base L xs mi n0 u0 Qw pc lsA st h) {pc : Nat} {lsA : gi_L} {st : List gi_V} {h : gi_H} {x : Nat} {a len : Nat} {r : List gi_V} (hst : st = .inr (.inr (some a)) :: r) (htag : (gi_c h a).1 = 101) (hlen : (gi_c h a).2 = len) (hfit : ∀ i, i < len → fits .byte (.int (gi_I h a i)) = true) (hr4 : r.length ≤ 4) (h1 : 1 ≤ gi_rf mi) (h2 : 40 ≤ gi_rl mi) (hw : Jvm.Cond.methodLink (gi_ow (gi_oc mi)) x ⟨"[B", "clone", "()Ljava/lang/Object;"⟩ ∈ gi_ws) (hdec : decode (gi_b mi) pc = .ok (.invokevirtual x, 3)) (hdo : K (pc + 3) lsA (.inr (.inr (some (gi_n h))) :: r) (gi_cpy (gi_new h 101 len len) a (gi_n h) 0 0 len)) : gi_G p l e R s m args below meth c D dA b base L xs mi n0 u0 Qw pc lsA st h := by
  obtain ⟨hx, hb, hr, hlocks, hml, hown, hnm, hts, hKK, hNe, hAO, hCa, hX, hbb, hbs, hrf, hrl⟩ := C0
  subst hst
  obtain ⟨hn, hu, hk⟩ := hK _ _ _ _ hdo
  have en : gi_n (gi_cpy (gi_new h 101 len len) a (gi_n h) 0 0 len) = gi_n h + 1 := rfl
  have eu : gi_u (gi_cpy (gi_new h 101 len len) a (gi_n h) 0 0 len) = gi_u h + len := rfl
  rw [en] at hn
  rw [eu] at hu
  refine ⟨by omega, by omega, fun ls H locs cells slots hst => ?_⟩
  obtain ⟨hR, hL, hS, hc1, hc2⟩ := hst
  obtain ⟨a9, e9, a0, an, -⟩ := gi_tag_in hR (x := some a) (t := 101) htag (by omega) (by omega)
  cases e9
  have he := gi_wl_at (dA := dA) (ad := gi_ad b base) a0 an
  rw [gi_E_arr (t := 1) htag (by omega), hlen] at he
  have hls : c.maxLocals = ls.size := by rw [hml]; obtain ⟨-, l2, hl2, -⟩ := hL; exact hl2.1.symm
  have hcat := gi_cats (ad := gi_ad b base) hr4
  have hnm : s.vm.findClass "[B" = some (dA 1) := (hKK.2 1 (dA 1, .byte) rfl).2
  refine va_clone hx hb hls hown (hts _ hw) (hts _ gi_cw1) (hts _ gi_cw2) (hts _ gi_cw3) (hts _ gi_cw4) hCa hKK hR.1 gi_D hS (fun q hq => by show base ≤ q; omega) (a - 1) 1 he rfl hnm ?_ (by omega) (by omega) (by omega) (by show slots + len ≤ _; omega) hdec (fun q H1 hK2 hP1 hD1 hS1 => gi_size (fun hz => ?_))
  · intro i v hv
    have hv : (arrV (dA 1) len (fun j => .int (gi_I h a j))).slots[i]? = some v := hv
    have hi : i < len := by
      have := (Array.getElem?_eq_some_iff.mp hv).1
      rwa [arrV_size] at this
    rw [arrV_read _ _ hi] at hv
    cases hv
    exact hfit i hi
  · have hsz := hR.2.1
    have hE : gi_E dA (gi_ad b base) (gi_cpy (gi_new h 101 len len) a (gi_n h) 0 0 len) (gi_n h) = .inl (dA 1, len, .inl (gi_I (gi_cpy (gi_new h 101 len len) a (gi_n h) 0 0 len) (gi_n h))) := by
      rw [gi_E_arr (t := 1) (by rw [gi_c_cpy, gi_c_new]) (by omega), gi_c_cpy, gi_c_new]
    have hcell : vp_cell (dA 1) (len, .inl (gi_I h a)) = vp_cell (dA 1) (len, .inl (gi_I (gi_cpy (gi_new h 101 len len) a (gi_n h) 0 0 len) (gi_n h))) := gi_cell_eq (fun j hj => by
      have : a ≠ gi_n h := by omega
      simp [gi_I, gi_cpy, gi_new, hj, this])
    have hP2 : va_P D gi_cl (gi_wl dA (gi_ad b base) h ++ [(q, gi_E dA (gi_ad b base) (gi_cpy (gi_new h 101 len len) a (gi_n h) 0 0 len) (gi_n h))]) H1 := by
      rw [hE]
      intro k z hz2
      by_cases hk2 : k < (gi_wl dA (gi_ad b base) h).length
      · rw [List.getElem?_append_left hk2] at hz2
        exact hP1 k z (by rw [List.getElem?_append_left hk2]; exact hz2)
      · rw [List.getElem?_append_right (by omega)] at hz2
        have h3 : (gi_wl dA (gi_ad b base) h ++ [(q, (.inl (dA 1, len, .inl (gi_I h a)) : va_E))])[k]? = some (q, .inl (dA 1, len, .inl (gi_I h a))) := by
          rw [List.getElem?_append_right (by omega)]
          have hk3 : k - (gi_wl dA (gi_ad b base) h).length < 1 := (List.getElem?_eq_some_iff.mp hz2).1
          rw [show k - (gi_wl dA (gi_ad b base) h).length = 0 by omega]
          rfl
        have h4 := hP1 k _ h3
        have hk3 : k - (gi_wl dA (gi_ad b base) h).length < 1 := (List.getElem?_eq_some_iff.mp hz2).1
        rw [show k - (gi_wl dA (gi_ad b base) h).length = 0 by omega] at hz2
        cases hz2
        show H1[q]? = some (vp_cell (dA 1) _)
        rw [← hcell]
        exact h4
    have hD2 : va_D (fun q => base ≤ q) (gi_wl dA (gi_ad b base) h ++ [(q, gi_E dA (gi_ad b base) (gi_cpy (gi_new h 101 len len) a (gi_n h) 0 0 len) (gi_n h))]) := by
      have h5 := hD1.set (p := (gi_wl dA (gi_ad b base) h).length) (a := q) (e0 := .inl (dA 1, len, .inl (gi_I h a))) (e := gi_E dA (gi_ad b base) (gi_cpy (gi_new h 101 len len) a (gi_n h) 0 0 len) (gi_n h)) (by rw [List.getElem?_append_right (Nat.le_refl _), Nat.sub_self]; rfl)
      rw [List.set_append_right _ _ (Nat.le_refl _), Nat.sub_self] at h5
      exact h5
    obtain ⟨rfl, hR1⟩ := gi_Rp_new hR en (fun x hx => by rw [gi_c_cpy]; simp [gi_c, gi_new, hx]) (fun x hx => (gi_E_cpy hx).trans (gi_E_new hx)) (by
      have := hR.2.2.1
      funext j
      simp only [gi_I, gi_cpy, gi_new]
      rw [if_neg (by omega), if_neg (by omega)]) hP2 hD2 (by omega)
    exact hk ls H1 locs (cells + 1) (slots + len) ⟨hR1, hL, hS1, by rw [en]; omega, by rw [eu]; omega⟩
theorem gs_castB {p : Program} {l : Launch} {e : Env} {R : Room} {s : State} {m : MethodId} {args : Array Value} {below : List Frame} {meth : Method} {c : Code} {D : va_G} {dA : Nat → ClassId} {b base L : Nat} {xs : Nat → Int32} {mi n0 u0 : Nat} {Qw : State → Prop} (C0 : gi_Cx D dA b base L xs p R s m args meth c mi) {K : gi_K} (hK : ∀ pc lsA st h, K pc lsA st h → gi_G p l e R s m args below meth c D dA b base L xs mi n0 u0 Qw pc lsA st h) {pc : Nat} {lsA : gi_L} {st : List gi_V} {h : gi_H} {x : Nat} {a : Nat} {r : List gi_V} (hst : st = .inr (.inr (some a)) :: r) (htag : (gi_c h a).1 = 101) (hw : Jvm.Cond.classLink (gi_ow (gi_oc mi)) x "[B" ∈ gi_ws) (hdec : decode (gi_b mi) pc = .ok (.checkcast x, 3)) (hdo : K (pc + 3) lsA st h) : gi_G p l e R s m args below meth c D dA b base L xs mi n0 u0 Qw pc lsA st h := by
  obtain ⟨hx, hb, hr, hlocks, hml, hown, hnm, hts, hKK, hNe, hAO, hCa, hX, hbb, hbs, hrf, hrl⟩ := C0
  subst hst
  obtain ⟨hn, hu, hk⟩ := hK _ _ _ _ hdo
  refine ⟨hn, hu, fun ls H locs cells slots hst => ?_⟩
  obtain ⟨a9, e9, a0, an, -⟩ := gi_tag_in hst.1 (x := some a) (t := 101) htag (by omega) (by omega)
  cases e9
  have he := gi_wl_at (dA := dA) (ad := gi_ad b base) a0 an
  rw [gi_E_arr (t := 1) htag (by omega)] at he
  have hnm : s.vm.findClass "[B" = some (dA 1) := (hKK.2 1 (dA 1, .byte) rfl).2
  exact va_castA hx hb hown (hts _ hw) hst.1.1 (a - 1) he hnm hdec (hk ls H locs cells slots hst)
theorem gs_acpyB {p : Program} {l : Launch} {e : Env} {R : Room} {s : State} {m : MethodId} {args : Array Value} {below : List Frame} {meth : Method} {c : Code} {D : va_G} {dA : Nat → ClassId} {b base L : Nat} {xs : Nat → Int32} {mi n0 u0 : Nat} {Qw : State → Prop} (C0 : gi_Cx D dA b base L xs p R s m args meth c mi) (hs0 : s.heap.size + 1 = base + n0) {K : gi_K} (hK : ∀ pc lsA st h, K pc lsA st h → gi_G p l e R s m args below meth c D dA b base L xs mi n0 u0 Qw pc lsA st h) {pc : Nat} {lsA : gi_L} {st : List gi_V} {h : gi_H} {x a a2 : Nat} {n : Int32} (hst : st = [.inl n, .inl 0, .inr (.inr (some a2)), .inl 0, .inr (.inr (some a))]) (at1 : (gi_c h a).1 = 101) (at1' : (gi_c h a2).1 = 101) (q3 : ¬ n < 0) (q4 : n.toNatClampNeg ≤ (gi_c h a).2) (q5 : n.toNatClampNeg ≤ (gi_c h a2).2) (hfit : ∀ i, i < n.toNatClampNeg → fits .byte (.int (gi_I h a i)) = true) (hw : Jvm.Cond.methodLink (gi_ow (gi_oc mi)) x arraycopyName ∈ gi_ws) (h1 : 1 ≤ gi_rf mi) (h2 : 32 ≤ gi_rl mi) (hdec : decode (gi_b mi) pc = .ok (.invokestatic x, 3)) (hdo : K (pc + 3) lsA [] (gi_cpy h a a2 0 0 n.toNatClampNeg)) : gi_G p l e R s m args below meth c D dA b base L xs mi n0 u0 Qw pc lsA st h := by
  obtain ⟨hx, hb, hr, hlocks, hml, hown, hnm, hts, hKK, hNe, hAO, hCa, hX, hbb, hbs, hrf, hrl⟩ := C0
  subst hst
  obtain ⟨hn, hu, hk⟩ := hK _ _ _ _ hdo
  refine ⟨hn, hu, fun ls H locs cells slots hst => ?_⟩
  obtain ⟨a9, e9, a0, an, -⟩ := gi_tag_in hst.1 (x := some a) (t := 101) at1 (by omega) (by omega)
  cases e9
  obtain ⟨a9, e9, a0', an', -⟩ := gi_tag_in hst.1 (x := some a2) (t := 101) at1' (by omega) (by omega)
  cases e9
  obtain ⟨hR, hL, hS, hc1, hc2⟩ := hst
  obtain ⟨-, -, w1, w2, w3, -⟩ := gi_x_words
  have he := gi_wl_at (dA := dA) (ad := gi_ad b base) a0 an
  rw [gi_E_arr (t := 1) at1 (by omega)] at he
  have he' := gi_wl_at (dA := dA) (ad := gi_ad b base) a0' an'
  rw [gi_E_arr (t := 1) at1' (by omega)] at he'
  have hls : c.maxLocals = ls.size := by rw [hml]; obtain ⟨-, l2, hl2, -⟩ := hL; exact hl2.1.symm
  have hz0 : (0 : Int32).toNatClampNeg = 0 := by decide
  refine va_copyi hx hb hls hown (hts _ hw) (hts _ w1) (hts _ w2) (hts _ w3) hKK hR.1 gi_D hS (a - 1) (a2 - 1) 1 1 he he' rfl rfl rfl (sp := 0) (dp := 0) (by decide) (by decide) q3 (by rw [hz0]; omega) (by rw [hz0]; omega) (fun i hi => by rw [hz0, Nat.zero_add]; exact hfit i hi) (by omega) ?_ hdec (fun H1 locs1 hP1 _ hS1 => gi_size (fun hz => hk ls H1 locs1 cells slots ⟨gi_Rp_set hR a0' an' rfl rfl (fun x hx => gi_E_cpy hx) ?_ ?_ ?_, hL, hS1, hc1, hc2⟩))
  · have e1 : nativeFrameWords "java/lang/System" "arraycopy" 5 = 7 := by decide
    rw [e1]
    show 0 + (7 + 11) ≤ _
    omega
  · funext j
    simp only [gi_I, gi_cpy]
    rw [if_neg (by omega)]
  · rw [gi_E_arr (t := 1) (h := gi_cpy h a a2 0 0 n.toNatClampNeg) at1' (by omega)]
    have e1 : gi_I (gi_cpy h a a2 0 0 n.toNatClampNeg) a2 = va_cpy (gi_I h a) (gi_I h a2) (0 : Int32).toNatClampNeg (0 : Int32).toNatClampNeg n.toNatClampNeg := by
      funext j
      simp [gi_I, gi_cpy, va_cpy]
    rw [e1]
    exact hP1
  · have := hR.2.1
    omega

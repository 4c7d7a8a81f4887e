/-! the cases: an instruction, a row -/
def gi_G (p : Program) (l : Launch) (e : Env) (R : Room) (s : State) (m : MethodId) (args : Array Value) (below : List Frame) (meth : Method) (c : Code) (D : va_G) (dA : Nat → ClassId) (b base L : Nat) (xs : Nat → Int32) (mi n0 u0 : Nat) (Qw : State → Prop) : gi_K := fun pc lsA st h =>
  gi_n h ≤ n0 + R.cells ∧ gi_u h ≤ u0 + R.slots ∧ ∀ ls H locs cells slots, gi_St D dA b base L xs s (gi_nL mi) n0 u0 lsA h ls H locs cells slots → W p l e R s m args below meth c H locs cells slots Qw (F0 m pc ls (st.map (gi_tr (gi_ad b base))))
theorem gs_iconst {p : Program} {l : Launch} {e : Env} {R : Room} {s : State} {m : MethodId} {args : Array Value} {below : List Frame} {meth : Method} {c : Code} {D : va_G} {dA : Nat → ClassId} {b base L : Nat} {xs : Nat → Int32} {mi n0 u0 : Nat} {Qw : State → Prop} (C0 : gi_Cx D dA b base L xs p R s m args meth c mi) {K : gi_K} (hK : ∀ pc lsA st h, K pc lsA st h → gi_G p l e R s m args below meth c D dA b base L xs mi n0 u0 Qw pc lsA st h) {pc : Nat} {lsA : gi_L} {st : List gi_V} {h : gi_H} {n : Int} (hdec : decode (gi_b mi) pc = .ok (.iconst n, 1)) (hdo : K (pc + 1) lsA (.inl (Int32.ofInt n) :: st) h) : gi_G p l e R s m args below meth c D dA b base L xs mi n0 u0 Qw pc lsA st h := by
  obtain ⟨hx, hb, hr, hlocks, hml, hown, hnm, hts, hKK, hNe, hAO, hCa, hX, hbb, hbs, hrf, hrl⟩ := C0
  obtain ⟨hn, hu, hk⟩ := hK _ _ _ _ hdo
  exact ⟨hn, hu, fun ls H locs cells slots hst => lv_iconst hx hb hdec rfl (hk ls H locs cells slots hst)⟩
theorem gs_bipush {p : Program} {l : Launch} {e : Env} {R : Room} {s : State} {m : MethodId} {args : Array Value} {below : List Frame} {meth : Method} {c : Code} {D : va_G} {dA : Nat → ClassId} {b base L : Nat} {xs : Nat → Int32} {mi n0 u0 : Nat} {Qw : State → Prop} (C0 : gi_Cx D dA b base L xs p R s m args meth c mi) {K : gi_K} (hK : ∀ pc lsA st h, K pc lsA st h → gi_G p l e R s m args below meth c D dA b base L xs mi n0 u0 Qw pc lsA st h) {pc : Nat} {lsA : gi_L} {st : List gi_V} {h : gi_H} {n : Int} (hdec : decode (gi_b mi) pc = .ok (.bipush n, 2)) (hdo : K (pc + 2) lsA (.inl (Int8.ofInt n).toInt32 :: st) h) : gi_G p l e R s m args below meth c D dA b base L xs mi n0 u0 Qw pc lsA st h := by
  obtain ⟨hx, hb, hr, hlocks, hml, hown, hnm, hts, hKK, hNe, hAO, hCa, hX, hbb, hbs, hrf, hrl⟩ := C0
  obtain ⟨hn, hu, hk⟩ := hK _ _ _ _ hdo
  exact ⟨hn, hu, fun ls H locs cells slots hst => lv_bipush hx hb hdec rfl (hk ls H locs cells slots hst)⟩
theorem gs_sipush {p : Program} {l : Launch} {e : Env} {R : Room} {s : State} {m : MethodId} {args : Array Value} {below : List Frame} {meth : Method} {c : Code} {D : va_G} {dA : Nat → ClassId} {b base L : Nat} {xs : Nat → Int32} {mi n0 u0 : Nat} {Qw : State → Prop} (C0 : gi_Cx D dA b base L xs p R s m args meth c mi) {K : gi_K} (hK : ∀ pc lsA st h, K pc lsA st h → gi_G p l e R s m args below meth c D dA b base L xs mi n0 u0 Qw pc lsA st h) {pc : Nat} {lsA : gi_L} {st : List gi_V} {h : gi_H} {n : Int} (hdec : decode (gi_b mi) pc = .ok (.sipush n, 3)) (hdo : K (pc + 3) lsA (.inl (Int16.ofInt n).toInt32 :: st) h) : gi_G p l e R s m args below meth c D dA b base L xs mi n0 u0 Qw pc lsA st h := by
  obtain ⟨hx, hb, hr, hlocks, hml, hown, hnm, hts, hKK, hNe, hAO, hCa, hX, hbb, hbs, hrf, hrl⟩ := C0
  obtain ⟨hn, hu, hk⟩ := hK _ _ _ _ hdo
  exact ⟨hn, hu, fun ls H locs cells slots hst => lv_sipush hx hb hdec rfl (hk ls H locs cells slots hst)⟩
theorem gs_lconst {p : Program} {l : Launch} {e : Env} {R : Room} {s : State} {m : MethodId} {args : Array Value} {below : List Frame} {meth : Method} {c : Code} {D : va_G} {dA : Nat → ClassId} {b base L : Nat} {xs : Nat → Int32} {mi n0 u0 : Nat} {Qw : State → Prop} (C0 : gi_Cx D dA b base L xs p R s m args meth c mi) {K : gi_K} (hK : ∀ pc lsA st h, K pc lsA st h → gi_G p l e R s m args below meth c D dA b base L xs mi n0 u0 Qw pc lsA st h) {pc : Nat} {lsA : gi_L} {st : List gi_V} {h : gi_H} {n : Fin 2} (hdec : decode (gi_b mi) pc = .ok (.lconst n, 1)) (hdo : K (pc + 1) lsA (.inr (.inl (Int64.ofNat (n : Nat))) :: st) h) : gi_G p l e R s m args below meth c D dA b base L xs mi n0 u0 Qw pc lsA st h := by
  obtain ⟨hx, hb, hr, hlocks, hml, hown, hnm, hts, hKK, hNe, hAO, hCa, hX, hbb, hbs, hrf, hrl⟩ := C0
  obtain ⟨hn, hu, hk⟩ := hK _ _ _ _ hdo
  exact ⟨hn, hu, fun ls H locs cells slots hst => lv_lconst hx hb hdec rfl (hk ls H locs cells slots hst)⟩
theorem gs_null {p : Program} {l : Launch} {e : Env} {R : Room} {s : State} {m : MethodId} {args : Array Value} {below : List Frame} {meth : Method} {c : Code} {D : va_G} {dA : Nat → ClassId} {b base L : Nat} {xs : Nat → Int32} {mi n0 u0 : Nat} {Qw : State → Prop} (C0 : gi_Cx D dA b base L xs p R s m args meth c mi) {K : gi_K} (hK : ∀ pc lsA st h, K pc lsA st h → gi_G p l e R s m args below meth c D dA b base L xs mi n0 u0 Qw pc lsA st h) {pc : Nat} {lsA : gi_L} {st : List gi_V} {h : gi_H}  (hdec : decode (gi_b mi) pc = .ok (.aconst_null, 1)) (hdo : K (pc + 1) lsA (.inr (.inr none) :: st) h) : gi_G p l e R s m args below meth c D dA b base L xs mi n0 u0 Qw pc lsA st h := by
  obtain ⟨hx, hb, hr, hlocks, hml, hown, hnm, hts, hKK, hNe, hAO, hCa, hX, hbb, hbs, hrf, hrl⟩ := C0
  obtain ⟨hn, hu, hk⟩ := hK _ _ _ _ hdo
  exact ⟨hn, hu, fun ls H locs cells slots hst => lv_null hx hb hdec (hk ls H locs cells slots hst)⟩
theorem gs_ldc {p : Program} {l : Launch} {e : Env} {R : Room} {s : State} {m : MethodId} {args : Array Value} {below : List Frame} {meth : Method} {c : Code} {D : va_G} {dA : Nat → ClassId} {b base L : Nat} {xs : Nat → Int32} {mi n0 u0 : Nat} {Qw : State → Prop} (C0 : gi_Cx D dA b base L xs p R s m args meth c mi) {K : gi_K} (hK : ∀ pc lsA st h, K pc lsA st h → gi_G p l e R s m args below meth c D dA b base L xs mi n0 u0 Qw pc lsA st h) {pc : Nat} {lsA : gi_L} {st : List gi_V} {h : gi_H} {x : Nat} {v : Int32} (hw : Jvm.Cond.constant (gi_ow (gi_oc mi)) x v ∈ gi_ws) (hdec : decode (gi_b mi) pc = .ok (.ldc x, 2)) (hdo : K (pc + 2) lsA (.inl v :: st) h) : gi_G p l e R s m args below meth c D dA b base L xs mi n0 u0 Qw pc lsA st h := by
  obtain ⟨hx, hb, hr, hlocks, hml, hown, hnm, hts, hKK, hNe, hAO, hCa, hX, hbb, hbs, hrf, hrl⟩ := C0
  obtain ⟨hn, hu, hk⟩ := hK _ _ _ _ hdo
  exact ⟨hn, hu, fun ls H locs cells slots hst => lv_ldc hx hb hown (hts _ hw) hdec (hk ls H locs cells slots hst)⟩
theorem gs_ldc2 {p : Program} {l : Launch} {e : Env} {R : Room} {s : State} {m : MethodId} {args : Array Value} {below : List Frame} {meth : Method} {c : Code} {D : va_G} {dA : Nat → ClassId} {b base L : Nat} {xs : Nat → Int32} {mi n0 u0 : Nat} {Qw : State → Prop} (C0 : gi_Cx D dA b base L xs p R s m args meth c mi) {K : gi_K} (hK : ∀ pc lsA st h, K pc lsA st h → gi_G p l e R s m args below meth c D dA b base L xs mi n0 u0 Qw pc lsA st h) {pc : Nat} {lsA : gi_L} {st : List gi_V} {h : gi_H} {x : Nat} {v : Int64} (hw : Jvm.Cond.constantLong (gi_ow (gi_oc mi)) x v ∈ gi_ws) (hdec : decode (gi_b mi) pc = .ok (.ldc2_w x, 3)) (hdo : K (pc + 3) lsA (.inr (.inl v) :: st) h) : gi_G p l e R s m args below meth c D dA b base L xs mi n0 u0 Qw pc lsA st h := by
  obtain ⟨hx, hb, hr, hlocks, hml, hown, hnm, hts, hKK, hNe, hAO, hCa, hX, hbb, hbs, hrf, hrl⟩ := C0
  obtain ⟨hn, hu, hk⟩ := hK _ _ _ _ hdo
  exact ⟨hn, hu, fun ls H locs cells slots hst => lv_ldc2 hx hb hown (hts _ hw) hdec (hk ls H locs cells slots hst)⟩
theorem gs_goto {p : Program} {l : Launch} {e : Env} {R : Room} {s : State} {m : MethodId} {args : Array Value} {below : List Frame} {meth : Method} {c : Code} {D : va_G} {dA : Nat → ClassId} {b base L : Nat} {xs : Nat → Int32} {mi n0 u0 : Nat} {Qw : State → Prop} (C0 : gi_Cx D dA b base L xs p R s m args meth c mi) {K : gi_K} (hK : ∀ pc lsA st h, K pc lsA st h → gi_G p l e R s m args below meth c D dA b base L xs mi n0 u0 Qw pc lsA st h) {pc : Nat} {lsA : gi_L} {st : List gi_V} {h : gi_H} {o : Int} {t : Nat} (ht : (pc : Int) + o = (t : Int)) (hdec : decode (gi_b mi) pc = .ok (.goto o, 3)) (hdo : K t lsA st h) : gi_G p l e R s m args below meth c D dA b base L xs mi n0 u0 Qw pc lsA st h := by
  obtain ⟨hx, hb, hr, hlocks, hml, hown, hnm, hts, hKK, hNe, hAO, hCa, hX, hbb, hbs, hrf, hrl⟩ := C0
  obtain ⟨hn, hu, hk⟩ := hK _ _ _ _ hdo
  exact ⟨hn, hu, fun ls H locs cells slots hst => lv_goto hx hb hdec ht (hk ls H locs cells slots hst)⟩
theorem gs_iload_n {p : Program} {l : Launch} {e : Env} {R : Room} {s : State} {m : MethodId} {args : Array Value} {below : List Frame} {meth : Method} {c : Code} {D : va_G} {dA : Nat → ClassId} {b base L : Nat} {xs : Nat → Int32} {mi n0 u0 : Nat} {Qw : State → Prop} (C0 : gi_Cx D dA b base L xs p R s m args meth c mi) {K : gi_K} (hK : ∀ pc lsA st h, K pc lsA st h → gi_G p l e R s m args below meth c D dA b base L xs mi n0 u0 Qw pc lsA st h) {pc : Nat} {lsA : gi_L} {st : List gi_V} {h : gi_H} {k : Fin 4} (hdec : decode (gi_b mi) pc = .ok (.iload_n k, 1)) (hdo : gi_ldI K (pc + 1) lsA st h (k : Nat)) : gi_G p l e R s m args below meth c D dA b base L xs mi n0 u0 Qw pc lsA st h := by
  obtain ⟨hx, hb, hr, hlocks, hml, hown, hnm, hts, hKK, hNe, hAO, hCa, hX, hbb, hbs, hrf, hrl⟩ := C0
  unfold gi_ldI at hdo
  split at hdo
  · rename_i x hx1
    obtain ⟨hn, hu, hk⟩ := hK _ _ _ _ hdo
    exact ⟨hn, hu, fun ls H locs cells slots hst => lv_iload_n hx hb hdec rfl (gi_Lr_at hst.2.1 hx1) (hk ls H locs cells slots hst)⟩
  · exact hdo.elim
theorem gs_iload {p : Program} {l : Launch} {e : Env} {R : Room} {s : State} {m : MethodId} {args : Array Value} {below : List Frame} {meth : Method} {c : Code} {D : va_G} {dA : Nat → ClassId} {b base L : Nat} {xs : Nat → Int32} {mi n0 u0 : Nat} {Qw : State → Prop} (C0 : gi_Cx D dA b base L xs p R s m args meth c mi) {K : gi_K} (hK : ∀ pc lsA st h, K pc lsA st h → gi_G p l e R s m args below meth c D dA b base L xs mi n0 u0 Qw pc lsA st h) {pc : Nat} {lsA : gi_L} {st : List gi_V} {h : gi_H} {k : Nat} (hdec : decode (gi_b mi) pc = .ok (.iload k, 2)) (hdo : gi_ldI K (pc + 2) lsA st h k) : gi_G p l e R s m args below meth c D dA b base L xs mi n0 u0 Qw pc lsA st h := by
  obtain ⟨hx, hb, hr, hlocks, hml, hown, hnm, hts, hKK, hNe, hAO, hCa, hX, hbb, hbs, hrf, hrl⟩ := C0
  unfold gi_ldI at hdo
  split at hdo
  · rename_i x hx1
    obtain ⟨hn, hu, hk⟩ := hK _ _ _ _ hdo
    exact ⟨hn, hu, fun ls H locs cells slots hst => lv_iload hx hb hdec (gi_Lr_at hst.2.1 hx1) (hk ls H locs cells slots hst)⟩
  · exact hdo.elim
theorem gs_lload_n {p : Program} {l : Launch} {e : Env} {R : Room} {s : State} {m : MethodId} {args : Array Value} {below : List Frame} {meth : Method} {c : Code} {D : va_G} {dA : Nat → ClassId} {b base L : Nat} {xs : Nat → Int32} {mi n0 u0 : Nat} {Qw : State → Prop} (C0 : gi_Cx D dA b base L xs p R s m args meth c mi) {K : gi_K} (hK : ∀ pc lsA st h, K pc lsA st h → gi_G p l e R s m args below meth c D dA b base L xs mi n0 u0 Qw pc lsA st h) {pc : Nat} {lsA : gi_L} {st : List gi_V} {h : gi_H} {k : Fin 4} (hdec : decode (gi_b mi) pc = .ok (.lload_n k, 1)) (hdo : gi_ldL K (pc + 1) lsA st h (k : Nat)) : gi_G p l e R s m args below meth c D dA b base L xs mi n0 u0 Qw pc lsA st h := by
  obtain ⟨hx, hb, hr, hlocks, hml, hown, hnm, hts, hKK, hNe, hAO, hCa, hX, hbb, hbs, hrf, hrl⟩ := C0
  unfold gi_ldL at hdo
  split at hdo
  · rename_i x hx1
    obtain ⟨hn, hu, hk⟩ := hK _ _ _ _ hdo
    exact ⟨hn, hu, fun ls H locs cells slots hst => lv_lload_n hx hb hdec rfl (gi_Lr_at hst.2.1 hx1) (hk ls H locs cells slots hst)⟩
  · exact hdo.elim
theorem gs_lload {p : Program} {l : Launch} {e : Env} {R : Room} {s : State} {m : MethodId} {args : Array Value} {below : List Frame} {meth : Method} {c : Code} {D : va_G} {dA : Nat → ClassId} {b base L : Nat} {xs : Nat → Int32} {mi n0 u0 : Nat} {Qw : State → Prop} (C0 : gi_Cx D dA b base L xs p R s m args meth c mi) {K : gi_K} (hK : ∀ pc lsA st h, K pc lsA st h → gi_G p l e R s m args below meth c D dA b base L xs mi n0 u0 Qw pc lsA st h) {pc : Nat} {lsA : gi_L} {st : List gi_V} {h : gi_H} {k : Nat} (hdec : decode (gi_b mi) pc = .ok (.lload k, 2)) (hdo : gi_ldL K (pc + 2) lsA st h k) : gi_G p l e R s m args below meth c D dA b base L xs mi n0 u0 Qw pc lsA st h := by
  obtain ⟨hx, hb, hr, hlocks, hml, hown, hnm, hts, hKK, hNe, hAO, hCa, hX, hbb, hbs, hrf, hrl⟩ := C0
  unfold gi_ldL at hdo
  split at hdo
  · rename_i x hx1
    obtain ⟨hn, hu, hk⟩ := hK _ _ _ _ hdo
    exact ⟨hn, hu, fun ls H locs cells slots hst => lv_lload hx hb hdec (gi_Lr_at hst.2.1 hx1) (hk ls H locs cells slots hst)⟩
  · exact hdo.elim
theorem gs_aload_n {p : Program} {l : Launch} {e : Env} {R : Room} {s : State} {m : MethodId} {args : Array Value} {below : List Frame} {meth : Method} {c : Code} {D : va_G} {dA : Nat → ClassId} {b base L : Nat} {xs : Nat → Int32} {mi n0 u0 : Nat} {Qw : State → Prop} (C0 : gi_Cx D dA b base L xs p R s m args meth c mi) {K : gi_K} (hK : ∀ pc lsA st h, K pc lsA st h → gi_G p l e R s m args below meth c D dA b base L xs mi n0 u0 Qw pc lsA st h) {pc : Nat} {lsA : gi_L} {st : List gi_V} {h : gi_H} {k : Fin 4} (hdec : decode (gi_b mi) pc = .ok (.aload_n k, 1)) (hdo : gi_ldR K (pc + 1) lsA st h (k : Nat)) : gi_G p l e R s m args below meth c D dA b base L xs mi n0 u0 Qw pc lsA st h := by
  obtain ⟨hx, hb, hr, hlocks, hml, hown, hnm, hts, hKK, hNe, hAO, hCa, hX, hbb, hbs, hrf, hrl⟩ := C0
  unfold gi_ldR at hdo
  split at hdo
  · rename_i x hx1
    obtain ⟨hn, hu, hk⟩ := hK _ _ _ _ hdo
    refine ⟨hn, hu, fun ls H locs cells slots hst => ?_⟩
    cases x with
    | none => exact lv_aload_nN hx hb hdec rfl (gi_Lr_at hst.2.1 hx1) (hk ls H locs cells slots hst)
    | some x => exact lv_aload_n hx hb hdec rfl (gi_Lr_at hst.2.1 hx1) (hk ls H locs cells slots hst)
  · exact hdo.elim
theorem gs_aload {p : Program} {l : Launch} {e : Env} {R : Room} {s : State} {m : MethodId} {args : Array Value} {below : List Frame} {meth : Method} {c : Code} {D : va_G} {dA : Nat → ClassId} {b base L : Nat} {xs : Nat → Int32} {mi n0 u0 : Nat} {Qw : State → Prop} (C0 : gi_Cx D dA b base L xs p R s m args meth c mi) {K : gi_K} (hK : ∀ pc lsA st h, K pc lsA st h → gi_G p l e R s m args below meth c D dA b base L xs mi n0 u0 Qw pc lsA st h) {pc : Nat} {lsA : gi_L} {st : List gi_V} {h : gi_H} {k : Nat} (hdec : decode (gi_b mi) pc = .ok (.aload k, 2)) (hdo : gi_ldR K (pc + 2) lsA st h k) : gi_G p l e R s m args below meth c D dA b base L xs mi n0 u0 Qw pc lsA st h := by
  obtain ⟨hx, hb, hr, hlocks, hml, hown, hnm, hts, hKK, hNe, hAO, hCa, hX, hbb, hbs, hrf, hrl⟩ := C0
  unfold gi_ldR at hdo
  split at hdo
  · rename_i x hx1
    obtain ⟨hn, hu, hk⟩ := hK _ _ _ _ hdo
    refine ⟨hn, hu, fun ls H locs cells slots hst => ?_⟩
    cases x with
    | none => exact lv_aloadN hx hb hdec (gi_Lr_at hst.2.1 hx1) (hk ls H locs cells slots hst)
    | some x => exact lv_aload hx hb hdec (gi_Lr_at hst.2.1 hx1) (hk ls H locs cells slots hst)
  · exact hdo.elim
theorem gs_istore_n {p : Program} {l : Launch} {e : Env} {R : Room} {s : State} {m : MethodId} {args : Array Value} {below : List Frame} {meth : Method} {c : Code} {D : va_G} {dA : Nat → ClassId} {b base L : Nat} {xs : Nat → Int32} {mi n0 u0 : Nat} {Qw : State → Prop} (C0 : gi_Cx D dA b base L xs p R s m args meth c mi) {K : gi_K} (hK : ∀ pc lsA st h, K pc lsA st h → gi_G p l e R s m args below meth c D dA b base L xs mi n0 u0 Qw pc lsA st h) {pc : Nat} {lsA : gi_L} {st : List gi_V} {h : gi_H} {k : Fin 4} (hdec : decode (gi_b mi) pc = .ok (.istore_n k, 1)) (hdo : gi_stI K (pc + 1) lsA st h (k : Nat)) : gi_G p l e R s m args below meth c D dA b base L xs mi n0 u0 Qw pc lsA st h := by
  obtain ⟨hx, hb, hr, hlocks, hml, hown, hnm, hts, hKK, hNe, hAO, hCa, hX, hbb, hbs, hrf, hrl⟩ := C0
  unfold gi_stI at hdo
  split at hdo
  · rename_i x r
    obtain ⟨hi, hdo⟩ := hdo
    obtain ⟨hn, hu, hk⟩ := hK _ _ _ _ hdo
    refine ⟨hn, hu, fun ls H locs cells slots hst => ?_⟩
    obtain ⟨hR, ⟨hlen, lv, hlv, hmem⟩, hS, hc, hsl⟩ := hst
    exact lv_istore_n hx hb hdec rfl hlv (by omega) rfl (fun ls2 h2 => hk ls2 H locs cells slots ⟨hR, gi_Lr_set hlen hmem h2, hS, hc, hsl⟩)
  · exact hdo.elim
theorem gs_istore {p : Program} {l : Launch} {e : Env} {R : Room} {s : State} {m : MethodId} {args : Array Value} {below : List Frame} {meth : Method} {c : Code} {D : va_G} {dA : Nat → ClassId} {b base L : Nat} {xs : Nat → Int32} {mi n0 u0 : Nat} {Qw : State → Prop} (C0 : gi_Cx D dA b base L xs p R s m args meth c mi) {K : gi_K} (hK : ∀ pc lsA st h, K pc lsA st h → gi_G p l e R s m args below meth c D dA b base L xs mi n0 u0 Qw pc lsA st h) {pc : Nat} {lsA : gi_L} {st : List gi_V} {h : gi_H} {k : Nat} (hdec : decode (gi_b mi) pc = .ok (.istore k, 2)) (hdo : gi_stI K (pc + 2) lsA st h k) : gi_G p l e R s m args below meth c D dA b base L xs mi n0 u0 Qw pc lsA st h := by
  obtain ⟨hx, hb, hr, hlocks, hml, hown, hnm, hts, hKK, hNe, hAO, hCa, hX, hbb, hbs, hrf, hrl⟩ := C0
  unfold gi_stI at hdo
  split at hdo
  · rename_i x r
    obtain ⟨hi, hdo⟩ := hdo
    obtain ⟨hn, hu, hk⟩ := hK _ _ _ _ hdo
    refine ⟨hn, hu, fun ls H locs cells slots hst => ?_⟩
    obtain ⟨hR, ⟨hlen, lv, hlv, hmem⟩, hS, hc, hsl⟩ := hst
    exact lv_istore hx hb hdec hlv (by omega) rfl (fun ls2 h2 => hk ls2 H locs cells slots ⟨hR, gi_Lr_set hlen hmem h2, hS, hc, hsl⟩)
  · exact hdo.elim
theorem gs_lstore_n {p : Program} {l : Launch} {e : Env} {R : Room} {s : State} {m : MethodId} {args : Array Value} {below : List Frame} {meth : Method} {c : Code} {D : va_G} {dA : Nat → ClassId} {b base L : Nat} {xs : Nat → Int32} {mi n0 u0 : Nat} {Qw : State → Prop} (C0 : gi_Cx D dA b base L xs p R s m args meth c mi) {K : gi_K} (hK : ∀ pc lsA st h, K pc lsA st h → gi_G p l e R s m args below meth c D dA b base L xs mi n0 u0 Qw pc lsA st h) {pc : Nat} {lsA : gi_L} {st : List gi_V} {h : gi_H} {k : Fin 4} (hdec : decode (gi_b mi) pc = .ok (.lstore_n k, 1)) (hdo : gi_stL K (pc + 1) lsA st h (k : Nat)) : gi_G p l e R s m args below meth c D dA b base L xs mi n0 u0 Qw pc lsA st h := by
  obtain ⟨hx, hb, hr, hlocks, hml, hown, hnm, hts, hKK, hNe, hAO, hCa, hX, hbb, hbs, hrf, hrl⟩ := C0
  unfold gi_stL at hdo
  split at hdo
  · rename_i x r
    obtain ⟨hi, hdo⟩ := hdo
    obtain ⟨hn, hu, hk⟩ := hK _ _ _ _ hdo
    refine ⟨hn, hu, fun ls H locs cells slots hst => ?_⟩
    obtain ⟨hR, ⟨hlen, lv, hlv, hmem⟩, hS, hc, hsl⟩ := hst
    exact lv_lstore_n hx hb hdec rfl hlv (by omega) rfl (fun ls2 h2 => hk ls2 H locs cells slots ⟨hR, gi_Lr_set2 hlen hmem h2, hS, hc, hsl⟩)
  · exact hdo.elim
theorem gs_lstore {p : Program} {l : Launch} {e : Env} {R : Room} {s : State} {m : MethodId} {args : Array Value} {below : List Frame} {meth : Method} {c : Code} {D : va_G} {dA : Nat → ClassId} {b base L : Nat} {xs : Nat → Int32} {mi n0 u0 : Nat} {Qw : State → Prop} (C0 : gi_Cx D dA b base L xs p R s m args meth c mi) {K : gi_K} (hK : ∀ pc lsA st h, K pc lsA st h → gi_G p l e R s m args below meth c D dA b base L xs mi n0 u0 Qw pc lsA st h) {pc : Nat} {lsA : gi_L} {st : List gi_V} {h : gi_H} {k : Nat} (hdec : decode (gi_b mi) pc = .ok (.lstore k, 2)) (hdo : gi_stL K (pc + 2) lsA st h k) : gi_G p l e R s m args below meth c D dA b base L xs mi n0 u0 Qw pc lsA st h := by
  obtain ⟨hx, hb, hr, hlocks, hml, hown, hnm, hts, hKK, hNe, hAO, hCa, hX, hbb, hbs, hrf, hrl⟩ := C0
  unfold gi_stL at hdo
  split at hdo
  · rename_i x r
    obtain ⟨hi, hdo⟩ := hdo
    obtain ⟨hn, hu, hk⟩ := hK _ _ _ _ hdo
    refine ⟨hn, hu, fun ls H locs cells slots hst => ?_⟩
    obtain ⟨hR, ⟨hlen, lv, hlv, hmem⟩, hS, hc, hsl⟩ := hst
    exact lv_lstore hx hb hdec hlv (by omega) rfl (fun ls2 h2 => hk ls2 H locs cells slots ⟨hR, gi_Lr_set2 hlen hmem h2, hS, hc, hsl⟩)
  · exact hdo.elim
theorem gs_astore_n {p : Program} {l : Launch} {e : Env} {R : Room} {s : State} {m : MethodId} {args : Array Value} {below : List Frame} {meth : Method} {c : Code} {D : va_G} {dA : Nat → ClassId} {b base L : Nat} {xs : Nat → Int32} {mi n0 u0 : Nat} {Qw : State → Prop} (C0 : gi_Cx D dA b base L xs p R s m args meth c mi) {K : gi_K} (hK : ∀ pc lsA st h, K pc lsA st h → gi_G p l e R s m args below meth c D dA b base L xs mi n0 u0 Qw pc lsA st h) {pc : Nat} {lsA : gi_L} {st : List gi_V} {h : gi_H} {k : Fin 4} (hdec : decode (gi_b mi) pc = .ok (.astore_n k, 1)) (hdo : gi_stR K (pc + 1) lsA st h (k : Nat)) : gi_G p l e R s m args below meth c D dA b base L xs mi n0 u0 Qw pc lsA st h := by
  obtain ⟨hx, hb, hr, hlocks, hml, hown, hnm, hts, hKK, hNe, hAO, hCa, hX, hbb, hbs, hrf, hrl⟩ := C0
  unfold gi_stR at hdo
  split at hdo
  · rename_i x r
    obtain ⟨hi, hdo⟩ := hdo
    obtain ⟨hn, hu, hk⟩ := hK _ _ _ _ hdo
    refine ⟨hn, hu, fun ls H locs cells slots hst => ?_⟩
    obtain ⟨hR, ⟨hlen, lv, hlv, hmem⟩, hS, hc, hsl⟩ := hst
    cases x with
    | none => exact lv_astore_nN hx hb hdec rfl hlv (by omega) rfl (fun ls2 h2 => hk ls2 H locs cells slots ⟨hR, gi_Lr_set (v := .inr (.inr none)) hlen hmem h2, hS, hc, hsl⟩)
    | some x => exact lv_astore_n hx hb hdec rfl hlv (by omega) rfl (fun ls2 h2 => hk ls2 H locs cells slots ⟨hR, gi_Lr_set (v := .inr (.inr (some x))) hlen hmem h2, hS, hc, hsl⟩)
  · exact hdo.elim
theorem gs_astore {p : Program} {l : Launch} {e : Env} {R : Room} {s : State} {m : MethodId} {args : Array Value} {below : List Frame} {meth : Method} {c : Code} {D : va_G} {dA : Nat → ClassId} {b base L : Nat} {xs : Nat → Int32} {mi n0 u0 : Nat} {Qw : State → Prop} (C0 : gi_Cx D dA b base L xs p R s m args meth c mi) {K : gi_K} (hK : ∀ pc lsA st h, K pc lsA st h → gi_G p l e R s m args below meth c D dA b base L xs mi n0 u0 Qw pc lsA st h) {pc : Nat} {lsA : gi_L} {st : List gi_V} {h : gi_H} {k : Nat} (hdec : decode (gi_b mi) pc = .ok (.astore k, 2)) (hdo : gi_stR K (pc + 2) lsA st h k) : gi_G p l e R s m args below meth c D dA b base L xs mi n0 u0 Qw pc lsA st h := by
  obtain ⟨hx, hb, hr, hlocks, hml, hown, hnm, hts, hKK, hNe, hAO, hCa, hX, hbb, hbs, hrf, hrl⟩ := C0
  unfold gi_stR at hdo
  split at hdo
  · rename_i x r
    obtain ⟨hi, hdo⟩ := hdo
    obtain ⟨hn, hu, hk⟩ := hK _ _ _ _ hdo
    refine ⟨hn, hu, fun ls H locs cells slots hst => ?_⟩
    obtain ⟨hR, ⟨hlen, lv, hlv, hmem⟩, hS, hc, hsl⟩ := hst
    cases x with
    | none => exact lv_astoreN hx hb hdec hlv (by omega) rfl (fun ls2 h2 => hk ls2 H locs cells slots ⟨hR, gi_Lr_set (v := .inr (.inr none)) hlen hmem h2, hS, hc, hsl⟩)
    | some x => exact lv_astore hx hb hdec hlv (by omega) rfl (fun ls2 h2 => hk ls2 H locs cells slots ⟨hR, gi_Lr_set (v := .inr (.inr (some x))) hlen hmem h2, hS, hc, hsl⟩)
  · exact hdo.elim
theorem gs_iinc {p : Program} {l : Launch} {e : Env} {R : Room} {s : State} {m : MethodId} {args : Array Value} {below : List Frame} {meth : Method} {c : Code} {D : va_G} {dA : Nat → ClassId} {b base L : Nat} {xs : Nat → Int32} {mi n0 u0 : Nat} {Qw : State → Prop} (C0 : gi_Cx D dA b base L xs p R s m args meth c mi) {K : gi_K} (hK : ∀ pc lsA st h, K pc lsA st h → gi_G p l e R s m args below meth c D dA b base L xs mi n0 u0 Qw pc lsA st h) {pc : Nat} {lsA : gi_L} {st : List gi_V} {h : gi_H} {k : Nat} {n : Int} (hdec : decode (gi_b mi) pc = .ok (.iinc k n, 3)) (hdo : gi_inc K (pc + 3) lsA st h k n) : gi_G p l e R s m args below meth c D dA b base L xs mi n0 u0 Qw pc lsA st h := by
  obtain ⟨hx, hb, hr, hlocks, hml, hown, hnm, hts, hKK, hNe, hAO, hCa, hX, hbb, hbs, hrf, hrl⟩ := C0
  unfold gi_inc at hdo
  split at hdo
  · rename_i x hx1
    obtain ⟨hn, hu, hk⟩ := hK _ _ _ _ hdo
    refine ⟨hn, hu, fun ls H locs cells slots hst => ?_⟩
    obtain ⟨hR, ⟨hlen, lv, hlv, hmem⟩, hS, hc, hsl⟩ := hst
    obtain ⟨q, hq⟩ := List.getElem?_of_mem (hmem k _ hx1)
    have hlt : k < lsA.length := (List.getElem?_eq_some_iff.mp hx1).1
    exact lv_iinc hx hb hdec hlv hq rfl (by omega) rfl (fun ls2 h2 => hk ls2 H locs cells slots ⟨hR, gi_Lr_set (v := .inl (x + Int32.ofInt n)) hlen hmem h2, hS, hc, hsl⟩)
  · exact hdo.elim
theorem gs_iadd {p : Program} {l : Launch} {e : Env} {R : Room} {s : State} {m : MethodId} {args : Array Value} {below : List Frame} {meth : Method} {c : Code} {D : va_G} {dA : Nat → ClassId} {b base L : Nat} {xs : Nat → Int32} {mi n0 u0 : Nat} {Qw : State → Prop} (C0 : gi_Cx D dA b base L xs p R s m args meth c mi) {K : gi_K} (hK : ∀ pc lsA st h, K pc lsA st h → gi_G p l e R s m args below meth c D dA b base L xs mi n0 u0 Qw pc lsA st h) {pc : Nat} {lsA : gi_L} {st : List gi_V} {h : gi_H}  (hdec : decode (gi_b mi) pc = .ok (.iadd, 1)) (hdo : gi_2 K (pc + 1) lsA st h (fun x y => x + y)) : gi_G p l e R s m args below meth c D dA b base L xs mi n0 u0 Qw pc lsA st h := by
  obtain ⟨hx, hb, hr, hlocks, hml, hown, hnm, hts, hKK, hNe, hAO, hCa, hX, hbb, hbs, hrf, hrl⟩ := C0
  unfold gi_2 at hdo
  split at hdo
  · rename_i y x r
    obtain ⟨hn, hu, hk⟩ := hK _ _ _ _ hdo
    exact ⟨hn, hu, fun ls H locs cells slots hst => lv_iadd hx hb hdec (hk ls H locs cells slots hst)⟩
  · exact hdo.elim
theorem gs_isub {p : Program} {l : Launch} {e : Env} {R : Room} {s : State} {m : MethodId} {args : Array Value} {below : List Frame} {meth : Method} {c : Code} {D : va_G} {dA : Nat → ClassId} {b base L : Nat} {xs : Nat → Int32} {mi n0 u0 : Nat} {Qw : State → Prop} (C0 : gi_Cx D dA b base L xs p R s m args meth c mi) {K : gi_K} (hK : ∀ pc lsA st h, K pc lsA st h → gi_G p l e R s m args below meth c D dA b base L xs mi n0 u0 Qw pc lsA st h) {pc : Nat} {lsA : gi_L} {st : List gi_V} {h : gi_H}  (hdec : decode (gi_b mi) pc = .ok (.isub, 1)) (hdo : gi_2 K (pc + 1) lsA st h (fun x y => x - y)) : gi_G p l e R s m args below meth c D dA b base L xs mi n0 u0 Qw pc lsA st h := by
  obtain ⟨hx, hb, hr, hlocks, hml, hown, hnm, hts, hKK, hNe, hAO, hCa, hX, hbb, hbs, hrf, hrl⟩ := C0
  unfold gi_2 at hdo
  split at hdo
  · rename_i y x r
    obtain ⟨hn, hu, hk⟩ := hK _ _ _ _ hdo
    exact ⟨hn, hu, fun ls H locs cells slots hst => lv_isub hx hb hdec (hk ls H locs cells slots hst)⟩
  · exact hdo.elim
theorem gs_imul {p : Program} {l : Launch} {e : Env} {R : Room} {s : State} {m : MethodId} {args : Array Value} {below : List Frame} {meth : Method} {c : Code} {D : va_G} {dA : Nat → ClassId} {b base L : Nat} {xs : Nat → Int32} {mi n0 u0 : Nat} {Qw : State → Prop} (C0 : gi_Cx D dA b base L xs p R s m args meth c mi) {K : gi_K} (hK : ∀ pc lsA st h, K pc lsA st h → gi_G p l e R s m args below meth c D dA b base L xs mi n0 u0 Qw pc lsA st h) {pc : Nat} {lsA : gi_L} {st : List gi_V} {h : gi_H}  (hdec : decode (gi_b mi) pc = .ok (.imul, 1)) (hdo : gi_2 K (pc + 1) lsA st h (fun x y => x * y)) : gi_G p l e R s m args below meth c D dA b base L xs mi n0 u0 Qw pc lsA st h := by
  obtain ⟨hx, hb, hr, hlocks, hml, hown, hnm, hts, hKK, hNe, hAO, hCa, hX, hbb, hbs, hrf, hrl⟩ := C0
  unfold gi_2 at hdo
  split at hdo
  · rename_i y x r
    obtain ⟨hn, hu, hk⟩ := hK _ _ _ _ hdo
    exact ⟨hn, hu, fun ls H locs cells slots hst => lv_imul hx hb hdec (hk ls H locs cells slots hst)⟩
  · exact hdo.elim
theorem gs_iand {p : Program} {l : Launch} {e : Env} {R : Room} {s : State} {m : MethodId} {args : Array Value} {below : List Frame} {meth : Method} {c : Code} {D : va_G} {dA : Nat → ClassId} {b base L : Nat} {xs : Nat → Int32} {mi n0 u0 : Nat} {Qw : State → Prop} (C0 : gi_Cx D dA b base L xs p R s m args meth c mi) {K : gi_K} (hK : ∀ pc lsA st h, K pc lsA st h → gi_G p l e R s m args below meth c D dA b base L xs mi n0 u0 Qw pc lsA st h) {pc : Nat} {lsA : gi_L} {st : List gi_V} {h : gi_H}  (hdec : decode (gi_b mi) pc = .ok (.iand, 1)) (hdo : gi_2 K (pc + 1) lsA st h (fun x y => x &&& y)) : gi_G p l e R s m args below meth c D dA b base L xs mi n0 u0 Qw pc lsA st h := by
  obtain ⟨hx, hb, hr, hlocks, hml, hown, hnm, hts, hKK, hNe, hAO, hCa, hX, hbb, hbs, hrf, hrl⟩ := C0
  unfold gi_2 at hdo
  split at hdo
  · rename_i y x r
    obtain ⟨hn, hu, hk⟩ := hK _ _ _ _ hdo
    exact ⟨hn, hu, fun ls H locs cells slots hst => lv_iand hx hb hdec (hk ls H locs cells slots hst)⟩
  · exact hdo.elim
theorem gs_ior {p : Program} {l : Launch} {e : Env} {R : Room} {s : State} {m : MethodId} {args : Array Value} {below : List Frame} {meth : Method} {c : Code} {D : va_G} {dA : Nat → ClassId} {b base L : Nat} {xs : Nat → Int32} {mi n0 u0 : Nat} {Qw : State → Prop} (C0 : gi_Cx D dA b base L xs p R s m args meth c mi) {K : gi_K} (hK : ∀ pc lsA st h, K pc lsA st h → gi_G p l e R s m args below meth c D dA b base L xs mi n0 u0 Qw pc lsA st h) {pc : Nat} {lsA : gi_L} {st : List gi_V} {h : gi_H}  (hdec : decode (gi_b mi) pc = .ok (.ior, 1)) (hdo : gi_2 K (pc + 1) lsA st h (fun x y => x ||| y)) : gi_G p l e R s m args below meth c D dA b base L xs mi n0 u0 Qw pc lsA st h := by
  obtain ⟨hx, hb, hr, hlocks, hml, hown, hnm, hts, hKK, hNe, hAO, hCa, hX, hbb, hbs, hrf, hrl⟩ := C0
  unfold gi_2 at hdo
  split at hdo
  · rename_i y x r
    obtain ⟨hn, hu, hk⟩ := hK _ _ _ _ hdo
    exact ⟨hn, hu, fun ls H locs cells slots hst => lv_ior hx hb hdec (hk ls H locs cells slots hst)⟩
  · exact hdo.elim
theorem gs_ixor {p : Program} {l : Launch} {e : Env} {R : Room} {s : State} {m : MethodId} {args : Array Value} {below : List Frame} {meth : Method} {c : Code} {D : va_G} {dA : Nat → ClassId} {b base L : Nat} {xs : Nat → Int32} {mi n0 u0 : Nat} {Qw : State → Prop} (C0 : gi_Cx D dA b base L xs p R s m args meth c mi) {K : gi_K} (hK : ∀ pc lsA st h, K pc lsA st h → gi_G p l e R s m args below meth c D dA b base L xs mi n0 u0 Qw pc lsA st h) {pc : Nat} {lsA : gi_L} {st : List gi_V} {h : gi_H}  (hdec : decode (gi_b mi) pc = .ok (.ixor, 1)) (hdo : gi_2 K (pc + 1) lsA st h (fun x y => x ^^^ y)) : gi_G p l e R s m args below meth c D dA b base L xs mi n0 u0 Qw pc lsA st h := by
  obtain ⟨hx, hb, hr, hlocks, hml, hown, hnm, hts, hKK, hNe, hAO, hCa, hX, hbb, hbs, hrf, hrl⟩ := C0
  unfold gi_2 at hdo
  split at hdo
  · rename_i y x r
    obtain ⟨hn, hu, hk⟩ := hK _ _ _ _ hdo
    exact ⟨hn, hu, fun ls H locs cells slots hst => lv_ixor hx hb hdec (hk ls H locs cells slots hst)⟩
  · exact hdo.elim
theorem gs_ishl {p : Program} {l : Launch} {e : Env} {R : Room} {s : State} {m : MethodId} {args : Array Value} {below : List Frame} {meth : Method} {c : Code} {D : va_G} {dA : Nat → ClassId} {b base L : Nat} {xs : Nat → Int32} {mi n0 u0 : Nat} {Qw : State → Prop} (C0 : gi_Cx D dA b base L xs p R s m args meth c mi) {K : gi_K} (hK : ∀ pc lsA st h, K pc lsA st h → gi_G p l e R s m args below meth c D dA b base L xs mi n0 u0 Qw pc lsA st h) {pc : Nat} {lsA : gi_L} {st : List gi_V} {h : gi_H}  (hdec : decode (gi_b mi) pc = .ok (.ishl, 1)) (hdo : gi_2 K (pc + 1) lsA st h (fun x y => x <<< (y &&& 31))) : gi_G p l e R s m args below meth c D dA b base L xs mi n0 u0 Qw pc lsA st h := by
  obtain ⟨hx, hb, hr, hlocks, hml, hown, hnm, hts, hKK, hNe, hAO, hCa, hX, hbb, hbs, hrf, hrl⟩ := C0
  unfold gi_2 at hdo
  split at hdo
  · rename_i y x r
    obtain ⟨hn, hu, hk⟩ := hK _ _ _ _ hdo
    exact ⟨hn, hu, fun ls H locs cells slots hst => lv_ishl hx hb hdec (hk ls H locs cells slots hst)⟩
  · exact hdo.elim
theorem gs_ishr {p : Program} {l : Launch} {e : Env} {R : Room} {s : State} {m : MethodId} {args : Array Value} {below : List Frame} {meth : Method} {c : Code} {D : va_G} {dA : Nat → ClassId} {b base L : Nat} {xs : Nat → Int32} {mi n0 u0 : Nat} {Qw : State → Prop} (C0 : gi_Cx D dA b base L xs p R s m args meth c mi) {K : gi_K} (hK : ∀ pc lsA st h, K pc lsA st h → gi_G p l e R s m args below meth c D dA b base L xs mi n0 u0 Qw pc lsA st h) {pc : Nat} {lsA : gi_L} {st : List gi_V} {h : gi_H}  (hdec : decode (gi_b mi) pc = .ok (.ishr, 1)) (hdo : gi_2 K (pc + 1) lsA st h (fun x y => x >>> (y &&& 31))) : gi_G p l e R s m args below meth c D dA b base L xs mi n0 u0 Qw pc lsA st h := by
  obtain ⟨hx, hb, hr, hlocks, hml, hown, hnm, hts, hKK, hNe, hAO, hCa, hX, hbb, hbs, hrf, hrl⟩ := C0
  unfold gi_2 at hdo
  split at hdo
  · rename_i y x r
    obtain ⟨hn, hu, hk⟩ := hK _ _ _ _ hdo
    exact ⟨hn, hu, fun ls H locs cells slots hst => lv_ishr hx hb hdec (hk ls H locs cells slots hst)⟩
  · exact hdo.elim
theorem gs_idiv {p : Program} {l : Launch} {e : Env} {R : Room} {s : State} {m : MethodId} {args : Array Value} {below : List Frame} {meth : Method} {c : Code} {D : va_G} {dA : Nat → ClassId} {b base L : Nat} {xs : Nat → Int32} {mi n0 u0 : Nat} {Qw : State → Prop} (C0 : gi_Cx D dA b base L xs p R s m args meth c mi) {K : gi_K} (hK : ∀ pc lsA st h, K pc lsA st h → gi_G p l e R s m args below meth c D dA b base L xs mi n0 u0 Qw pc lsA st h) {pc : Nat} {lsA : gi_L} {st : List gi_V} {h : gi_H}  (hdec : decode (gi_b mi) pc = .ok (.idiv, 1)) (hdo : gi_2d K (pc + 1) lsA st h (fun x y => x / y)) : gi_G p l e R s m args below meth c D dA b base L xs mi n0 u0 Qw pc lsA st h := by
  obtain ⟨hx, hb, hr, hlocks, hml, hown, hnm, hts, hKK, hNe, hAO, hCa, hX, hbb, hbs, hrf, hrl⟩ := C0
  unfold gi_2d at hdo
  split at hdo
  · rename_i y x r
    obtain ⟨h0, hdo⟩ := hdo
    obtain ⟨hn, hu, hk⟩ := hK _ _ _ _ hdo
    exact ⟨hn, hu, fun ls H locs cells slots hst => lv_idiv hx hb hdec h0 (hk ls H locs cells slots hst)⟩
  · exact hdo.elim
theorem gs_irem {p : Program} {l : Launch} {e : Env} {R : Room} {s : State} {m : MethodId} {args : Array Value} {below : List Frame} {meth : Method} {c : Code} {D : va_G} {dA : Nat → ClassId} {b base L : Nat} {xs : Nat → Int32} {mi n0 u0 : Nat} {Qw : State → Prop} (C0 : gi_Cx D dA b base L xs p R s m args meth c mi) {K : gi_K} (hK : ∀ pc lsA st h, K pc lsA st h → gi_G p l e R s m args below meth c D dA b base L xs mi n0 u0 Qw pc lsA st h) {pc : Nat} {lsA : gi_L} {st : List gi_V} {h : gi_H}  (hdec : decode (gi_b mi) pc = .ok (.irem, 1)) (hdo : gi_2d K (pc + 1) lsA st h (fun x y => x - x / y * y)) : gi_G p l e R s m args below meth c D dA b base L xs mi n0 u0 Qw pc lsA st h := by
  obtain ⟨hx, hb, hr, hlocks, hml, hown, hnm, hts, hKK, hNe, hAO, hCa, hX, hbb, hbs, hrf, hrl⟩ := C0
  unfold gi_2d at hdo
  split at hdo
  · rename_i y x r
    obtain ⟨h0, hdo⟩ := hdo
    obtain ⟨hn, hu, hk⟩ := hK _ _ _ _ hdo
    exact ⟨hn, hu, fun ls H locs cells slots hst => lv_irem hx hb hdec h0 (hk ls H locs cells slots hst)⟩
  · exact hdo.elim
theorem gs_ineg {p : Program} {l : Launch} {e : Env} {R : Room} {s : State} {m : MethodId} {args : Array Value} {below : List Frame} {meth : Method} {c : Code} {D : va_G} {dA : Nat → ClassId} {b base L : Nat} {xs : Nat → Int32} {mi n0 u0 : Nat} {Qw : State → Prop} (C0 : gi_Cx D dA b base L xs p R s m args meth c mi) {K : gi_K} (hK : ∀ pc lsA st h, K pc lsA st h → gi_G p l e R s m args below meth c D dA b base L xs mi n0 u0 Qw pc lsA st h) {pc : Nat} {lsA : gi_L} {st : List gi_V} {h : gi_H}  (hdec : decode (gi_b mi) pc = .ok (.ineg, 1)) (hdo : gi_1 K (pc + 1) lsA st h (fun x => -x)) : gi_G p l e R s m args below meth c D dA b base L xs mi n0 u0 Qw pc lsA st h := by
  obtain ⟨hx, hb, hr, hlocks, hml, hown, hnm, hts, hKK, hNe, hAO, hCa, hX, hbb, hbs, hrf, hrl⟩ := C0
  unfold gi_1 at hdo
  split at hdo
  · rename_i x r
    obtain ⟨hn, hu, hk⟩ := hK _ _ _ _ hdo
    exact ⟨hn, hu, fun ls H locs cells slots hst => lv_ineg hx hb hdec (hk ls H locs cells slots hst)⟩
  · exact hdo.elim
theorem gs_i2b {p : Program} {l : Launch} {e : Env} {R : Room} {s : State} {m : MethodId} {args : Array Value} {below : List Frame} {meth : Method} {c : Code} {D : va_G} {dA : Nat → ClassId} {b base L : Nat} {xs : Nat → Int32} {mi n0 u0 : Nat} {Qw : State → Prop} (C0 : gi_Cx D dA b base L xs p R s m args meth c mi) {K : gi_K} (hK : ∀ pc lsA st h, K pc lsA st h → gi_G p l e R s m args below meth c D dA b base L xs mi n0 u0 Qw pc lsA st h) {pc : Nat} {lsA : gi_L} {st : List gi_V} {h : gi_H}  (hdec : decode (gi_b mi) pc = .ok (.i2b, 1)) (hdo : gi_1 K (pc + 1) lsA st h (fun x => x.toInt8.toInt32)) : gi_G p l e R s m args below meth c D dA b base L xs mi n0 u0 Qw pc lsA st h := by
  obtain ⟨hx, hb, hr, hlocks, hml, hown, hnm, hts, hKK, hNe, hAO, hCa, hX, hbb, hbs, hrf, hrl⟩ := C0
  unfold gi_1 at hdo
  split at hdo
  · rename_i x r
    obtain ⟨hn, hu, hk⟩ := hK _ _ _ _ hdo
    exact ⟨hn, hu, fun ls H locs cells slots hst => lv_i2b hx hb hdec rfl (hk ls H locs cells slots hst)⟩
  · exact hdo.elim
theorem gs_i2l {p : Program} {l : Launch} {e : Env} {R : Room} {s : State} {m : MethodId} {args : Array Value} {below : List Frame} {meth : Method} {c : Code} {D : va_G} {dA : Nat → ClassId} {b base L : Nat} {xs : Nat → Int32} {mi n0 u0 : Nat} {Qw : State → Prop} (C0 : gi_Cx D dA b base L xs p R s m args meth c mi) {K : gi_K} (hK : ∀ pc lsA st h, K pc lsA st h → gi_G p l e R s m args below meth c D dA b base L xs mi n0 u0 Qw pc lsA st h) {pc : Nat} {lsA : gi_L} {st : List gi_V} {h : gi_H}  (hdec : decode (gi_b mi) pc = .ok (.i2l, 1)) (hdo : gi_i2l K (pc + 1) lsA st h) : gi_G p l e R s m args below meth c D dA b base L xs mi n0 u0 Qw pc lsA st h := by
  obtain ⟨hx, hb, hr, hlocks, hml, hown, hnm, hts, hKK, hNe, hAO, hCa, hX, hbb, hbs, hrf, hrl⟩ := C0
  unfold gi_i2l at hdo
  split at hdo
  · rename_i x r
    obtain ⟨hn, hu, hk⟩ := hK _ _ _ _ hdo
    exact ⟨hn, hu, fun ls H locs cells slots hst => lv_i2l hx hb hdec rfl (hk ls H locs cells slots hst)⟩
  · exact hdo.elim
theorem gs_l2i {p : Program} {l : Launch} {e : Env} {R : Room} {s : State} {m : MethodId} {args : Array Value} {below : List Frame} {meth : Method} {c : Code} {D : va_G} {dA : Nat → ClassId} {b base L : Nat} {xs : Nat → Int32} {mi n0 u0 : Nat} {Qw : State → Prop} (C0 : gi_Cx D dA b base L xs p R s m args meth c mi) {K : gi_K} (hK : ∀ pc lsA st h, K pc lsA st h → gi_G p l e R s m args below meth c D dA b base L xs mi n0 u0 Qw pc lsA st h) {pc : Nat} {lsA : gi_L} {st : List gi_V} {h : gi_H}  (hdec : decode (gi_b mi) pc = .ok (.l2i, 1)) (hdo : gi_l2i K (pc + 1) lsA st h) : gi_G p l e R s m args below meth c D dA b base L xs mi n0 u0 Qw pc lsA st h := by
  obtain ⟨hx, hb, hr, hlocks, hml, hown, hnm, hts, hKK, hNe, hAO, hCa, hX, hbb, hbs, hrf, hrl⟩ := C0
  unfold gi_l2i at hdo
  split at hdo
  · rename_i x r
    obtain ⟨hn, hu, hk⟩ := hK _ _ _ _ hdo
    exact ⟨hn, hu, fun ls H locs cells slots hst => lv_l2i hx hb hdec rfl (hk ls H locs cells slots hst)⟩
  · exact hdo.elim
theorem gs_land {p : Program} {l : Launch} {e : Env} {R : Room} {s : State} {m : MethodId} {args : Array Value} {below : List Frame} {meth : Method} {c : Code} {D : va_G} {dA : Nat → ClassId} {b base L : Nat} {xs : Nat → Int32} {mi n0 u0 : Nat} {Qw : State → Prop} (C0 : gi_Cx D dA b base L xs p R s m args meth c mi) {K : gi_K} (hK : ∀ pc lsA st h, K pc lsA st h → gi_G p l e R s m args below meth c D dA b base L xs mi n0 u0 Qw pc lsA st h) {pc : Nat} {lsA : gi_L} {st : List gi_V} {h : gi_H}  (hdec : decode (gi_b mi) pc = .ok (.land, 1)) (hdo : gi_2L K (pc + 1) lsA st h (fun x y => x &&& y)) : gi_G p l e R s m args below meth c D dA b base L xs mi n0 u0 Qw pc lsA st h := by
  obtain ⟨hx, hb, hr, hlocks, hml, hown, hnm, hts, hKK, hNe, hAO, hCa, hX, hbb, hbs, hrf, hrl⟩ := C0
  unfold gi_2L at hdo
  split at hdo
  · rename_i y x r
    obtain ⟨hn, hu, hk⟩ := hK _ _ _ _ hdo
    exact ⟨hn, hu, fun ls H locs cells slots hst => lv_land hx hb hdec (hk ls H locs cells slots hst)⟩
  · exact hdo.elim
theorem gs_lor {p : Program} {l : Launch} {e : Env} {R : Room} {s : State} {m : MethodId} {args : Array Value} {below : List Frame} {meth : Method} {c : Code} {D : va_G} {dA : Nat → ClassId} {b base L : Nat} {xs : Nat → Int32} {mi n0 u0 : Nat} {Qw : State → Prop} (C0 : gi_Cx D dA b base L xs p R s m args meth c mi) {K : gi_K} (hK : ∀ pc lsA st h, K pc lsA st h → gi_G p l e R s m args below meth c D dA b base L xs mi n0 u0 Qw pc lsA st h) {pc : Nat} {lsA : gi_L} {st : List gi_V} {h : gi_H}  (hdec : decode (gi_b mi) pc = .ok (.lor, 1)) (hdo : gi_2L K (pc + 1) lsA st h (fun x y => x ||| y)) : gi_G p l e R s m args below meth c D dA b base L xs mi n0 u0 Qw pc lsA st h := by
  obtain ⟨hx, hb, hr, hlocks, hml, hown, hnm, hts, hKK, hNe, hAO, hCa, hX, hbb, hbs, hrf, hrl⟩ := C0
  unfold gi_2L at hdo
  split at hdo
  · rename_i y x r
    obtain ⟨hn, hu, hk⟩ := hK _ _ _ _ hdo
    exact ⟨hn, hu, fun ls H locs cells slots hst => lv_lor hx hb hdec (hk ls H locs cells slots hst)⟩
  · exact hdo.elim
theorem gs_lshl {p : Program} {l : Launch} {e : Env} {R : Room} {s : State} {m : MethodId} {args : Array Value} {below : List Frame} {meth : Method} {c : Code} {D : va_G} {dA : Nat → ClassId} {b base L : Nat} {xs : Nat → Int32} {mi n0 u0 : Nat} {Qw : State → Prop} (C0 : gi_Cx D dA b base L xs p R s m args meth c mi) {K : gi_K} (hK : ∀ pc lsA st h, K pc lsA st h → gi_G p l e R s m args below meth c D dA b base L xs mi n0 u0 Qw pc lsA st h) {pc : Nat} {lsA : gi_L} {st : List gi_V} {h : gi_H}  (hdec : decode (gi_b mi) pc = .ok (.lshl, 1)) (hdo : gi_2S K (pc + 1) lsA st h (fun x y => x <<< (y.toInt64 &&& 63))) : gi_G p l e R s m args below meth c D dA b base L xs mi n0 u0 Qw pc lsA st h := by
  obtain ⟨hx, hb, hr, hlocks, hml, hown, hnm, hts, hKK, hNe, hAO, hCa, hX, hbb, hbs, hrf, hrl⟩ := C0
  unfold gi_2S at hdo
  split at hdo
  · rename_i y x r
    obtain ⟨hn, hu, hk⟩ := hK _ _ _ _ hdo
    exact ⟨hn, hu, fun ls H locs cells slots hst => lv_lshl hx hb hdec rfl (hk ls H locs cells slots hst)⟩
  · exact hdo.elim
theorem gs_lshr {p : Program} {l : Launch} {e : Env} {R : Room} {s : State} {m : MethodId} {args : Array Value} {below : List Frame} {meth : Method} {c : Code} {D : va_G} {dA : Nat → ClassId} {b base L : Nat} {xs : Nat → Int32} {mi n0 u0 : Nat} {Qw : State → Prop} (C0 : gi_Cx D dA b base L xs p R s m args meth c mi) {K : gi_K} (hK : ∀ pc lsA st h, K pc lsA st h → gi_G p l e R s m args below meth c D dA b base L xs mi n0 u0 Qw pc lsA st h) {pc : Nat} {lsA : gi_L} {st : List gi_V} {h : gi_H}  (hdec : decode (gi_b mi) pc = .ok (.lshr, 1)) (hdo : gi_2S K (pc + 1) lsA st h (fun x y => x >>> (y.toInt64 &&& 63))) : gi_G p l e R s m args below meth c D dA b base L xs mi n0 u0 Qw pc lsA st h := by
  obtain ⟨hx, hb, hr, hlocks, hml, hown, hnm, hts, hKK, hNe, hAO, hCa, hX, hbb, hbs, hrf, hrl⟩ := C0
  unfold gi_2S at hdo
  split at hdo
  · rename_i y x r
    obtain ⟨hn, hu, hk⟩ := hK _ _ _ _ hdo
    exact ⟨hn, hu, fun ls H locs cells slots hst => lv_lshr hx hb hdec rfl (hk ls H locs cells slots hst)⟩
  · exact hdo.elim
theorem gs_lushr {p : Program} {l : Launch} {e : Env} {R : Room} {s : State} {m : MethodId} {args : Array Value} {below : List Frame} {meth : Method} {c : Code} {D : va_G} {dA : Nat → ClassId} {b base L : Nat} {xs : Nat → Int32} {mi n0 u0 : Nat} {Qw : State → Prop} (C0 : gi_Cx D dA b base L xs p R s m args meth c mi) {K : gi_K} (hK : ∀ pc lsA st h, K pc lsA st h → gi_G p l e R s m args below meth c D dA b base L xs mi n0 u0 Qw pc lsA st h) {pc : Nat} {lsA : gi_L} {st : List gi_V} {h : gi_H}  (hdec : decode (gi_b mi) pc = .ok (.lushr, 1)) (hdo : gi_2S K (pc + 1) lsA st h (fun x y => (x.toUInt64 >>> (y.toInt64.toUInt64 &&& Int64.toUInt64 63)).toInt64)) : gi_G p l e R s m args below meth c D dA b base L xs mi n0 u0 Qw pc lsA st h := by
  obtain ⟨hx, hb, hr, hlocks, hml, hown, hnm, hts, hKK, hNe, hAO, hCa, hX, hbb, hbs, hrf, hrl⟩ := C0
  unfold gi_2S at hdo
  split at hdo
  · rename_i y x r
    obtain ⟨hn, hu, hk⟩ := hK _ _ _ _ hdo
    exact ⟨hn, hu, fun ls H locs cells slots hst => lv_lushr hx hb hdec rfl (hk ls H locs cells slots hst)⟩
  · exact hdo.elim
theorem gs_lcmp {p : Program} {l : Launch} {e : Env} {R : Room} {s : State} {m : MethodId} {args : Array Value} {below : List Frame} {meth : Method} {c : Code} {D : va_G} {dA : Nat → ClassId} {b base L : Nat} {xs : Nat → Int32} {mi n0 u0 : Nat} {Qw : State → Prop} (C0 : gi_Cx D dA b base L xs p R s m args meth c mi) {K : gi_K} (hK : ∀ pc lsA st h, K pc lsA st h → gi_G p l e R s m args below meth c D dA b base L xs mi n0 u0 Qw pc lsA st h) {pc : Nat} {lsA : gi_L} {st : List gi_V} {h : gi_H}  (hdec : decode (gi_b mi) pc = .ok (.lcmp, 1)) (hdo : gi_lcmp K (pc + 1) lsA st h) : gi_G p l e R s m args below meth c D dA b base L xs mi n0 u0 Qw pc lsA st h := by
  obtain ⟨hx, hb, hr, hlocks, hml, hown, hnm, hts, hKK, hNe, hAO, hCa, hX, hbb, hbs, hrf, hrl⟩ := C0
  unfold gi_lcmp at hdo
  split at hdo
  · rename_i y x r
    obtain ⟨hn, hu, hk⟩ := hK _ _ _ _ hdo
    exact ⟨hn, hu, fun ls H locs cells slots hst => W.lcmp hx hb hdec (hk ls H locs cells slots hst)⟩
  · exact hdo.elim
theorem gs_dup {p : Program} {l : Launch} {e : Env} {R : Room} {s : State} {m : MethodId} {args : Array Value} {below : List Frame} {meth : Method} {c : Code} {D : va_G} {dA : Nat → ClassId} {b base L : Nat} {xs : Nat → Int32} {mi n0 u0 : Nat} {Qw : State → Prop} (C0 : gi_Cx D dA b base L xs p R s m args meth c mi) {K : gi_K} (hK : ∀ pc lsA st h, K pc lsA st h → gi_G p l e R s m args below meth c D dA b base L xs mi n0 u0 Qw pc lsA st h) {pc : Nat} {lsA : gi_L} {st : List gi_V} {h : gi_H}  (hdec : decode (gi_b mi) pc = .ok (.dup, 1)) (hdo : gi_dup K (pc + 1) lsA st h) : gi_G p l e R s m args below meth c D dA b base L xs mi n0 u0 Qw pc lsA st h := by
  obtain ⟨hx, hb, hr, hlocks, hml, hown, hnm, hts, hKK, hNe, hAO, hCa, hX, hbb, hbs, hrf, hrl⟩ := C0
  unfold gi_dup at hdo
  split at hdo
  · obtain ⟨hn, hu, hk⟩ := hK _ _ _ _ hdo
    exact ⟨hn, hu, fun ls H locs cells slots hst => lv_dup hx hb hdec rfl (hk ls H locs cells slots hst)⟩
  · rename_i x r
    obtain ⟨hn, hu, hk⟩ := hK _ _ _ _ hdo
    exact ⟨hn, hu, fun ls H locs cells slots hst => lv_dup hx hb hdec (gi_cat (fun x h => by cases h)) (hk ls H locs cells slots hst)⟩
  · exact hdo.elim
theorem gs_dup2 {p : Program} {l : Launch} {e : Env} {R : Room} {s : State} {m : MethodId} {args : Array Value} {below : List Frame} {meth : Method} {c : Code} {D : va_G} {dA : Nat → ClassId} {b base L : Nat} {xs : Nat → Int32} {mi n0 u0 : Nat} {Qw : State → Prop} (C0 : gi_Cx D dA b base L xs p R s m args meth c mi) {K : gi_K} (hK : ∀ pc lsA st h, K pc lsA st h → gi_G p l e R s m args below meth c D dA b base L xs mi n0 u0 Qw pc lsA st h) {pc : Nat} {lsA : gi_L} {st : List gi_V} {h : gi_H}  (hdec : decode (gi_b mi) pc = .ok (.dup2, 1)) (hdo : gi_dup2 K (pc + 1) lsA st h) : gi_G p l e R s m args below meth c D dA b base L xs mi n0 u0 Qw pc lsA st h := by
  obtain ⟨hx, hb, hr, hlocks, hml, hown, hnm, hts, hKK, hNe, hAO, hCa, hX, hbb, hbs, hrf, hrl⟩ := C0
  unfold gi_dup2 at hdo
  split at hdo
  · obtain ⟨hn, hu, hk⟩ := hK _ _ _ _ hdo
    exact ⟨hn, hu, fun ls H locs cells slots hst => lv_dup2_11 hx hb hdec rfl (gi_cat (fun x h => by cases h)) (hk ls H locs cells slots hst)⟩
  · exact hdo.elim
theorem gs_if_eq {p : Program} {l : Launch} {e : Env} {R : Room} {s : State} {m : MethodId} {args : Array Value} {below : List Frame} {meth : Method} {c : Code} {D : va_G} {dA : Nat → ClassId} {b base L : Nat} {xs : Nat → Int32} {mi n0 u0 : Nat} {Qw : State → Prop} (C0 : gi_Cx D dA b base L xs p R s m args meth c mi) {K : gi_K} (hK : ∀ pc lsA st h, K pc lsA st h → gi_G p l e R s m args below meth c D dA b base L xs mi n0 u0 Qw pc lsA st h) {pc : Nat} {lsA : gi_L} {st : List gi_V} {h : gi_H} {o : Int} {t : Nat} (ht : (pc : Int) + o = (t : Int)) (hdec : decode (gi_b mi) pc = .ok (.ifCond .eq o, 3)) (hdo : gi_br1 K pc lsA st h t (fun x => gi_cd .eq x 0)) : gi_G p l e R s m args below meth c D dA b base L xs mi n0 u0 Qw pc lsA st h := by
  obtain ⟨hx, hb, hr, hlocks, hml, hown, hnm, hts, hKK, hNe, hAO, hCa, hX, hbb, hbs, hrf, hrl⟩ := C0
  unfold gi_br1 at hdo
  split at hdo
  · rename_i x r
    have hb1 : gi_n h ≤ n0 + R.cells ∧ gi_u h ≤ u0 + R.slots := by
      rcases Classical.em (gi_cd .eq x 0) with q | q
      · exact ⟨(hK _ _ _ _ (hdo.1 q)).1, (hK _ _ _ _ (hdo.1 q)).2.1⟩
      · exact ⟨(hK _ _ _ _ (hdo.2 q)).1, (hK _ _ _ _ (hdo.2 q)).2.1⟩
    exact ⟨hb1.1, hb1.2, fun ls H locs cells slots hst => lv_if_eq hx hb hdec ht (fun q => (hK _ _ _ _ (hdo.1 q)).2.2 ls H locs cells slots hst) (fun q => (hK _ _ _ _ (hdo.2 q)).2.2 ls H locs cells slots hst)⟩
  · exact hdo.elim
theorem gs_icmp_eq {p : Program} {l : Launch} {e : Env} {R : Room} {s : State} {m : MethodId} {args : Array Value} {below : List Frame} {meth : Method} {c : Code} {D : va_G} {dA : Nat → ClassId} {b base L : Nat} {xs : Nat → Int32} {mi n0 u0 : Nat} {Qw : State → Prop} (C0 : gi_Cx D dA b base L xs p R s m args meth c mi) {K : gi_K} (hK : ∀ pc lsA st h, K pc lsA st h → gi_G p l e R s m args below meth c D dA b base L xs mi n0 u0 Qw pc lsA st h) {pc : Nat} {lsA : gi_L} {st : List gi_V} {h : gi_H} {o : Int} {t : Nat} (ht : (pc : Int) + o = (t : Int)) (hdec : decode (gi_b mi) pc = .ok (.if_icmp .eq o, 3)) (hdo : gi_br2 K pc lsA st h t (gi_cd .eq)) : gi_G p l e R s m args below meth c D dA b base L xs mi n0 u0 Qw pc lsA st h := by
  obtain ⟨hx, hb, hr, hlocks, hml, hown, hnm, hts, hKK, hNe, hAO, hCa, hX, hbb, hbs, hrf, hrl⟩ := C0
  unfold gi_br2 at hdo
  split at hdo
  · rename_i y x r
    have hb1 : gi_n h ≤ n0 + R.cells ∧ gi_u h ≤ u0 + R.slots := by
      rcases Classical.em (gi_cd .eq x y) with q | q
      · exact ⟨(hK _ _ _ _ (hdo.1 q)).1, (hK _ _ _ _ (hdo.1 q)).2.1⟩
      · exact ⟨(hK _ _ _ _ (hdo.2 q)).1, (hK _ _ _ _ (hdo.2 q)).2.1⟩
    exact ⟨hb1.1, hb1.2, fun ls H locs cells slots hst => lv_icmp_eq hx hb hdec ht (fun q => (hK _ _ _ _ (hdo.1 q)).2.2 ls H locs cells slots hst) (fun q => (hK _ _ _ _ (hdo.2 q)).2.2 ls H locs cells slots hst)⟩
  · exact hdo.elim
theorem gs_if_ne {p : Program} {l : Launch} {e : Env} {R : Room} {s : State} {m : MethodId} {args : Array Value} {below : List Frame} {meth : Method} {c : Code} {D : va_G} {dA : Nat → ClassId} {b base L : Nat} {xs : Nat → Int32} {mi n0 u0 : Nat} {Qw : State → Prop} (C0 : gi_Cx D dA b base L xs p R s m args meth c mi) {K : gi_K} (hK : ∀ pc lsA st h, K pc lsA st h → gi_G p l e R s m args below meth c D dA b base L xs mi n0 u0 Qw pc lsA st h) {pc : Nat} {lsA : gi_L} {st : List gi_V} {h : gi_H} {o : Int} {t : Nat} (ht : (pc : Int) + o = (t : Int)) (hdec : decode (gi_b mi) pc = .ok (.ifCond .ne o, 3)) (hdo : gi_br1 K pc lsA st h t (fun x => gi_cd .ne x 0)) : gi_G p l e R s m args below meth c D dA b base L xs mi n0 u0 Qw pc lsA st h := by
  obtain ⟨hx, hb, hr, hlocks, hml, hown, hnm, hts, hKK, hNe, hAO, hCa, hX, hbb, hbs, hrf, hrl⟩ := C0
  unfold gi_br1 at hdo
  split at hdo
  · rename_i x r
    have hb1 : gi_n h ≤ n0 + R.cells ∧ gi_u h ≤ u0 + R.slots := by
      rcases Classical.em (gi_cd .ne x 0) with q | q
      · exact ⟨(hK _ _ _ _ (hdo.1 q)).1, (hK _ _ _ _ (hdo.1 q)).2.1⟩
      · exact ⟨(hK _ _ _ _ (hdo.2 q)).1, (hK _ _ _ _ (hdo.2 q)).2.1⟩
    exact ⟨hb1.1, hb1.2, fun ls H locs cells slots hst => lv_if_ne hx hb hdec ht (fun q => (hK _ _ _ _ (hdo.1 q)).2.2 ls H locs cells slots hst) (fun q => (hK _ _ _ _ (hdo.2 (fun w => w q))).2.2 ls H locs cells slots hst)⟩
  · exact hdo.elim
theorem gs_icmp_ne {p : Program} {l : Launch} {e : Env} {R : Room} {s : State} {m : MethodId} {args : Array Value} {below : List Frame} {meth : Method} {c : Code} {D : va_G} {dA : Nat → ClassId} {b base L : Nat} {xs : Nat → Int32} {mi n0 u0 : Nat} {Qw : State → Prop} (C0 : gi_Cx D dA b base L xs p R s m args meth c mi) {K : gi_K} (hK : ∀ pc lsA st h, K pc lsA st h → gi_G p l e R s m args below meth c D dA b base L xs mi n0 u0 Qw pc lsA st h) {pc : Nat} {lsA : gi_L} {st : List gi_V} {h : gi_H} {o : Int} {t : Nat} (ht : (pc : Int) + o = (t : Int)) (hdec : decode (gi_b mi) pc = .ok (.if_icmp .ne o, 3)) (hdo : gi_br2 K pc lsA st h t (gi_cd .ne)) : gi_G p l e R s m args below meth c D dA b base L xs mi n0 u0 Qw pc lsA st h := by
  obtain ⟨hx, hb, hr, hlocks, hml, hown, hnm, hts, hKK, hNe, hAO, hCa, hX, hbb, hbs, hrf, hrl⟩ := C0
  unfold gi_br2 at hdo
  split at hdo
  · rename_i y x r
    have hb1 : gi_n h ≤ n0 + R.cells ∧ gi_u h ≤ u0 + R.slots := by
      rcases Classical.em (gi_cd .ne x y) with q | q
      · exact ⟨(hK _ _ _ _ (hdo.1 q)).1, (hK _ _ _ _ (hdo.1 q)).2.1⟩
      · exact ⟨(hK _ _ _ _ (hdo.2 q)).1, (hK _ _ _ _ (hdo.2 q)).2.1⟩
    exact ⟨hb1.1, hb1.2, fun ls H locs cells slots hst => lv_icmp_ne hx hb hdec ht (fun q => (hK _ _ _ _ (hdo.1 q)).2.2 ls H locs cells slots hst) (fun q => (hK _ _ _ _ (hdo.2 (fun w => w q))).2.2 ls H locs cells slots hst)⟩
  · exact hdo.elim
theorem gs_if_lt {p : Program} {l : Launch} {e : Env} {R : Room} {s : State} {m : MethodId} {args : Array Value} {below : List Frame} {meth : Method} {c : Code} {D : va_G} {dA : Nat → ClassId} {b base L : Nat} {xs : Nat → Int32} {mi n0 u0 : Nat} {Qw : State → Prop} (C0 : gi_Cx D dA b base L xs p R s m args meth c mi) {K : gi_K} (hK : ∀ pc lsA st h, K pc lsA st h → gi_G p l e R s m args below meth c D dA b base L xs mi n0 u0 Qw pc lsA st h) {pc : Nat} {lsA : gi_L} {st : List gi_V} {h : gi_H} {o : Int} {t : Nat} (ht : (pc : Int) + o = (t : Int)) (hdec : decode (gi_b mi) pc = .ok (.ifCond .lt o, 3)) (hdo : gi_br1 K pc lsA st h t (fun x => gi_cd .lt x 0)) : gi_G p l e R s m args below meth c D dA b base L xs mi n0 u0 Qw pc lsA st h := by
  obtain ⟨hx, hb, hr, hlocks, hml, hown, hnm, hts, hKK, hNe, hAO, hCa, hX, hbb, hbs, hrf, hrl⟩ := C0
  unfold gi_br1 at hdo
  split at hdo
  · rename_i x r
    have hb1 : gi_n h ≤ n0 + R.cells ∧ gi_u h ≤ u0 + R.slots := by
      rcases Classical.em (gi_cd .lt x 0) with q | q
      · exact ⟨(hK _ _ _ _ (hdo.1 q)).1, (hK _ _ _ _ (hdo.1 q)).2.1⟩
      · exact ⟨(hK _ _ _ _ (hdo.2 q)).1, (hK _ _ _ _ (hdo.2 q)).2.1⟩
    exact ⟨hb1.1, hb1.2, fun ls H locs cells slots hst => lv_if_lt hx hb hdec ht (fun q => (hK _ _ _ _ (hdo.1 q)).2.2 ls H locs cells slots hst) (fun q => (hK _ _ _ _ (hdo.2 q)).2.2 ls H locs cells slots hst)⟩
  · exact hdo.elim
theorem gs_icmp_lt {p : Program} {l : Launch} {e : Env} {R : Room} {s : State} {m : MethodId} {args : Array Value} {below : List Frame} {meth : Method} {c : Code} {D : va_G} {dA : Nat → ClassId} {b base L : Nat} {xs : Nat → Int32} {mi n0 u0 : Nat} {Qw : State → Prop} (C0 : gi_Cx D dA b base L xs p R s m args meth c mi) {K : gi_K} (hK : ∀ pc lsA st h, K pc lsA st h → gi_G p l e R s m args below meth c D dA b base L xs mi n0 u0 Qw pc lsA st h) {pc : Nat} {lsA : gi_L} {st : List gi_V} {h : gi_H} {o : Int} {t : Nat} (ht : (pc : Int) + o = (t : Int)) (hdec : decode (gi_b mi) pc = .ok (.if_icmp .lt o, 3)) (hdo : gi_br2 K pc lsA st h t (gi_cd .lt)) : gi_G p l e R s m args below meth c D dA b base L xs mi n0 u0 Qw pc lsA st h := by
  obtain ⟨hx, hb, hr, hlocks, hml, hown, hnm, hts, hKK, hNe, hAO, hCa, hX, hbb, hbs, hrf, hrl⟩ := C0
  unfold gi_br2 at hdo
  split at hdo
  · rename_i y x r
    have hb1 : gi_n h ≤ n0 + R.cells ∧ gi_u h ≤ u0 + R.slots := by
      rcases Classical.em (gi_cd .lt x y) with q | q
      · exact ⟨(hK _ _ _ _ (hdo.1 q)).1, (hK _ _ _ _ (hdo.1 q)).2.1⟩
      · exact ⟨(hK _ _ _ _ (hdo.2 q)).1, (hK _ _ _ _ (hdo.2 q)).2.1⟩
    exact ⟨hb1.1, hb1.2, fun ls H locs cells slots hst => lv_icmp_lt hx hb hdec ht (fun q => (hK _ _ _ _ (hdo.1 q)).2.2 ls H locs cells slots hst) (fun q => (hK _ _ _ _ (hdo.2 q)).2.2 ls H locs cells slots hst)⟩
  · exact hdo.elim
theorem gs_if_ge {p : Program} {l : Launch} {e : Env} {R : Room} {s : State} {m : MethodId} {args : Array Value} {below : List Frame} {meth : Method} {c : Code} {D : va_G} {dA : Nat → ClassId} {b base L : Nat} {xs : Nat → Int32} {mi n0 u0 : Nat} {Qw : State → Prop} (C0 : gi_Cx D dA b base L xs p R s m args meth c mi) {K : gi_K} (hK : ∀ pc lsA st h, K pc lsA st h → gi_G p l e R s m args below meth c D dA b base L xs mi n0 u0 Qw pc lsA st h) {pc : Nat} {lsA : gi_L} {st : List gi_V} {h : gi_H} {o : Int} {t : Nat} (ht : (pc : Int) + o = (t : Int)) (hdec : decode (gi_b mi) pc = .ok (.ifCond .ge o, 3)) (hdo : gi_br1 K pc lsA st h t (fun x => gi_cd .ge x 0)) : gi_G p l e R s m args below meth c D dA b base L xs mi n0 u0 Qw pc lsA st h := by
  obtain ⟨hx, hb, hr, hlocks, hml, hown, hnm, hts, hKK, hNe, hAO, hCa, hX, hbb, hbs, hrf, hrl⟩ := C0
  unfold gi_br1 at hdo
  split at hdo
  · rename_i x r
    have hb1 : gi_n h ≤ n0 + R.cells ∧ gi_u h ≤ u0 + R.slots := by
      rcases Classical.em (gi_cd .ge x 0) with q | q
      · exact ⟨(hK _ _ _ _ (hdo.1 q)).1, (hK _ _ _ _ (hdo.1 q)).2.1⟩
      · exact ⟨(hK _ _ _ _ (hdo.2 q)).1, (hK _ _ _ _ (hdo.2 q)).2.1⟩
    exact ⟨hb1.1, hb1.2, fun ls H locs cells slots hst => lv_if_ge hx hb hdec ht (fun q => (hK _ _ _ _ (hdo.1 q)).2.2 ls H locs cells slots hst) (fun q => (hK _ _ _ _ (hdo.2 q)).2.2 ls H locs cells slots hst)⟩
  · exact hdo.elim
theorem gs_icmp_ge {p : Program} {l : Launch} {e : Env} {R : Room} {s : State} {m : MethodId} {args : Array Value} {below : List Frame} {meth : Method} {c : Code} {D : va_G} {dA : Nat → ClassId} {b base L : Nat} {xs : Nat → Int32} {mi n0 u0 : Nat} {Qw : State → Prop} (C0 : gi_Cx D dA b base L xs p R s m args meth c mi) {K : gi_K} (hK : ∀ pc lsA st h, K pc lsA st h → gi_G p l e R s m args below meth c D dA b base L xs mi n0 u0 Qw pc lsA st h) {pc : Nat} {lsA : gi_L} {st : List gi_V} {h : gi_H} {o : Int} {t : Nat} (ht : (pc : Int) + o = (t : Int)) (hdec : decode (gi_b mi) pc = .ok (.if_icmp .ge o, 3)) (hdo : gi_br2 K pc lsA st h t (gi_cd .ge)) : gi_G p l e R s m args below meth c D dA b base L xs mi n0 u0 Qw pc lsA st h := by
  obtain ⟨hx, hb, hr, hlocks, hml, hown, hnm, hts, hKK, hNe, hAO, hCa, hX, hbb, hbs, hrf, hrl⟩ := C0
  unfold gi_br2 at hdo
  split at hdo
  · rename_i y x r
    have hb1 : gi_n h ≤ n0 + R.cells ∧ gi_u h ≤ u0 + R.slots := by
      rcases Classical.em (gi_cd .ge x y) with q | q
      · exact ⟨(hK _ _ _ _ (hdo.1 q)).1, (hK _ _ _ _ (hdo.1 q)).2.1⟩
      · exact ⟨(hK _ _ _ _ (hdo.2 q)).1, (hK _ _ _ _ (hdo.2 q)).2.1⟩
    exact ⟨hb1.1, hb1.2, fun ls H locs cells slots hst => lv_icmp_ge hx hb hdec ht (fun q => (hK _ _ _ _ (hdo.1 q)).2.2 ls H locs cells slots hst) (fun q => (hK _ _ _ _ (hdo.2 q)).2.2 ls H locs cells slots hst)⟩
  · exact hdo.elim
theorem gs_if_gt {p : Program} {l : Launch} {e : Env} {R : Room} {s : State} {m : MethodId} {args : Array Value} {below : List Frame} {meth : Method} {c : Code} {D : va_G} {dA : Nat → ClassId} {b base L : Nat} {xs : Nat → Int32} {mi n0 u0 : Nat} {Qw : State → Prop} (C0 : gi_Cx D dA b base L xs p R s m args meth c mi) {K : gi_K} (hK : ∀ pc lsA st h, K pc lsA st h → gi_G p l e R s m args below meth c D dA b base L xs mi n0 u0 Qw pc lsA st h) {pc : Nat} {lsA : gi_L} {st : List gi_V} {h : gi_H} {o : Int} {t : Nat} (ht : (pc : Int) + o = (t : Int)) (hdec : decode (gi_b mi) pc = .ok (.ifCond .gt o, 3)) (hdo : gi_br1 K pc lsA st h t (fun x => gi_cd .gt x 0)) : gi_G p l e R s m args below meth c D dA b base L xs mi n0 u0 Qw pc lsA st h := by
  obtain ⟨hx, hb, hr, hlocks, hml, hown, hnm, hts, hKK, hNe, hAO, hCa, hX, hbb, hbs, hrf, hrl⟩ := C0
  unfold gi_br1 at hdo
  split at hdo
  · rename_i x r
    have hb1 : gi_n h ≤ n0 + R.cells ∧ gi_u h ≤ u0 + R.slots := by
      rcases Classical.em (gi_cd .gt x 0) with q | q
      · exact ⟨(hK _ _ _ _ (hdo.1 q)).1, (hK _ _ _ _ (hdo.1 q)).2.1⟩
      · exact ⟨(hK _ _ _ _ (hdo.2 q)).1, (hK _ _ _ _ (hdo.2 q)).2.1⟩
    exact ⟨hb1.1, hb1.2, fun ls H locs cells slots hst => lv_if_gt hx hb hdec ht (fun q => (hK _ _ _ _ (hdo.1 q)).2.2 ls H locs cells slots hst) (fun q => (hK _ _ _ _ (hdo.2 q)).2.2 ls H locs cells slots hst)⟩
  · exact hdo.elim
theorem gs_icmp_gt {p : Program} {l : Launch} {e : Env} {R : Room} {s : State} {m : MethodId} {args : Array Value} {below : List Frame} {meth : Method} {c : Code} {D : va_G} {dA : Nat → ClassId} {b base L : Nat} {xs : Nat → Int32} {mi n0 u0 : Nat} {Qw : State → Prop} (C0 : gi_Cx D dA b base L xs p R s m args meth c mi) {K : gi_K} (hK : ∀ pc lsA st h, K pc lsA st h → gi_G p l e R s m args below meth c D dA b base L xs mi n0 u0 Qw pc lsA st h) {pc : Nat} {lsA : gi_L} {st : List gi_V} {h : gi_H} {o : Int} {t : Nat} (ht : (pc : Int) + o = (t : Int)) (hdec : decode (gi_b mi) pc = .ok (.if_icmp .gt o, 3)) (hdo : gi_br2 K pc lsA st h t (gi_cd .gt)) : gi_G p l e R s m args below meth c D dA b base L xs mi n0 u0 Qw pc lsA st h := by
  obtain ⟨hx, hb, hr, hlocks, hml, hown, hnm, hts, hKK, hNe, hAO, hCa, hX, hbb, hbs, hrf, hrl⟩ := C0
  unfold gi_br2 at hdo
  split at hdo
  · rename_i y x r
    have hb1 : gi_n h ≤ n0 + R.cells ∧ gi_u h ≤ u0 + R.slots := by
      rcases Classical.em (gi_cd .gt x y) with q | q
      · exact ⟨(hK _ _ _ _ (hdo.1 q)).1, (hK _ _ _ _ (hdo.1 q)).2.1⟩
      · exact ⟨(hK _ _ _ _ (hdo.2 q)).1, (hK _ _ _ _ (hdo.2 q)).2.1⟩
    exact ⟨hb1.1, hb1.2, fun ls H locs cells slots hst => lv_icmp_gt hx hb hdec ht (fun q => (hK _ _ _ _ (hdo.1 q)).2.2 ls H locs cells slots hst) (fun q => (hK _ _ _ _ (hdo.2 q)).2.2 ls H locs cells slots hst)⟩
  · exact hdo.elim
theorem gs_if_le {p : Program} {l : Launch} {e : Env} {R : Room} {s : State} {m : MethodId} {args : Array Value} {below : List Frame} {meth : Method} {c : Code} {D : va_G} {dA : Nat → ClassId} {b base L : Nat} {xs : Nat → Int32} {mi n0 u0 : Nat} {Qw : State → Prop} (C0 : gi_Cx D dA b base L xs p R s m args meth c mi) {K : gi_K} (hK : ∀ pc lsA st h, K pc lsA st h → gi_G p l e R s m args below meth c D dA b base L xs mi n0 u0 Qw pc lsA st h) {pc : Nat} {lsA : gi_L} {st : List gi_V} {h : gi_H} {o : Int} {t : Nat} (ht : (pc : Int) + o = (t : Int)) (hdec : decode (gi_b mi) pc = .ok (.ifCond .le o, 3)) (hdo : gi_br1 K pc lsA st h t (fun x => gi_cd .le x 0)) : gi_G p l e R s m args below meth c D dA b base L xs mi n0 u0 Qw pc lsA st h := by
  obtain ⟨hx, hb, hr, hlocks, hml, hown, hnm, hts, hKK, hNe, hAO, hCa, hX, hbb, hbs, hrf, hrl⟩ := C0
  unfold gi_br1 at hdo
  split at hdo
  · rename_i x r
    have hb1 : gi_n h ≤ n0 + R.cells ∧ gi_u h ≤ u0 + R.slots := by
      rcases Classical.em (gi_cd .le x 0) with q | q
      · exact ⟨(hK _ _ _ _ (hdo.1 q)).1, (hK _ _ _ _ (hdo.1 q)).2.1⟩
      · exact ⟨(hK _ _ _ _ (hdo.2 q)).1, (hK _ _ _ _ (hdo.2 q)).2.1⟩
    exact ⟨hb1.1, hb1.2, fun ls H locs cells slots hst => lv_if_le hx hb hdec ht (fun q => (hK _ _ _ _ (hdo.1 q)).2.2 ls H locs cells slots hst) (fun q => (hK _ _ _ _ (hdo.2 q)).2.2 ls H locs cells slots hst)⟩
  · exact hdo.elim
theorem gs_icmp_le {p : Program} {l : Launch} {e : Env} {R : Room} {s : State} {m : MethodId} {args : Array Value} {below : List Frame} {meth : Method} {c : Code} {D : va_G} {dA : Nat → ClassId} {b base L : Nat} {xs : Nat → Int32} {mi n0 u0 : Nat} {Qw : State → Prop} (C0 : gi_Cx D dA b base L xs p R s m args meth c mi) {K : gi_K} (hK : ∀ pc lsA st h, K pc lsA st h → gi_G p l e R s m args below meth c D dA b base L xs mi n0 u0 Qw pc lsA st h) {pc : Nat} {lsA : gi_L} {st : List gi_V} {h : gi_H} {o : Int} {t : Nat} (ht : (pc : Int) + o = (t : Int)) (hdec : decode (gi_b mi) pc = .ok (.if_icmp .le o, 3)) (hdo : gi_br2 K pc lsA st h t (gi_cd .le)) : gi_G p l e R s m args below meth c D dA b base L xs mi n0 u0 Qw pc lsA st h := by
  obtain ⟨hx, hb, hr, hlocks, hml, hown, hnm, hts, hKK, hNe, hAO, hCa, hX, hbb, hbs, hrf, hrl⟩ := C0
  unfold gi_br2 at hdo
  split at hdo
  · rename_i y x r
    have hb1 : gi_n h ≤ n0 + R.cells ∧ gi_u h ≤ u0 + R.slots := by
      rcases Classical.em (gi_cd .le x y) with q | q
      · exact ⟨(hK _ _ _ _ (hdo.1 q)).1, (hK _ _ _ _ (hdo.1 q)).2.1⟩
      · exact ⟨(hK _ _ _ _ (hdo.2 q)).1, (hK _ _ _ _ (hdo.2 q)).2.1⟩
    exact ⟨hb1.1, hb1.2, fun ls H locs cells slots hst => lv_icmp_le hx hb hdec ht (fun q => (hK _ _ _ _ (hdo.1 q)).2.2 ls H locs cells slots hst) (fun q => (hK _ _ _ _ (hdo.2 q)).2.2 ls H locs cells slots hst)⟩
  · exact hdo.elim
theorem gs_ifnull {p : Program} {l : Launch} {e : Env} {R : Room} {s : State} {m : MethodId} {args : Array Value} {below : List Frame} {meth : Method} {c : Code} {D : va_G} {dA : Nat → ClassId} {b base L : Nat} {xs : Nat → Int32} {mi n0 u0 : Nat} {Qw : State → Prop} (C0 : gi_Cx D dA b base L xs p R s m args meth c mi) {K : gi_K} (hK : ∀ pc lsA st h, K pc lsA st h → gi_G p l e R s m args below meth c D dA b base L xs mi n0 u0 Qw pc lsA st h) {pc : Nat} {lsA : gi_L} {st : List gi_V} {h : gi_H} {o : Int} {t : Nat} (ht : (pc : Int) + o = (t : Int)) (hdec : decode (gi_b mi) pc = .ok (.ifnull o, 3)) (hdo : gi_brN K pc lsA st h t) : gi_G p l e R s m args below meth c D dA b base L xs mi n0 u0 Qw pc lsA st h := by
  obtain ⟨hx, hb, hr, hlocks, hml, hown, hnm, hts, hKK, hNe, hAO, hCa, hX, hbb, hbs, hrf, hrl⟩ := C0
  unfold gi_brN at hdo
  split at hdo
  · rename_i x r
    cases x with
    | none =>
      obtain ⟨hn, hu, hk⟩ := hK _ _ _ _ (hdo.1 rfl)
      exact ⟨hn, hu, fun ls H locs cells slots hst => lv_ifnullN hx hb hdec ht (hk ls H locs cells slots hst)⟩
    | some x =>
      obtain ⟨hn, hu, hk⟩ := hK _ _ _ _ (hdo.2 (fun q => by cases q))
      exact ⟨hn, hu, fun ls H locs cells slots hst => lv_ifnull hx hb hdec (hk ls H locs cells slots hst)⟩
  · exact hdo.elim
theorem gs_ifnonnull {p : Program} {l : Launch} {e : Env} {R : Room} {s : State} {m : MethodId} {args : Array Value} {below : List Frame} {meth : Method} {c : Code} {D : va_G} {dA : Nat → ClassId} {b base L : Nat} {xs : Nat → Int32} {mi n0 u0 : Nat} {Qw : State → Prop} (C0 : gi_Cx D dA b base L xs p R s m args meth c mi) {K : gi_K} (hK : ∀ pc lsA st h, K pc lsA st h → gi_G p l e R s m args below meth c D dA b base L xs mi n0 u0 Qw pc lsA st h) {pc : Nat} {lsA : gi_L} {st : List gi_V} {h : gi_H} {o : Int} {t : Nat} (ht : (pc : Int) + o = (t : Int)) (hdec : decode (gi_b mi) pc = .ok (.ifnonnull o, 3)) (hdo : gi_brNN K pc lsA st h t) : gi_G p l e R s m args below meth c D dA b base L xs mi n0 u0 Qw pc lsA st h := by
  obtain ⟨hx, hb, hr, hlocks, hml, hown, hnm, hts, hKK, hNe, hAO, hCa, hX, hbb, hbs, hrf, hrl⟩ := C0
  unfold gi_brNN at hdo
  split at hdo
  · rename_i x r
    cases x with
    | none =>
      obtain ⟨hn, hu, hk⟩ := hK _ _ _ _ (hdo.2 rfl)
      exact ⟨hn, hu, fun ls H locs cells slots hst => lv_ifnonnullN hx hb hdec (hk ls H locs cells slots hst)⟩
    | some x =>
      obtain ⟨hn, hu, hk⟩ := hK _ _ _ _ (hdo.1 (fun q => by cases q))
      exact ⟨hn, hu, fun ls H locs cells slots hst => lv_ifnonnull hx hb hdec ht (hk ls H locs cells slots hst)⟩
  · exact hdo.elim
theorem gs_sw {K : gi_K} {pc : Nat} {lsA : gi_L} {st : List gi_V} {h : gi_H} {x : Int} {d : Nat} : ∀ (l : List Int) (v : Int), gi_sw K pc lsA st h x d v l → ((x < v ∨ v + (l.length : Int) ≤ x) ∧ K d lsA st h) ∨ (¬ x < v ∧ x < v + (l.length : Int) ∧ ∃ o, l[(x - v).toNat]? = some o ∧ K ((pc : Int) + o).toNat lsA st h)
  | [], v, hd => Or.inl ⟨by simp only [List.length_nil]; omega, hd⟩
  | o :: l, v, hd => by
    by_cases e : x = v
    · subst e
      refine Or.inr ⟨by omega, by simp only [List.length_cons]; omega, o, by simp, hd.1 rfl⟩
    · rcases gs_sw l (v + 1) (hd.2 e) with ⟨h1, h2⟩ | ⟨h1, h2, o2, h3, h4⟩
      · exact Or.inl ⟨by simp only [List.length_cons]; omega, h2⟩
      · refine Or.inr ⟨by omega, by simp only [List.length_cons]; omega, o2, ?_, h4⟩
        rw [show (x - v).toNat = (x - (v + 1)).toNat + 1 by omega]
        exact h3
theorem gs_tsw {p : Program} {l : Launch} {e : Env} {R : Room} {s : State} {m : MethodId} {args : Array Value} {below : List Frame} {meth : Method} {c : Code} {D : va_G} {dA : Nat → ClassId} {b base L : Nat} {xs : Nat → Int32} {mi n0 u0 : Nat} {Qw : State → Prop} (C0 : gi_Cx D dA b base L xs p R s m args meth c mi) {K : gi_K} (hK : ∀ pc lsA st h, K pc lsA st h → gi_G p l e R s m args below meth c D dA b base L xs mi n0 u0 Qw pc lsA st h) {pc : Nat} {lsA : gi_L} {st : List gi_V} {h : gi_H} {d lo hi : Int} {offs : Array Int} {len : Nat} (h1 : 0 ≤ (pc : Int) + d) (h2 : ∀ o ∈ offs.toList, 0 ≤ (pc : Int) + o) (h3 : hi - lo + 1 = (offs.size : Int)) (hdec : decode (gi_b mi) pc = .ok (.tableswitch d lo hi offs, len)) (hdo : gi_tsw K pc lsA st h d lo hi offs.toList) : gi_G p l e R s m args below meth c D dA b base L xs mi n0 u0 Qw pc lsA st h := by
  obtain ⟨hx, hb, hr, hlocks, hml, hown, hnm, hts, hKK, hNe, hAO, hCa, hX, hbb, hbs, hrf, hrl⟩ := C0
  unfold gi_tsw at hdo
  split at hdo
  · rename_i x r
    rcases gs_sw _ _ hdo with ⟨g1, g2⟩ | ⟨g1, g2, o, g3, g4⟩
    · obtain ⟨hn, hu, hk⟩ := hK _ _ _ _ g2
      exact ⟨hn, hu, fun ls H locs cells slots hst => lv_tableOut hx hb hdec (by rw [Array.length_toList] at g1; omega) (Int.toNat_of_nonneg h1).symm (hk ls H locs cells slots hst)⟩
    · obtain ⟨hn, hu, hk⟩ := hK _ _ _ _ g4
      exact ⟨hn, hu, fun ls H locs cells slots hst => lv_tableIn hx hb hdec g1 (by rw [Array.length_toList] at g2; omega) (by rw [← Array.getElem?_toList]; exact g3) (Int.toNat_of_nonneg (h2 o (List.mem_of_getElem? g3))).symm (hk ls H locs cells slots hst)⟩
  · exact hdo.elim

/-! the machine does what the interpreter says -/
def gi_Cx (D : va_G) (dA : Nat → ClassId) (b base L : Nat) (xs : Nat → Int32) (p : Program) (R : Room) (s : State) (m : MethodId) (args : Array Value) (meth : Method) (c : Code) (mi : Nat) : Prop :=
  p.tables.exec = Jvm.exec ∧ c.code = gi_b mi ∧ meth.sig.returnType = gi_ret mi ∧ meth.locks = false ∧ c.maxLocals = gi_nL mi ∧ s.vm.findClass (gi_ow (gi_oc mi)) = some m.cls ∧ ((gi_y mi).name = "<init>" → meth.name = "<init>") ∧ (∀ w ∈ gi_ws, w.before args s = true) ∧ va_K D gi_cl (gi_tys dA) s ∧ (∀ w ∈ gi_nest, va_Nw w s) ∧ (∀ C ∈ gi_ao, va_AO C s) ∧ va_Nw (.castable "[B" "java/lang/Cloneable") s ∧ va_X b L xs s s.heap ∧ b < base ∧ base ≤ s.heap.size ∧ gi_rf mi ≤ R.frames ∧ gi_rl mi ≤ R.locals
def gi_St (D : va_G) (dA : Nat → ClassId) (b base L : Nat) (xs : Nat → Int32) (s : State) (nL n0 u0 : Nat) (lsA : gi_L) (h : gi_H) (ls : Array Slot) (H : Heap) (locs : List Loc) (cells slots : Nat) : Prop :=
  gi_Rp D dA b base L xs h H ∧ gi_Lr (gi_ad b base) nL lsA ls ∧ va_S (fun q => base ≤ q) s.heap H locs ∧ gi_n h = n0 + cells ∧ gi_u h = u0 + slots
/-- what a callee's run says of the machine -/
def gi_Pc (D : va_G) (dA : Nat → ClassId) (b base L : Nat) (xs : Nat → Int32) (av : List gi_V) (h : gi_H) : Array Value → State → Prop := fun v U => v = (av.map (gi_tr (gi_ad b base))).toArray ∧ gi_Rp D dA b base L xs h U.heap ∧ va_K D gi_cl (gi_tys dA) U ∧ (∀ w ∈ gi_nest, va_Nw w U) ∧ (∀ C ∈ gi_ao, va_AO C U) ∧ va_Nw (.castable "[B" "java/lang/Cloneable") U ∧ va_X b L xs U U.heap ∧ b < base
def gi_Qc (D : va_G) (dA : Nat → ClassId) (b base L : Nat) (xs : Nat → Int32) (r : Option gi_V) (h' : gi_H) : Array Value → State → Outcome → State → Prop := fun _ st oc t => oc = .returned (r.map (gi_tr (gi_ad b base))) ∧ gi_Rp D dA b base L xs h' t.heap ∧ va_F (fun q => base ≤ q) st t
def gi_wm (y : Nat) : List Jvm.Cond := Jvm.Cond.code (gi_y y) (gi_b y) (gi_nL y) (gi_ret y) :: gi_ws
def gi_Ma (l : Launch) (D : va_G) (dA : Nat → ClassId) (b base L : Nat) (xs : Nat → Int32) (y : Nat) (av : List gi_V) (h : gi_H) (r : Option gi_V) (h' : gi_H) : Prop :=
  gi_n h ≤ gi_n h' ∧ gi_u h ≤ gi_u h' ∧ (y ∈ gi_Vs ∨ y ∈ gi_Ss ∨ y ∈ gi_Is → Met l (gi_y y) (gi_wm y) ({ frames := gi_rf y, cells := gi_n h' - gi_n h, slots := gi_u h' - gi_u h, locals := gi_rl y }) (gi_Pc D dA b base L xs av h) (gi_Qc D dA b base L xs r h') (gi_n h' - gi_n h) (gi_u h' - gi_u h) (fun q => base ≤ q))
theorem gi_size {p : Program} {l : Launch} {e : Env} {R : Room} {s : State} {m : MethodId} {args : Array Value} {below : List Frame} {meth : Method} {c : Code} {H : Heap} {locs : List Loc} {cells slots : Nat} {Q : State → Prop} {g : JFrame} (k : H.size ≤ s.heap.size + cells → W p l e R s m args below meth c H locs cells slots Q g) : W p l e R s m args below meth c H locs cells slots Q g :=
  fun T hT X => k (by rw [← hT]; exact X.heapSize) T hT X
/-- behind a store at an address -/
theorem gi_Rp_set {D : va_G} {dA : Nat → ClassId} {b base L : Nat} {xs : Nat → Int32} {h h' : gi_H} {H H1 : Heap} (hR : gi_Rp D dA b base L xs h H) {a : Nat} (h0 : 0 < a) (ha : a < gi_n h) (hn : gi_n h' = gi_n h) (hc : gi_c h' = gi_c h) (hE : ∀ x, x ≠ a → gi_E dA (gi_ad b base) h' x = gi_E dA (gi_ad b base) h x) (hI : gi_I h' 0 = gi_I h 0)
    (hP : va_P D gi_cl ((gi_wl dA (gi_ad b base) h).set (a - 1) (gi_ad b base a, gi_E dA (gi_ad b base) h' a)) H1) (hz : H1.size ≤ H.size) : gi_Rp D dA b base L xs h' H1 := by
  obtain ⟨-, h2, h3, h4, h5, h6⟩ := hR
  rw [gi_wl_set hn h0 hE] at hP
  refine ⟨hP, ?_, by omega, by rw [hc]; exact h4, by rw [hI]; exact h5, by rw [hc, hn]; exact h6⟩
  have h7 := gi_wl_at (dA := dA) (ad := gi_ad b base) (h := h') (a := gi_n h - 1) (by omega) (by omega)
  have h8 := (hP _ _ h7).lt
  rw [gi_ad_pos (by omega)] at h8
  omega
/-- behind a making -/
theorem gi_Rp_new {D : va_G} {dA : Nat → ClassId} {b base L : Nat} {xs : Nat → Int32} {h h' : gi_H} {H H1 : Heap} {q : Nat} (hR : gi_Rp D dA b base L xs h H) (hn : gi_n h' = gi_n h + 1) (hc : ∀ x, x ≠ gi_n h → gi_c h' x = gi_c h x) (hE : ∀ x, x ≠ gi_n h → gi_E dA (gi_ad b base) h' x = gi_E dA (gi_ad b base) h x) (hI : gi_I h' 0 = gi_I h 0)
    (hP : va_P D gi_cl (gi_wl dA (gi_ad b base) h ++ [(q, gi_E dA (gi_ad b base) h' (gi_n h))]) H1) (hD : va_D (fun q => base ≤ q) (gi_wl dA (gi_ad b base) h ++ [(q, gi_E dA (gi_ad b base) h' (gi_n h))])) (hz : H1.size ≤ H.size + 1) : q = gi_ad b base (gi_n h) ∧ gi_Rp D dA b base L xs h' H1 := by
  obtain ⟨hP0, h2, h3, h4, h5, h6⟩ := hR
  have hl : (gi_wl dA (gi_ad b base) h ++ [(q, gi_E dA (gi_ad b base) h' (gi_n h))])[gi_n h - 1]? = some (q, gi_E dA (gi_ad b base) h' (gi_n h)) := by
    rw [List.getElem?_append_right (by rw [gi_wl_len]; omega), gi_wl_len, Nat.sub_self]; rfl
  have hq1 : base ≤ q := hD.2 _ _ hl
  have hq2 : q < H1.size := (hP _ _ hl).lt
  have hq : q = gi_ad b base (gi_n h) := by
    rw [gi_ad_pos h3]
    rcases Nat.lt_or_ge q (base + (gi_n h - 1)) with e | e
    · have h7 := gi_wl_at (dA := dA) (ad := gi_ad b base) (h := h) (a := q - base + 1) (by omega) (by omega)
      rw [Nat.add_sub_cancel, gi_ad_pos (by omega)] at h7
      have h8 : (gi_wl dA (gi_ad b base) h ++ [(q, gi_E dA (gi_ad b base) h' (gi_n h))])[q - base]? = some (base + (q - base + 1 - 1), gi_E dA (gi_ad b base) h (q - base + 1)) := by
        rw [List.getElem?_append_left (by rw [gi_wl_len]; omega)]; exact h7
      have h9 := hD.1 _ _ _ _ h8 hl (by show base + (q - base + 1 - 1) = q; omega)
      omega
    · omega
  subst hq
  rw [gi_wl_app hn h3 hE] at hP
  refine ⟨rfl, hP, ?_, by omega, by rw [hc 0 (by omega)]; exact h4, by rw [hI]; exact h5, fun a ha => by rw [hc a (by omega)]; exact h6 a (by omega)⟩
  rw [gi_ad_pos h3] at hq2
  omega
theorem gi_E_eq {dA : Nat → ClassId} {ad : Nat → Nat} {h h' : gi_H} {x : Nat} (hc : gi_c h' x = gi_c h x) (hI : gi_I h' x = gi_I h x) (hR : gi_R h' x = gi_R h x) : gi_E dA ad h' x = gi_E dA ad h x := by
  have hf : ∀ ci, gi_fv ad h' x ci = gi_fv ad h x ci := fun ci => funext fun k => by simp only [gi_fv, hI, hR]
  simp only [gi_E, hc, hI, hR, hf]
theorem gi_E_pI {dA : Nat → ClassId} {ad : Nat → Nat} {h : gi_H} {a k x : Nat} {v : Int32} (hx : x ≠ a) : gi_E dA ad (gi_pI h a k v) x = gi_E dA ad h x :=
  gi_E_eq rfl (funext fun j => by simp [gi_I, gi_pI, hx]) rfl
theorem gi_E_pR {dA : Nat → ClassId} {ad : Nat → Nat} {h : gi_H} {a k x : Nat} {v : Option Nat} (hx : x ≠ a) : gi_E dA ad (gi_pR h a k v) x = gi_E dA ad h x :=
  gi_E_eq rfl rfl (funext fun j => by simp [gi_R, gi_pR, hx])
theorem gi_E_new {dA : Nat → ClassId} {ad : Nat → Nat} {h : gi_H} {t n u x : Nat} (hx : x ≠ gi_n h) : gi_E dA ad (gi_new h t n u) x = gi_E dA ad h x :=
  gi_E_eq (by simp [gi_c, gi_new, hx]) (funext fun j => by simp [gi_I, gi_new, hx]) (funext fun j => by simp [gi_R, gi_new, hx])
theorem gi_E_cpy {dA : Nat → ClassId} {ad : Nat → Nat} {h : gi_H} {a0 a1 sp dp n x : Nat} (hx : x ≠ a1) : gi_E dA ad (gi_cpy h a0 a1 sp dp n) x = gi_E dA ad h x :=
  gi_E_eq rfl (funext fun j => by simp [gi_I, gi_cpy, hx]) rfl

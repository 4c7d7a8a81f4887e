/-! what a heap of mine says of the machine's -/
def gi_ad (b base a : Nat) : Nat := match a with
  | 0 => b
  | a + 1 => base + a
def gi_tr (ad : Nat → Nat) (v : gi_V) : Value := match v with
  | .inl x => .int x
  | .inr (.inl x) => .long x
  | .inr (.inr r) => va_rf (r.map ad)
def gi_fr (ci k : Nat) : Bool := match gi_cl[ci]? with
  | some (_, T, _) => gi_isr (parseFieldDescriptor (T k).2.2.1)
  | none => false
def gi_nf (ci : Nat) : Nat := match gi_cl[ci]? with
  | some (_, _, N) => N
  | none => 0
def gi_fv (ad : Nat → Nat) (h : gi_H) (a ci k : Nat) : Value := if gi_fr ci k = true then va_rf ((gi_R h a k).map ad) else .int (gi_I h a k)
def gi_E (dA : Nat → ClassId) (ad : Nat → Nat) (h : gi_H) (a : Nat) : va_E :=
  if (gi_c h a).1 < 99 then .inr ((gi_c h a).1 - 1, (List.range (gi_nf ((gi_c h a).1 - 1))).map (gi_fv ad h a ((gi_c h a).1 - 1)))
  else if (gi_c h a).1 < 103 then .inl (dA ((gi_c h a).1 - 100), (gi_c h a).2, .inl (gi_I h a))
  else .inl (dA ((gi_c h a).1 - 100), (gi_c h a).2, .inr (.inr (.inr (.inr (fun i => (gi_R h a i).map ad)))))
def gi_wl (dA : Nat → ClassId) (ad : Nat → Nat) (h : gi_H) : va_W := (List.range (gi_n h - 1)).map (fun i => (ad (i + 1), gi_E dA ad h (i + 1)))
def gi_tys (dA : Nat → ClassId) : List (ClassId × FieldType) := [(dA 0, .int), (dA 1, .byte), (dA 2, .boolean), (dA 3, .object "GuardedInodes$Inode"), (dA 4, .object "GuardedInodes$Block"), (dA 5, .object "GuardedInodes$Quota"), (dA 6, .object "GuardedInodes$Attribute")]
def gi_Rp (D : va_G) (dA : Nat → ClassId) (b base L : Nat) (xs : Nat → Int32) (h : gi_H) (H : Heap) : Prop :=
  va_P D gi_cl (gi_wl dA (gi_ad b base) h) H ∧ H.size + 1 = base + gi_n h ∧ 0 < gi_n h ∧ gi_c h 0 = (99, L) ∧ (∀ i, i < L → gi_I h 0 i = xs i) ∧ (∀ a, gi_n h ≤ a → (gi_c h a).1 = 0)
def gi_Lr (ad : Nat → Nat) (nL : Nat) (lsA : gi_L) (ls : Array Slot) : Prop := lsA.length = nL ∧ ∃ l, lv_has ls nL l ∧ ∀ i v, lsA[i]? = some (some v) → (i, gi_tr ad v) ∈ l
theorem gi_wl_len {dA : Nat → ClassId} {ad : Nat → Nat} {h : gi_H} : (gi_wl dA ad h).length = gi_n h - 1 := by simp [gi_wl]
theorem gi_wl_at {dA : Nat → ClassId} {ad : Nat → Nat} {h : gi_H} {a : Nat} (h0 : 0 < a) (hn : a < gi_n h) : (gi_wl dA ad h)[a - 1]? = some (ad a, gi_E dA ad h a) := by
  unfold gi_wl
  rw [List.getElem?_map, List.getElem?_range (by omega)]
  simp only [Option.map_some]
  rw [show a - 1 + 1 = a by omega]
theorem gi_wl_of {dA : Nat → ClassId} {ad : Nat → Nat} {h : gi_H} {i : Nat} {q : Nat × va_E} (hq : (gi_wl dA ad h)[i]? = some q) : i + 1 < gi_n h ∧ q = (ad (i + 1), gi_E dA ad h (i + 1)) := by
  have hl := (List.getElem?_eq_some_iff.mp hq).1
  rw [gi_wl_len] at hl
  have h1 := gi_wl_at (dA := dA) (ad := ad) (h := h) (a := i + 1) (by omega) (by omega)
  rw [Nat.add_sub_cancel] at h1
  exact ⟨by omega, Option.some.inj (hq.symm.trans h1)⟩
theorem gi_wl_set {dA : Nat → ClassId} {ad : Nat → Nat} {h h' : gi_H} {a : Nat} (hn : gi_n h' = gi_n h) (h0 : 0 < a) (hE : ∀ x, x ≠ a → gi_E dA ad h' x = gi_E dA ad h x) : (gi_wl dA ad h).set (a - 1) (ad a, gi_E dA ad h' a) = gi_wl dA ad h' := by
  apply List.ext_getElem?
  intro i
  by_cases hl : i < gi_n h - 1
  · have h2 := gi_wl_at (dA := dA) (ad := ad) (h := h') (a := i + 1) (by omega) (by omega)
    rw [Nat.add_sub_cancel] at h2
    rw [h2]
    by_cases hi : i = a - 1
    · subst hi
      rw [List.getElem?_set_self (by rw [gi_wl_len]; exact hl), show a - 1 + 1 = a by omega]
    · have h1 := gi_wl_at (dA := dA) (ad := ad) (h := h) (a := i + 1) (by omega) (by omega)
      rw [Nat.add_sub_cancel] at h1
      rw [List.getElem?_set_ne (Ne.symm hi), h1, hE (i + 1) (by omega)]
  · rw [List.getElem?_eq_none (by rw [List.length_set, gi_wl_len]; omega), List.getElem?_eq_none (by rw [gi_wl_len]; omega)]
theorem gi_wl_app {dA : Nat → ClassId} {ad : Nat → Nat} {h h' : gi_H} (hn : gi_n h' = gi_n h + 1) (h0 : 0 < gi_n h) (hE : ∀ x, x ≠ gi_n h → gi_E dA ad h' x = gi_E dA ad h x) : gi_wl dA ad h ++ [(ad (gi_n h), gi_E dA ad h' (gi_n h))] = gi_wl dA ad h' := by
  unfold gi_wl
  rw [hn, show gi_n h + 1 - 1 = gi_n h - 1 + 1 by omega, List.range_succ, List.map_append]
  congr 1
  · apply List.map_congr_left
    intro x hx
    have := List.mem_range.mp hx
    rw [hE (x + 1) (by omega)]
  · simp only [List.map_cons, List.map_nil]
    rw [show gi_n h - 1 + 1 = gi_n h by omega]
theorem gi_ad_pos {b base a : Nat} (h : 0 < a) : gi_ad b base a = base + (a - 1) := by
  cases a with
  | zero => omega
  | succ a => rfl
theorem gi_ad_inj {b base a c : Nat} (hb : b < base) (h : gi_ad b base a = gi_ad b base c) : a = c := by
  cases a <;> cases c <;> simp only [gi_ad] at h <;> omega
theorem gi_D {dA : Nat → ClassId} {b base : Nat} {h : gi_H} : va_D (fun q => base ≤ q) (gi_wl dA (gi_ad b base) h) := by
  refine ⟨fun i j p q hi hj e => ?_, fun k q hk => ?_⟩
  · obtain ⟨-, rfl⟩ := gi_wl_of hi
    obtain ⟨-, rfl⟩ := gi_wl_of hj
    simp only [gi_ad] at e
    omega
  · obtain ⟨-, rfl⟩ := gi_wl_of hk
    simp only [gi_ad]
    omega
/-- an address whose tag is neither 0 nor the script's -/
theorem gi_tag_in {D : va_G} {dA : Nat → ClassId} {b base L : Nat} {xs : Nat → Int32} {h : gi_H} {H : Heap} (hR : gi_Rp D dA b base L xs h H) {x : Option Nat} {t : Nat} (ht : gi_tag h x = t) (h0 : t ≠ 0) (h9 : t ≠ 99) : ∃ a, x = some a ∧ 0 < a ∧ a < gi_n h ∧ (gi_c h a).1 = t := by
  obtain ⟨-, -, -, hc, -, hz⟩ := hR
  cases x with
  | none => exact absurd ht (fun e => h0 e.symm)
  | some a =>
    have ht : (gi_c h a).1 = t := ht
    refine ⟨a, rfl, ?_, ?_, ht⟩
    · rcases Nat.eq_zero_or_pos a with e | e
      · subst e
        rw [hc] at ht
        exact absurd ht (fun e => h9 e.symm)
      · exact e
    · rcases Nat.lt_or_ge a (gi_n h) with e | e
      · exact e
      · exact absurd ((hz a e).symm.trans ht) (fun e => h0 e.symm)
theorem gi_set_get {ls : gi_L} {i j : Nat} {v w : gi_V} (h : (gi_set ls i v)[j]? = some (some w)) : (j = i ∧ w = v) ∨ (j ≠ i ∧ ls[j]? = some (some w) ∧ (j + 1 = i → ∀ x, w ≠ .inr (.inl x))) := by
  have key : ∀ (l : gi_L), (l.set i (some v))[j]? = some (some w) → (j = i ∧ w = v) ∨ (j ≠ i ∧ l[j]? = some (some w)) := by
    intro l hl
    by_cases e : j = i
    · subst e
      have hlt : j < l.length := by
        have := (List.getElem?_eq_some_iff.mp hl).1
        rwa [List.length_set] at this
      rw [List.getElem?_set_self hlt] at hl
      exact Or.inl ⟨rfl, (Option.some.inj (Option.some.inj hl)).symm⟩
    · rw [List.getElem?_set_ne (Ne.symm e)] at hl
      exact Or.inr ⟨e, hl⟩
  unfold gi_set at h
  split at h
  · rcases key ls h with h | ⟨h1, h2⟩
    · exact Or.inl h
    · exact Or.inr ⟨h1, h2, fun e => by omega⟩
  · rename_i q
    split at h
    · rename_i y hy
      rcases key _ h with h | ⟨h1, h2⟩
      · exact Or.inl h
      · by_cases e : j = q
        · subst e
          have hlt : j < ls.length := (List.getElem?_eq_some_iff.mp hy).1
          rw [List.getElem?_set_self hlt] at h2
          exact absurd h2 (by simp)
        · rw [List.getElem?_set_ne (Ne.symm e)] at h2
          exact Or.inr ⟨h1, h2, fun e2 => by omega⟩
    · rename_i hy
      rcases key _ h with h | ⟨h1, h2⟩
      · exact Or.inl h
      · refine Or.inr ⟨h1, h2, fun e x hx => ?_⟩
        have e' : j = q := by omega
        subst e'
        subst hx
        exact hy x h2
theorem gi_set_len {ls : gi_L} {i : Nat} {v : gi_V} : (gi_set ls i v).length = ls.length := by
  unfold gi_set
  split
  · exact List.length_set
  · split <;> simp
theorem gi_cat {ad : Nat → Nat} {v : gi_V} (h : ∀ x, v ≠ .inr (.inl x)) : (gi_tr ad v).category = 1 := by
  rcases v with x | x | x
  · rfl
  · exact absurd rfl (h x)
  · cases x <;> rfl
theorem gi_cat2 {ad : Nat → Nat} {v : gi_V} (h : (gi_tr ad v).category = 2) : ∃ x, v = .inr (.inl x) := by
  rcases v with x | x | x
  · cases h
  · exact ⟨x, rfl⟩
  · cases x <;> cases h
theorem gi_Lr_at {ad : Nat → Nat} {nL : Nat} {lsA : gi_L} {ls : Array Slot} (h : gi_Lr ad nL lsA ls) {i : Nat} {v : gi_V} (hv : lsA[i]? = some (some v)) : ls[i]? = some (.val (gi_tr ad v)) := by
  obtain ⟨-, l, hl, hm⟩ := h
  exact hl.2.2 _ (hm i v hv)
theorem gi_Lr_set {ad : Nat → Nat} {nL : Nat} {lsA : gi_L} {l : List (Nat × Value)} (hlen : lsA.length = nL) (hm : ∀ i v, lsA[i]? = some (some v) → (i, gi_tr ad v) ∈ l) {i : Nat} {v : gi_V} {ls' : Array Slot} (h' : lv_has ls' nL ((i, gi_tr ad v) :: l.filter (fun q => !(q.1 == i) && !(q.1 + 1 == i && q.2.category == 2)))) : gi_Lr ad nL (gi_set lsA i v) ls' := by
  refine ⟨by rw [gi_set_len]; exact hlen, _, h', fun j w hj => ?_⟩
  rcases gi_set_get hj with ⟨rfl, rfl⟩ | ⟨h1, h2, h3⟩
  · exact List.mem_cons_self
  · refine List.mem_cons_of_mem _ (List.mem_filter.mpr ⟨hm j w h2, ?_⟩)
    simp only [Bool.and_eq_true, Bool.not_eq_true', beq_eq_false_iff_ne, Bool.and_eq_false_iff]
    refine ⟨h1, ?_⟩
    by_cases e : j + 1 = i
    · right
      intro hc
      obtain ⟨x, rfl⟩ := gi_cat2 hc
      exact h3 e x rfl
    · exact Or.inl e
theorem gi_Lr_set2 {ad : Nat → Nat} {nL : Nat} {lsA : gi_L} {l : List (Nat × Value)} (hlen : lsA.length = nL) (hm : ∀ i v, lsA[i]? = some (some v) → (i, gi_tr ad v) ∈ l) {i : Nat} {v : gi_V} {ls' : Array Slot} (h' : lv_has ls' nL ((i, gi_tr ad v) :: l.filter (fun q => !(q.1 == i) && (!(q.1 == i + 1) && !(q.1 + 1 == i && q.2.category == 2))))) : gi_Lr ad nL (gi_set2 lsA i v) ls' := by
  refine ⟨by unfold gi_set2; rw [List.length_set, gi_set_len]; exact hlen, _, h', fun j w hj => ?_⟩
  unfold gi_set2 at hj
  have hne : j ≠ i + 1 := by
    intro e
    subst e
    by_cases hlt : i + 1 < (gi_set lsA i v).length
    · rw [List.getElem?_set_self hlt] at hj
      exact absurd hj (by simp)
    · rw [List.getElem?_eq_none (by rw [List.length_set]; omega)] at hj
      cases hj
  rw [List.getElem?_set_ne (Ne.symm hne)] at hj
  rcases gi_set_get hj with ⟨rfl, rfl⟩ | ⟨h1, h2, h3⟩
  · exact List.mem_cons_self
  · refine List.mem_cons_of_mem _ (List.mem_filter.mpr ⟨hm j w h2, ?_⟩)
    simp only [Bool.and_eq_true, Bool.not_eq_true', beq_eq_false_iff_ne, Bool.and_eq_false_iff]
    refine ⟨h1, hne, ?_⟩
    by_cases e : j + 1 = i
    · right
      intro hc
      obtain ⟨x, rfl⟩ := gi_cat2 hc
      exact h3 e x rfl
    · exact Or.inl e

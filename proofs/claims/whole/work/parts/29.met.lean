/-! every call's contract; the walk of the law out of a run in the interpreter -/
theorem c_8 {d : Nat} {x y : Int32} {h : gi_H} {Q : gi_P} : gi_cx (d + 1) 8 [.inl x, .inl y] h Q ↔ Q (some (.inl (if y < x then y else x))) h := by
  refine gi_cx_iff ?_ Q
  rw [gi_cx_run rfl]
  refine ⟨rfl, ?_⟩
  show gi_ex _ _ _ 0 [some (.inl x), some (.inl y)] [] h
  simp only [x8_0, x8_1, x8_2, x8_5, x8_6, x8_9, x8_10, ldI_0, ldI_1]
  exact ⟨fun q => ⟨by rw [if_pos q], trivial⟩, fun q => ⟨by rw [if_neg q], trivial⟩⟩
theorem gi_met {l : Launch} {D : va_G} {dA : Nat → ClassId} {b base L : Nat} {xs : Nat → Int32} : ∀ d y av h Q, gi_cx d y av h Q → ∃ r h', Q r h' ∧ gi_Ma l D dA b base L xs y av h r h'
  | 0 => fun y av h Q hd => hd.elim
  | d + 1 => fun y av h Q hd => by
    obtain ⟨r, h', hq, mono, iff⟩ := gi_det (d + 1) y av h Q hd
    refine ⟨r, h', hq, mono.1, mono.2, fun hy => ?_⟩
    have hd2 := (iff (fun r1 h1 => r1 = r ∧ h1 = h')).mp ⟨rfl, rfl⟩
    cases q : Nat.beq y 78 with
    | false =>
      rw [gi_cx_eq q] at hd2
      obtain ⟨hl, n, hw⟩ := hd2
      exact gi_met1 (gi_met d) mono.1 mono.2 hy hl hw
    | true =>
      rw [gi_cx_eq1 q] at hd2
      have e := Nat.eq_of_beq_eq_true q
      subst e
      refine gi_met_cpo (cp := fun y av h Q => y = 8 ∧ gi_cx 1 y av h Q) ?_ ?_ hd2
      · rintro y av h Q ⟨rfl, hd⟩
        obtain ⟨r, h', hq, mono, iff⟩ := gi_det 1 8 av h Q hd
        refine ⟨r, h', hq, mono.1, mono.2, fun hy => ?_⟩
        have hd := (iff (fun r1 h1 => r1 = r ∧ h1 = h')).mp ⟨rfl, rfl⟩
        rw [gi_cx_eq rfl] at hd
        obtain ⟨hl, n, hw⟩ := hd
        exact gi_met1 (cp := gi_cx 0) (fun _ _ _ _ w => w.elim) mono.1 mono.2 hy hl hw
      · intro x y h Q hle hQ
        refine ⟨rfl, c_8.mpr ?_⟩
        by_cases w : y < x
        · rw [if_pos w]; exact hQ
        · rw [if_neg w]
          have e : x = y := Int32.le_antisymm (Int32.not_lt.mp w) hle
          rw [e]
          exact hQ
theorem gi_start {p : Program} {e : Env} {s : State} {m : MethodId} {below : List Frame} {meth : Method} {c : Code} (l : Launch) {b L : Nat} {xs : Nat → Int32} (C0 : lw_At p s m meth c b L xs) (hrun : ∃ d, gi_ex (gi_cx d) 0 gi_Ql 0 [some (.inr (.inr (some 0))), none, none, none] [] (gi_h0 L xs)) : W p l e room_1 s m #[Value.ref b] below meth c s.heap [] 0 0 (lw_Z below #[Value.ref b] s) (entryFrame m ([Value.ref b] : List Value).toArray 4) := by
  obtain ⟨d, n, hw⟩ := hrun
  exact gi_whole (fun D dA b base L xs d => gi_met d) C0 hw

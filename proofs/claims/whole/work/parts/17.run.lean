/-! a run without fuel: one instruction, one equation -/
def gi_ex (cp : Nat → List gi_V → gi_H → gi_P → Prop) (mi : Nat) (Q : gi_P) : gi_K := fun p ls st h => ∃ n, gi_wp cp mi Q n p ls st h
theorem gi_ex_code {cp : Nat → List gi_V → gi_H → gi_P → Prop} (hcp : gi_Dc cp) {mi : Nat} {Q : gi_P} {pc : Nat} {ls : gi_L} {st : List gi_V} {h : gi_H} {i : Instr} {len a1 a2 : Nat} (hc : gi_code mi pc = some (i, len, a1, a2)) : gi_ex cp mi Q pc ls st h = gi_do cp (gi_rz mi) Q (gi_ex cp mi Q) i a1 a2 pc ls st h := by
  apply propext
  constructor
  · rintro ⟨n, hw⟩
    cases n with
    | zero => exact hw.elim
    | succ n =>
      rw [gi_wp_code hc] at hw
      rcases gi_det_do Q _ hw with ⟨p', l', s', h', b1, b0, b2⟩ | ⟨v, b1, b2⟩ | ⟨y, av, p', l', s', b1, b2⟩
      · exact (b2 Q _).mp ⟨n, b1⟩
      · exact (b2 Q _).mp b1
      · obtain ⟨r1, h1, c1, c0, c2⟩ := hcp _ _ _ _ b1
        exact (b2 Q _).mp ((c2 _).mp ⟨n, c1⟩)
  · intro hw
    rcases gi_det_do Q _ hw with ⟨p', l', s', h', ⟨n, b1⟩, b0, b2⟩ | ⟨v, b1, b2⟩ | ⟨y, av, p', l', s', b1, b2⟩
    · exact ⟨n + 1, by rw [gi_wp_code hc]; exact (b2 Q _).mp b1⟩
    · exact ⟨1, by rw [gi_wp_code hc]; exact (b2 Q _).mp b1⟩
    · obtain ⟨r1, h1, ⟨n, c1⟩, c0, c2⟩ := hcp _ _ _ _ b1
      exact ⟨n + 1, by rw [gi_wp_code hc]; exact (b2 Q _).mp ((c2 _).mp c1)⟩
theorem gi_cx_run {d y : Nat} (q : Nat.beq y 78 = false) (av : List gi_V) (h : gi_H) (Q : gi_P) : gi_cx (d + 1) y av h Q = ((gi_ent (gi_nL y) av).length = gi_nL y ∧ gi_ex (gi_cx d) y Q 0 (gi_ent (gi_nL y) av) [] h) := gi_cx_eq q av h Q

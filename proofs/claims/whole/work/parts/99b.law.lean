/-! the law: its loop -/
set_option maxRecDepth 100000

theorem law_lp {L : Nat} {xs : Nat → Int32} {d : Nat} (hL : L ≤ 50000) : ∀ m c (h : gi_H), jH L xs c h → 7 * c ≤ L → L < 7 * c + 7 * m + 7 → gi_ex (gi_cx (d + 8)) 0 gi_Ql 18 [some (.inr (.inr (some 0))), some (.inr (.inr (some 1))), some (.inr (.inr (some 79))), some (.inl (nI (7 * c)))] [] h
  | m, c, h, J, hcL, hm => by
    have hS := J.1
    have hc2 : c ≤ 7142 := by omega
    have t0 : gi_tag h (some 0) = 99 := by rw [tag_s, J.2.2.1]
    have l0 : gi_len h (some 0) = L := by rw [len_s, J.2.2.1]
    have I0 : ∀ j, gi_I h 0 j = xs j := J.2.2.2.1
    have nn0 : ((99 : Nat) = 100) = False := by decide
    have nn1 : ((99 : Nat) = 99) = True := by decide
    have nn2 : ((98 : Nat) < 99) = True := by decide
    have nn3 : ((99 : Nat) < 107) = True := by decide
    have ce : (nI L - 7 < nI (7 * c)) = (L < 7 * c + 7) := by
      have e7 : (nI L - 7).toInt = (L : Int) - 7 := by
        rw [Int32.toInt_sub, nI_toInt (by omega), show (7 : Int32).toInt = 7 by decide]
        exact Int.bmod_eq_of_le (by omega) (by omega)
      apply propext
      rw [i32_lt, e7, nI_toInt (by omega)]
      constructor <;> intro w <;> omega
    rw [x0_18]
    by_cases w : L < 7 * c + 7
    · have w1 : (L < 7 * c + 7) = True := eq_true w
      simp only [x0_19, x0_20, x0_21, x0_23, x0_24, x0_27, x0_28, x0_29, x0_30, x0_32, x0_1265, x0_1266, ldI_3, ldR_0, I_pI, R_pI, c_pI, n_pI, u_pI, t_pI, l_pI, I_pR, R_pR, c_pR, n_pR, u_pR, t_pR, l_pR, get_s, Option.toList, List.nil_append, List.cons_append, List.length_nil, List.length_cons, gi_B, true_and, and_true, false_and, and_false, not_true_eq_false, not_false_eq_true, true_implies, false_implies, implies_true, Classical.not_not, ite_true, ite_false, Option.some.injEq, Sum.inl.injEq, exists_eq', eq_self, true_or, or_true, false_or, or_false, Nat.reduceEqDiff, Nat.reduceLeDiff, Nat.reduceAdd, Nat.zero_le, one_ne0, if_neg one_ne0', lt_102_103, lt_102_104, lt_102_105, lt_102_106, lt_99_107, lt_100_107, lt_101_107, lt_103_107, lt_104_107, lt_105_107, lt_106_107, lt_98_99, lt_98_100, lt_98_101, lt_98_106, t0, l0, nn2, nn3, nI_of_len, ce, w1]
      have n1 := J.2.2.2.2.2.2.2.2.2.2.2.2.1
      have n2 := J.2.2.2.2.2.2.2.2.2.2.2.2.2
      exact ⟨rfl, by omega, by omega⟩
    · have w1 : (L < 7 * c + 7) = False := eq_false w
      obtain ⟨m', rfl⟩ : ∃ m', m = m' + 1 := ⟨m - 1, by omega⟩
      have f0 : vp_in (nI (7 * c)) L = True := eq_true (vp_in_nI (by omega) (by omega))
      have g0 : (nI (7 * c)).toNatClampNeg = 7 * c := nI_clamp (by omega)
      have nx : ∀ h2, jH L xs (c + 1) h2 → gi_ex (gi_cx (d + 8)) 0 gi_Ql 1259 [some (.inr (.inr (some 0))), some (.inr (.inr (some 1))), some (.inr (.inr (some 79))), some (.inl (nI (7 * c)))] [] h2 := fun h2 J2 => by
        have q := law_lp (d := d) hL m' (c + 1) h2 J2 (by omega) (by omega)
        have e : nI (7 * c) + Int32.ofInt 7 = nI (7 * (c + 1)) := nI_add _ _
        rw [← e] at q
        rw [x0_1259]
        show gi_ex (gi_cx (d + 8)) 0 gi_Ql 1262 [some (.inr (.inr (some 0))), some (.inr (.inr (some 1))), some (.inr (.inr (some 79))), some (.inl (nI (7 * c) + Int32.ofInt 7))] [] h2
        rw [x0_1262]
        exact q
      simp only [x0_19, x0_20, x0_21, x0_23, x0_24, x0_27, x0_28, x0_29, x0_30, x0_32, x0_1265, x0_1266, ldI_3, ldR_0, I_pI, R_pI, c_pI, n_pI, u_pI, t_pI, l_pI, I_pR, R_pR, c_pR, n_pR, u_pR, t_pR, l_pR, get_s, Option.toList, List.nil_append, List.cons_append, List.length_nil, List.length_cons, gi_B, true_and, and_true, false_and, and_false, not_true_eq_false, not_false_eq_true, true_implies, false_implies, implies_true, Classical.not_not, ite_true, ite_false, Option.some.injEq, Sum.inl.injEq, exists_eq', eq_self, true_or, or_true, false_or, or_false, Nat.reduceEqDiff, Nat.reduceLeDiff, Nat.reduceAdd, Nat.zero_le, one_ne0, if_neg one_ne0', lt_102_103, lt_102_104, lt_102_105, lt_102_106, lt_99_107, lt_100_107, lt_101_107, lt_103_107, lt_104_107, lt_105_107, lt_106_107, lt_98_99, lt_98_100, lt_98_101, lt_98_106, t0, l0, nn0, nn1, nn2, nn3, nI_of_len, ce, w1, f0, g0, I0]
      rw [x0_33]
      exact ⟨fun _ => lw_144 J hc2 (by omega) hL nx, fun _ => ⟨fun _ => lw_167 J hc2 (by omega) hL nx, fun _ => ⟨fun _ => lw_200 J hc2 (by omega) hL nx, fun _ => ⟨fun _ => lw_259 J hc2 (by omega) hL nx, fun _ => ⟨fun _ => lw_292 J hc2 (by omega) hL nx, fun _ => ⟨fun _ => lw_345 J hc2 (by omega) hL nx, fun _ => ⟨fun _ => lw_378 J hc2 (by omega) hL nx, fun _ => ⟨fun _ => lw_473 J hc2 (by omega) hL nx, fun _ => ⟨fun _ => lw_527 J hc2 (by omega) hL nx, fun _ => ⟨fun _ => lw_570 J hc2 (by omega) hL nx, fun _ => ⟨fun _ => lw_613 J hc2 (by omega) hL nx, fun _ => ⟨fun _ => lw_666 J hc2 (by omega) hL nx, fun _ => ⟨fun _ => lw_757 J hc2 (by omega) hL nx, fun _ => ⟨fun _ => lw_816 J hc2 (by omega) hL nx, fun _ => ⟨fun _ => lw_859 J hc2 (by omega) hL nx, fun _ => ⟨fun _ => lw_882 J hc2 (by omega) hL nx, fun _ => ⟨fun _ => lw_925 J hc2 (by omega) hL nx, fun _ => ⟨fun _ => lw_968 J hc2 (by omega) hL nx, fun _ => ⟨fun _ => lw_1021 J hc2 (by omega) hL nx, fun _ => ⟨fun _ => lw_1054 J hc2 (by omega) hL nx, fun _ => ⟨fun _ => lw_1117 J hc2 (by omega) hL nx, fun _ => ⟨fun _ => lw_1160 J hc2 (by omega) hL nx, fun _ => ⟨fun _ => lw_1203 J hc2 (by omega) hL nx, fun _ => ⟨fun _ => lw_1236 J hc2 (by omega) hL nx, fun _ => nx h (jH_up J)⟩⟩⟩⟩⟩⟩⟩⟩⟩⟩⟩⟩⟩⟩⟩⟩⟩⟩⟩⟩⟩⟩⟩⟩
termination_by m => m

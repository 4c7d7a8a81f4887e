/-! who may do what, in the class -/
def b2 (t : Bool) : Int32 := bif t then 1 else 0
theorem s3 : (3 : Int32) &&& 31 = 3 := by decide
theorem s6 : (6 : Int32) &&& 31 = 6 := by decide
theorem c_25a {d r i : Nat} {h : gi_H} {Q : gi_P} (t1 : gi_tag h (some r) = 6) (t2 : gi_tag h (some (r + 1)) = 100) (t3 : gi_len h (some (r + 1)) = 32) (t4 : gi_R h r 4 = some (r + 1)) (hk : i < 16) : gi_cx (d + 1) 25 [.inr (.inr (some r)), .inl 0, .inl (nI i)] h Q ↔ Q (some (.inl (gi_I h (r + 1) i))) h := by
  have := c_25 (d := d) (k := 0) (i := i) (Q := Q) t1 t2 t3 t4 (by omega)
  rw [show 16 * 0 + i = i by omega] at this
  exact this
theorem c_25b {d r i : Nat} {h : gi_H} {Q : gi_P} (t1 : gi_tag h (some r) = 6) (t2 : gi_tag h (some (r + 1)) = 100) (t3 : gi_len h (some (r + 1)) = 32) (t4 : gi_R h r 4 = some (r + 1)) (hk : i < 16) : gi_cx (d + 1) 25 [.inr (.inr (some r)), .inl 1, .inl (nI i)] h Q ↔ Q (some (.inl (gi_I h (r + 1) (16 + i)))) h :=
  c_25 (d := d) (k := 1) (i := i) (Q := Q) t1 t2 t3 t4 (by omega)
/-- a turn over the groups: is there some entry, does some have all of x -/
def gf_ (S : gi_Z) (l u : Nat) (x : Int32) (j : Nat) (s : Bool × Bool) : Bool × Bool := bif !decide (S 98 (32 * l + (16 + j)) = -1) && inG S u (nI j) then (true, s.2 || decide (S 98 (32 * l + (16 + j)) &&& x = x)) else s
def gs_ (S : gi_Z) (l u : Nat) (g x : Int32) : Bool × Bool := gi_fd (gf_ S l u x) 0 16 (inG S u g, inG S u g && decide (S 95 l &&& x = x))
def li_ (S : gi_Z) (l u : Nat) (g mo x : Int32) : Prop := (¬ S 98 (32 * l + u) = -1 ∧ (mo >>> 3) &&& x = x ∧ S 98 (32 * l + u) &&& x = x) ∨ (S 98 (32 * l + u) = -1 ∧ (((gs_ S l u g x).1 = true ∧ (mo >>> 3) &&& x = x ∧ (gs_ S l u g x).2 = true) ∨ ((gs_ S l u g x).1 = false ∧ mo &&& x = x)))
theorem lp_24 {d u l a r : Nat} {x v5 v6 : Int32} {h : gi_H} {Q : gi_P} (hS : gi_S h) (hA : rA h (gi_I h)) (hu : u < 16) (H : rL h (gi_I h) l (some r)) : ∀ m j (s : Bool × Bool), j + m = 16 → (∀ l10, gi_ex (gi_cx (d + 1)) 24 Q 84 [some (.inr (.inr (some 1))), some (.inr (.inr (some a))), some (.inr (.inr (some r))), some (.inl (nI u)), some (.inl x), some (.inl v5), some (.inl v6), some (.inl (b2 (gi_fd (gf_ (gi_I h) l u x) j m s).1)), some (.inl (b2 (gi_fd (gf_ (gi_I h) l u x) j m s).2)), some (.inl (nI 16)), l10] [] h) → ∀ l10, gi_ex (gi_cx (d + 1)) 24 Q 84 [some (.inr (.inr (some 1))), some (.inr (.inr (some a))), some (.inr (.inr (some r))), some (.inl (nI u)), some (.inl x), some (.inl v5), some (.inl v6), some (.inl (b2 s.1)), some (.inl (b2 s.2)), some (.inl (nI j)), l10] [] h := by
  obtain ⟨t1, t2, t3, t4, t5, t6⟩ := rL_t H
  refine loop_st (σ := Bool × Bool) (E := fun s iq => ∀ l10, gi_ex (gi_cx (d + 1)) 24 Q 84 [some (.inr (.inr (some 1))), some (.inr (.inr (some a))), some (.inr (.inr (some r))), some (.inl (nI u)), some (.inl x), some (.inl v5), some (.inl v6), some (.inl (b2 s.1)), some (.inl (b2 s.2)), some (.inl iq), l10] [] h) (f := gf_ (gi_I h) l u x) (fun j hj s hx => ?_)
  intro l10
  rw [x24_84]
  simp only [x24_0, x24_1, x24_4, x24_7, x24_9, x24_12, x24_14, x24_15, x24_16, x24_17, x24_20, x24_22, x24_24, x24_25, x24_28, x24_30, x24_33, x24_35, x24_37, x24_40, x24_43, x24_44, x24_47, x24_48, x24_49, x24_50, x24_52, x24_53, x24_55, x24_56, x24_57, x24_58, x24_61, x24_64, x24_67, x24_68, x24_70, x24_71, x24_74, x24_76, x24_79, x24_81, x24_82, x24_86, x24_88, x24_91, x24_92, x24_93, x24_95, x24_98, x24_100, x24_102, x24_103, x24_106, x24_107, x24_108, x24_110, x24_113, x24_116, x24_117, x24_119, x24_121, x24_124, x24_126, x24_128, x24_131, x24_134, x24_135, x24_138, x24_139, x24_141, x24_144, x24_147, x24_149, x24_152, x24_154, x24_157, x24_159, x24_162, x24_163, x24_166, x24_167, x24_170, x24_171, x24_174, x24_177, x24_179, x24_182, inc_9i, inc_9n, inc_9r, ldI_10, ldI_3, ldI_4, ldI_5, ldI_6, ldI_7, ldI_8, ldI_9, ldR_0, ldR_1, ldR_2, stI_10i, stI_10n, stI_10r, stI_5i, stI_5n, stI_5r, stI_6i, stI_6n, stI_6r, stI_7i, stI_7n, stI_7r, stI_8i, stI_8n, stI_8r, stI_9i, stI_9n, stI_9r, I_pI, R_pI, c_pI, n_pI, u_pI, t_pI, l_pI, I_pR, R_pR, c_pR, n_pR, u_pR, t_pR, l_pR, get_s, Option.toList, List.nil_append, List.cons_append, List.length_nil, List.length_cons, gi_B, true_and, and_true, false_and, and_false, not_true_eq_false, not_false_eq_true, true_implies, false_implies, implies_true, Classical.not_not, ite_true, ite_false, Option.some.injEq, Sum.inl.injEq, exists_eq', eq_self, true_or, or_true, false_or, or_false, Nat.reduceEqDiff, Nat.reduceLeDiff, Nat.reduceAdd, Nat.zero_le, one_ne0, if_neg one_ne0', lt_102_103, lt_102_104, lt_102_105, lt_102_106, lt_99_107, lt_100_107, lt_101_107, lt_103_107, lt_104_107, lt_105_107, lt_106_107, lt_98_99, lt_98_100, lt_98_101, lt_98_106, n16, lit_le (show 16 < 2147483648 by omega) hj, nI_clamp (show j < 2 ^ 31 by omega), nI_i1, t1, tg_1 hS, c_25b t1 t2 t3 t4 hj, t6 (16 + j) (by omega), c_21 hS hA hu, c_20]
  unfold gf_ at hx
  by_cases w1 : gi_I h 98 (32 * l + (16 + j)) = -1
  · simp only [w1, decide_true, Bool.not_true, Bool.false_and, cond_false] at hx
    exact ⟨fun _ => hx _, fun q => absurd w1 q⟩
  · refine ⟨fun q => absurd q w1, fun _ => ?_⟩
    cases w2 : inG (gi_I h) u (nI j) with
    | false =>
      simp only [w1, w2, decide_false, Bool.not_false, Bool.true_and, cond_false] at hx
      exact ⟨fun q => absurd q (by decide), fun _ => hx _⟩
    | true =>
      simp only [w1, w2, decide_false, Bool.not_false, Bool.true_and, cond_true] at hx
      refine ⟨fun _ => ?_, fun q => absurd rfl q⟩
      cases w3 : s.2 with
      | true =>
        simp only [w3, Bool.true_or] at hx
        exact ⟨fun _ => hx _, fun q => absurd q (by decide)⟩
      | false =>
        simp only [w3, Bool.false_or] at hx
        refine ⟨fun q => absurd (show b2 false = 0 from rfl) q, fun _ => ?_⟩
        by_cases w4 : gi_I h 98 (32 * l + (16 + j)) &&& x = x
        · rw [decide_eq_true w4] at hx
          exact ⟨fun _ => hx _, fun q => absurd w4 q⟩
        · rw [decide_eq_false w4] at hx
          exact ⟨fun q => absurd q w4, fun _ => hx _⟩

/-! create: the class, in one -/
set_option maxRecDepth 100000

/-- what was there is there as it was -/
def ext (h g : gi_H) : Prop := gi_n h ≤ gi_n g ∧ ∀ x, x < gi_n h → gi_c g x = gi_c h x ∧ (∀ y, gi_I g x y = gi_I h x y) ∧ (∀ y, gi_R g x y = gi_R h x y)
theorem ext_S {h g : gi_H} (E : ext h g) (hS : gi_S h) : gi_S g := by
  have h109 := hS.1
  obtain ⟨en, E⟩ := E
  refine ⟨by omega, fun e he => ?_, fun e he => ?_, fun p hp => ⟨?_, ?_⟩⟩
  · have z : ∀ e ∈ gi_cs, e.1 < 109 := by decide
    have := z e he
    rw [(E _ (by omega)).1]
    exact hS.2.1 e he
  · have z : ∀ e ∈ gi_rs, e.1 < 109 := by decide
    have := z e he
    rw [(E _ (by omega)).2.2]
    exact hS.2.2.1 e he
  · rw [(E _ (by omega)).1]
    exact (hS.2.2.2 p hp).1
  · rw [(E _ (by omega)).2.2]
    exact (hS.2.2.2 p hp).2
theorem ext_U0 {h g : gi_H} (E : ext h g) (hS : gi_S h) {p : Nat} (hp : p < 64) : U0 g p = U0 h p := by
  have h109 := hS.1
  unfold U0
  rw [(E.2 (11 + p) (by omega)).2.1, (E.2 (11 + p) (by omega)).2.1]
theorem ext_QC {h g : gi_H} {S : gi_Z} (E : ext h g) (hS : gi_S h) (H : QC h S) : QC g S := by
  have h109 := hS.1
  refine ⟨fun p hp => ⟨?_, ?_⟩, ?_, fun k hk => ?_⟩
  · rw [(E.2 _ (by omega)).2.1]; exact (H.1 p hp).1
  · rw [(E.2 _ (by omega)).2.1]; exact (H.1 p hp).2
  · rw [(E.2 _ (by omega)).2.1]; exact H.2.1
  · rw [(E.2 _ (by omega)).2.1]; exact H.2.2 k hk
theorem ext_QR {h g : gi_H} {S : gi_Z} (E : ext h g) (hS : gi_S h) (H : QR h S) : QR g S := by
  have h109 := hS.1
  refine ⟨ext_QC E hS H.1, fun p hp => ?_, H.2.2⟩
  rw [(E.2 _ (by omega)).2.1, (E.2 _ (by omega)).2.1]
  exact H.2.1 p hp
theorem ext_ni {h : gi_H} {k f u g m : Int32} : ext h (ni h k f u g m) := by
  refine ⟨by rw [n_ni]; omega, fun x hx => ⟨?_, fun y => ?_, fun y => ?_⟩⟩
  · rw [c_ni, if_neg (by omega), if_neg (by omega), if_neg (by omega)]
  · rw [I_ni, if_neg (by omega), if_neg (by omega), if_neg (by omega)]
  · rw [R_ni, if_neg (by omega), if_neg (by omega), if_neg (by omega)]
/-- the heap behind the new inode's inheritance -/
def inh (h : gi_H) (a : Nat) (k f u g m ms : Int32) (S : gi_Z) (l : Nat) : gi_H := match gi_R h a 10 with
  | none => gi_pI (ni h k f u g m) (gi_n h) 4 (((m &&& 511) &&& (ms ^^^ -1)) ||| abv k m (gi_I h a 4))
  | some r => gi_pI (if k = 2 then gi_pR (cl (gi_pR (cl (ni h k f u g m) r) (gi_n h) 9 (some (gi_n h + 3))) r) (gi_n h) 10 (some (gi_n h + 5)) else gi_pR (gi_pR (cl (ni h k f u g m) r) (gi_n h) 9 (some (gi_n h + 3))) (gi_n h) 10 none) (gi_n h) 4 ((m &&& ((S 96 l <<< (6 &&& 31)) ||| (al_ S l <<< (3 &&& 31)) ||| S 97 l)) ||| abv k m (gi_I h a 4))
theorem ext_pI {h g : gi_H} {a j : Nat} {v : Int32} (E : ext h g) (ha : gi_n h ≤ a) : ext h (gi_pI g a j v) := ⟨E.1, fun x hx => ⟨(E.2 x hx).1, fun y => by rw [I_pI, if_neg (by omega)]; exact (E.2 x hx).2.1 y, (E.2 x hx).2.2⟩⟩
theorem ext_pR {h g : gi_H} {a j : Nat} {v : Option Nat} (E : ext h g) (ha : gi_n h ≤ a) : ext h (gi_pR g a j v) := ⟨E.1, fun x hx => ⟨(E.2 x hx).1, (E.2 x hx).2.1, fun y => by rw [R_pR, if_neg (by omega)]; exact (E.2 x hx).2.2 y⟩⟩
theorem ext_cl {h g : gi_H} {b : Nat} (E : ext h g) : ext h (cl g b) := by
  have en := E.1
  refine ⟨by rw [n_cl]; omega, fun x hx => ⟨?_, fun y => ?_, fun y => ?_⟩⟩
  · rw [c_cl, if_neg (by omega), if_neg (by omega)]; exact (E.2 x hx).1
  · rw [I_cl, if_neg (by omega), if_neg (by omega)]; exact (E.2 x hx).2.1 y
  · rw [R_cl, if_neg (by omega), if_neg (by omega)]; exact (E.2 x hx).2.2 y
theorem ext_inh {h : gi_H} {a : Nat} {k f u g m ms : Int32} {S : gi_Z} {l : Nat} : ext h (inh h a k f u g m ms S l) := by
  unfold inh
  cases gi_R h a 10 with
  | none => exact ext_pI ext_ni (Nat.le_refl _)
  | some r =>
    refine ext_pI ?_ (Nat.le_refl _)
    split
    · exact ext_pR (ext_cl (ext_pR (ext_cl ext_ni) (Nat.le_refl _))) (Nat.le_refl _)
    · exact ext_pR (ext_pR (ext_cl ext_ni) (Nat.le_refl _)) (Nat.le_refl _)
theorem rL_ext {h g : gi_H} {S : gi_Z} {l : Nat} {r : Option Nat} (E : ext h g) (hF : rF h) (H : rL h S l r) : rL g S l r := by
  refine rL_fr (fun b e x hx => ?_) (fun _ _ => rfl) (fun _ _ => rfl) H
  obtain ⟨g1, g2, g3, g4, -⟩ := H.2 b e
  refine E.2 x (Nat.lt_of_not_le (fun w => ?_))
  rcases hx with rfl | rfl
  · rw [hF _ w] at g3; cases g3
  · rw [hF _ w] at g4; cases g4
theorem inh_a {h : gi_H} {a : Nat} {k f u g m ms : Int32} {S : gi_Z} {l : Nat} : gi_c (inh h a k f u g m ms S l) (gi_n h) = (5, 0) ∧ gi_I (inh h a k f u g m ms S l) (gi_n h) 2 = u ∧ gi_I (inh h a k f u g m ms S l) (gi_n h) 3 = g := by
  unfold inh
  have n0 : gi_n (ni h k f u g m) = gi_n h + 3 := rfl
  cases gi_R h a 10 with
  | none => simp [c_pI, I_pI, c_ni, I_ni]
  | some r =>
    by_cases w : k = 2
    · simp [c_pI, I_pI, c_pR, I_pR, c_cl, I_cl, c_ni, I_ni, n_pR, n_cl, n_ni, w, Nat.add_assoc]
    · simp [c_pI, I_pI, c_pR, I_pR, c_cl, I_cl, c_ni, I_ni, n_pR, n_cl, n_ni, w, Nat.add_assoc]
theorem qst_c {g : gi_H} {U V : gi_T} (e : ∀ p, p < 64 → U p = V p) : qst g U = qst g V := by
  refine gi_ext (fun _ => rfl) (fun x j => ?_) (fun _ _ => rfl) rfl rfl
  rw [I_qst, I_qst]
  by_cases w : 11 ≤ x ∧ x < 75
  · rw [e (x - 11) (by omega)]
  · rw [if_neg (fun z => w ⟨z.1, z.2.1⟩), if_neg (fun z => w ⟨z.1, z.2.1⟩), if_neg (fun z => w ⟨z.1, z.2.1⟩), if_neg (fun z => w ⟨z.1, z.2.1⟩)]
theorem bo_c {F : Nat → Int32 × Int32 → Int32 × Int32} {x y p : Nat} {U V : gi_T} (e : ∀ p, p < 64 → U p = V p) (hx : x < 64) (hy : y < 64) (hp : p < 64) : bo_ F x y U p = bo_ F x y V p := by
  unfold bo_
  rw [e p hp]
theorem c_33_i {L : Nat} {xs : Nat → Int32} {c d n a : Nat} {k f u g m ms : Int32} {h : gi_H} {Q : gi_P} (J : jH L xs c h) (hn : n < 64) (hN : rN h (gi_I h) n a) : gi_cx (d + 4) 33 [.inr (.inr (some (gi_n h))), .inr (.inr (some a)), .inl m, .inl ms] (ni h k f u g m) Q ↔ Q none (inh h a k f u g m ms (gi_I h) (2 * n + 1)) := by
  have hS := J.1
  have jF := J.2.1
  obtain ⟨d1, d2, d3, c1, c2, c3, f7, f8, k0, k1, k2, k3, k4, k5, k6, kp, kl, kf, kt⟩ := id hN
  have lt : ∀ x t m, gi_c h x = (t, m) → t ≠ 0 → x < gi_n h := fun x t m e ht => Nat.lt_of_not_le (fun w => by rw [jF x w] at e; cases e; exact ht rfl)
  have la := lt a _ _ c1 (by decide)
  have E : ext h (ni h k f u g m) := ext_ni
  have ta : gi_tag (ni h k f u g m) (some a) = 5 := by rw [tag_s, (E.2 a la).1, c1]
  have tb : gi_tag (ni h k f u g m) (some (gi_n h)) = 5 := by rw [tag_s, c_ni, if_pos rfl]
  have hk : gi_I (ni h k f u g m) (gi_n h) 0 = k := by rw [I_ni, if_pos rfl]; rfl
  unfold inh
  cases e : gi_R h a 10 with
  | none =>
    have := c_33_n (d := d + 3) (m := m) (ms := ms) (Q := Q) ta tb (by rw [(E.2 a la).2.2]; exact e) hk
    rw [(E.2 a la).2.1] at this
    exact this
  | some r =>
    rw [e] at kf
    obtain ⟨g1, g2, g3, g4, -⟩ := kf.2 r rfl
    have lr := lt r _ _ g3 (by decide)
    have lr1 := lt (r + 1) _ _ g4 (by decide)
    have := c_33_l (d := d) (m := m) (ms := ms) (Q := Q) ta tb (by rw [(E.2 a la).2.2]; exact e) hk (rL_ext E jF kf) (by rw [n_ni]; omega) (by rw [n_ni]; omega) (by rw [n_ni]; omega) (by omega)
    rw [(E.2 a la).2.1] at this
    exact this
theorem cr_C {L : Nat} {xs : Nat → Int32} {c d n a u gr : Nat} {kk m : Int32} {h : gi_H} {Q : gi_P} (J : jH L xs c h) (hc : c ≤ 7142) (hu : u < 16) (hn : n < 64) (hN : rN h (gi_I h) n a) (hg : gr < 16) (eg : (if gi_I h 87 n &&& 1024 = 0 then gi_I h 80 u else gi_I h 86 n) = nI gr)
    (full : ff (fun n => (gi_R h 5 n).isNone) 0 64 = 64 → Q (some (.inl (-4))) h)
    (bad : ∀ i, i < 64 → ff (fun n => (gi_R h 5 n).isNone) 0 64 = i → ¬ u = 0 → (GD (gi_I h) (32 + 2 * gr + 1) (U0 h (32 + 2 * gr + 1)) && GD (gi_I h) (2 * u + 1) (U0 h (2 * u + 1))) = false → Q (some (.inl (-5))) (ni h kk (nI n) (nI u) (nI gr) m))
    (good : ∀ i, i < 64 → ff (fun n => (gi_R h 5 n).isNone) 0 64 = i → (u = 0 ∨ (GD (gi_I h) (32 + 2 * gr + 1) (U0 h (32 + 2 * gr + 1)) && GD (gi_I h) (2 * u + 1) (U0 h (2 * u + 1))) = true) → Q (some (.inl (nI i))) (qst (gi_pR (inh h a kk (nI n) (nI u) (nI gr) m (gi_I h 82 u) (gi_I h) (2 * n + 1)) 5 i (some (gi_n h))) (bo_ (AD (gi_I h) 1) (2 * u + 1) (32 + 2 * gr + 1) (U0 h)))) :
    gi_ex (gi_cx (d + 6)) 13 Q 70 [some (.inr (.inr (some 1))), some (.inl (nI u)), some (.inl (nI n)), some (.inl kk), some (.inl m), some (.inr (.inr (some a))), none, none, none] [] h := by
  have hS := J.1
  have jF := J.2.1
  have h109 := hS.1
  obtain ⟨r1, r2, r3, r4, r5, r6, r7⟩ := id J.2.2.2.2.1
  have sn := J.2.2.2.2.2.2.2.2.2.2.2.1.1
  obtain ⟨d1, d2, d3, c1, c2, c3, f7, f8, k0, k1, k2, k3, k4, k5, k6, kp, kl, kf, kt⟩ := id hN
  obtain ⟨t0, -⟩ := rN_t hN
  have lt : ∀ x t m, gi_c h x = (t, m) → t ≠ 0 → x < gi_n h := fun x t m e ht => Nat.lt_of_not_le (fun w => by rw [jF x w] at e; cases e; exact ht rfl)
  have la := lt a _ _ c1 (by decide)
  have vu : vp_in (nI u) 16 := vp_in_nI hu (by omega)
  have cu : (nI u).toNatClampNeg = u := nI_clamp (by omega)
  have E : ext h (ni h kk (nI n) (nI u) (nI gr) m) := ext_ni
  have hSn := ext_S E hS
  have E2 : ext h (inh h a kk (nI n) (nI u) (nI gr) m (gi_I h 82 u) (gi_I h) (2 * n + 1)) := ext_inh
  obtain ⟨i1, i2, i3⟩ := inh_a (h := h) (a := a) (k := kk) (f := nI n) (u := nI u) (g := nI gr) (m := m) (ms := gi_I h 82 u) (S := gi_I h) (l := 2 * n + 1)
  rcases em_ (ff (fun n => (gi_R h 5 n).isNone) 0 64 = 64) with w | w
  · simp only [x13_70, x13_71, x13_74, x13_76, x13_78, x13_79, x13_82, x13_84, x13_85, x13_87, x13_90, x13_93, x13_94, x13_97, x13_99, x13_102, x13_105, x13_106, x13_109, x13_110, x13_111, x13_113, x13_116, x13_117, x13_118, x13_119, x13_120, x13_122, x13_124, x13_127, x13_129, x13_130, x13_131, x13_133, x13_135, x13_136, x13_137, x13_140, x13_143, x13_145, x13_146, x13_148, x13_150, x13_152, x13_153, x13_156, x13_157, x13_158, x13_161, x13_162, x13_165, x13_167, x13_169, x13_170, x13_171, x13_173, x13_175, x13_176, x13_177, x13_180, x13_182, ldI_1, ldI_2, ldI_3, ldI_4, ldI_6, ldI_7, ldR_0, ldR_5, ldR_8, stI_6i, stI_6n, stI_6r, stI_7i, stI_7n, stI_7r, stR_8i, stR_8n, stR_8r, I_pI, R_pI, c_pI, n_pI, u_pI, t_pI, l_pI, I_pR, R_pR, c_pR, n_pR, u_pR, t_pR, l_pR, get_s, Option.toList, List.nil_append, List.cons_append, List.length_nil, List.length_cons, gi_B, tg_1 hS, tg_2 hS, tg_3 hS, tg_4 hS, tg_5 hS, tg_6 hS, tg_7 hS, tg_8 hS, tg_9 hS, tg_10 hS, tg_75 hS, tg_79 hS, tg_80 hS, tg_81 hS, tg_82 hS, tg_83 hS, tg_84 hS, tg_85 hS, tg_86 hS, tg_87 hS, tg_88 hS, tg_89 hS, tg_90 hS, tg_91 hS, tg_92 hS, tg_93 hS, tg_94 hS, tg_95 hS, tg_96 hS, tg_97 hS, tg_98 hS, tg_99 hS, tg_100 hS, tg_101 hS, tg_102 hS, tg_103 hS, tg_104 hS, tg_105 hS, tg_106 hS, tg_107 hS, tg_108 hS, ln_2 hS, ln_3 hS, ln_4 hS, ln_5 hS, ln_7 hS, ln_9 hS, ln_10 hS, ln_75 hS, ln_80 hS, ln_81 hS, ln_82 hS, ln_83 hS, ln_84 hS, ln_85 hS, ln_86 hS, ln_87 hS, ln_88 hS, ln_89 hS, ln_90 hS, ln_91 hS, ln_92 hS, ln_93 hS, ln_94 hS, ln_95 hS, ln_96 hS, ln_97 hS, ln_98 hS, ln_99 hS, ln_100 hS, ln_101 hS, ln_102 hS, ln_103 hS, ln_104 hS, ln_105 hS, ln_106 hS, ln_107 hS, ln_108 hS, rf_1_0 hS, rf_1_1 hS, rf_1_2 hS, rf_1_3 hS, rf_1_4 hS, rf_1_5 hS, rf_1_6 hS, rf_6_0 hS, rf_8_1 hS, rf_8_2 hS, rf_79_1 hS, rf_79_2 hS, rf_79_3 hS, rf_79_4 hS, rf_79_5 hS, rf_79_6 hS, rf_79_7 hS, rf_79_8 hS, rf_79_9 hS, rf_79_10 hS, rf_79_11 hS, rf_79_12 hS, rf_79_13 hS, rf_79_14 hS, rf_79_15 hS, rf_79_16 hS, rf_79_17 hS, rf_79_18 hS, rf_79_19 hS, rf_79_20 hS, rf_79_21 hS, rf_79_22 hS, rf_79_24 hS, rf_79_25 hS, rf_79_26 hS, rf_79_27 hS, rf_79_28 hS, rf_79_29 hS, rf_79_30 hS, true_and, and_true, false_and, and_false, not_true_eq_false, not_false_eq_true, true_implies, false_implies, implies_true, Classical.not_not, ite_true, ite_false, Option.some.injEq, Sum.inl.injEq, exists_eq', eq_self, true_or, or_true, false_or, or_false, Nat.reduceEqDiff, Nat.reduceLeDiff, Nat.reduceAdd, Nat.zero_le, one_ne0, if_neg one_ne0', lt_102_103, lt_102_104, lt_102_105, lt_102_106, lt_99_107, lt_100_107, lt_101_107, lt_103_107, lt_104_107, lt_105_107, lt_106_107, lt_98_99, lt_98_100, lt_98_101, lt_98_106, c_26 hS, w]
    exact full (of_eq_true w)
  · obtain ⟨i, hi', ei⟩ : ∃ i, i < 64 ∧ ff (fun n => (gi_R h 5 n).isNone) 0 64 = i := ⟨_, by have := (ff_le (g := fun n => (gi_R h 5 n).isNone) 64 0).2; have := of_eq_false w; omega, rfl⟩
    have fr : (gi_R h 5 i).isNone = true := by
      have := ff_t (g := fun n => (gi_R h 5 n).isNone) 64 0 (by omega)
      rw [ei] at this
      exact this
    have i0 : 0 < i := Nat.pos_of_ne_zero (fun z => by
      subst z
      have := J.2.2.2.2.2.2.1 0 (by omega)
      cases q : gi_R h 5 0 with
      | none => have z2 := this.1 q; rw [sn.1] at z2; exact absurd z2 (by decide)
      | some b => rw [q] at fr; cases fr)
    have w' : (i = 64) = False := eq_false (by omega)
    have ne : (nI i = -1) = False := eq_false (fun z => by
      have := congrArg Int32.toInt z
      rw [nI_toInt (by omega), ti_m1] at this
      omega)
    have vi : vp_in (nI i) 64 := vp_in_nI hi' (by omega)
    have ci : (nI i).toNatClampNeg = i := nI_clamp (by omega)
    have c27 := fun {d : Nat} {Q : gi_P} => c_27_1 (d := d) (m := 1) (Q := Q) hSn (ext_QR E hS (QR_J J hc)) hu hi' hu hg (a := gi_n h) (by rw [tag_s, c_ni, if_pos rfl]) (by rw [I_ni, if_pos rfl]; rfl) (by rw [I_ni, if_pos rfl]; rfl) (by omega)
    rw [show nI 1 = (1 : Int32) from rfl] at c27
    simp only [rf_1, ext_U0 E hS (show 2 * u + 1 < 64 by omega), ext_U0 E hS (show 32 + 2 * gr + 1 < 64 by omega)] at c27
    have E3 : ∀ x, x < gi_n h → x ≠ 5 → gi_c (gi_pR (inh h a kk (nI n) (nI u) (nI gr) m (gi_I h 82 u) (gi_I h) (2 * n + 1)) 5 i (some (gi_n h))) x = gi_c h x := fun x hx _ => (E2.2 x hx).1
    have hS5 : gi_S (gi_pR (inh h a kk (nI n) (nI u) (nI gr) m (gi_I h 82 u) (gi_I h) (2 * n + 1)) 5 i (some (gi_n h))) := S_pR (ext_S E2 hS) (by omega)
    have QC5 : QC (gi_pR (inh h a kk (nI n) (nI u) (nI gr) m (gi_I h 82 u) (gi_I h) (2 * n + 1)) 5 i (some (gi_n h))) (gi_I h) := ext_QC (g := inh h a kk (nI n) (nI u) (nI gr) m (gi_I h 82 u) (gi_I h) (2 * n + 1)) E2 hS (QC_J J)
    have c37 := fun {d : Nat} {Q : gi_P} => c_37_1 (d := d) (m := 1) (Q := Q) hS5 (S := gi_I h) QC5 (fun p hp => ((QR_J J hc).2.1 p hp).2.2.1) i0 hi' (a := gi_n h) (by unfold dy; omega) hu hg (by rw [t_pR, tag_s, i1]) i2 i3
    have q37 : qst (gi_pR (inh h a kk (nI n) (nI u) (nI gr) m (gi_I h 82 u) (gi_I h) (2 * n + 1)) 5 i (some (gi_n h))) (bo_ (AD (gi_I h) 1) (2 * u + 1) (32 + 2 * gr + 1) (U0 (gi_pR (inh h a kk (nI n) (nI u) (nI gr) m (gi_I h 82 u) (gi_I h) (2 * n + 1)) 5 i (some (gi_n h))))) = qst (gi_pR (inh h a kk (nI n) (nI u) (nI gr) m (gi_I h 82 u) (gi_I h) (2 * n + 1)) 5 i (some (gi_n h))) (bo_ (AD (gi_I h) 1) (2 * u + 1) (32 + 2 * gr + 1) (U0 h)) := qst_c (fun p hp => bo_c (V := U0 h) (fun p hp => ext_U0 (g := inh h a kk (nI n) (nI u) (nI gr) m (gi_I h 82 u) (gi_I h) (2 * n + 1)) E2 hS hp) (show 2 * u + 1 < 64 by omega) (show 32 + 2 * gr + 1 < 64 by omega) hp)
    rw [q37] at c37
    have hSi := ext_S E2 hS
    have ta0 : gi_tag (gi_new h 5 0 11) (some (gi_n h)) = 5 := by rw [t_new, if_pos rfl]
    have cmp3 : (gi_comp.getD (103 - 100) 50 = 4) = True := by decide
    have ta1 : gi_tag (ni h kk (nI n) (nI u) (nI gr) m) (some (gi_n h)) = 5 := by rw [tag_s, c_ni, if_pos rfl]
    have ta2 : gi_tag (inh h a kk (nI n) (nI u) (nI gr) m (gi_I h 82 u) (gi_I h) (2 * n + 1)) (some (gi_n h)) = 5 := by rw [tag_s, i1]
    have rd : gi_I (ni h kk (nI n) (nI u) (nI gr) m) 4 u = gi_I h 82 u := by rw [(E.2 4 (by omega)).2.1]; exact r4 u hu
    have k0g : (decide (i = 0)) = false := decide_eq_false (by omega)
    have gd := good i hi' ei
    have bd := bad i hi' ei
    have q0 : (a = gi_n h) = False := eq_false (by omega)
    rcases em_ (gi_I h 87 n &&& 1024 = 0) with g1 | g1 <;> simp only [g1, ite_true, ite_false] at eg <;> cases b1 : GD (gi_I h) (32 + 2 * gr + 1) (U0 h (32 + 2 * gr + 1)) <;> cases b3 : GD (gi_I h) (2 * u + 1) (U0 h (2 * u + 1)) <;> rcases em_ (u = 0) with u0 | u0 <;>
      simp only [b1, b3, u0, Bool.and_true, Bool.and_false, true_or, false_or, Bool.false_eq_true, true_implies, not_true_eq_false, not_false_eq_true, false_implies, Bool.true_eq_false, eq_self] at gd bd <;>
      simp only [x13_70, x13_71, x13_74, x13_76, x13_78, x13_79, x13_82, x13_84, x13_85, x13_87, x13_90, x13_93, x13_94, x13_97, x13_99, x13_102, x13_105, x13_106, x13_109, x13_110, x13_111, x13_113, x13_116, x13_117, x13_118, x13_119, x13_120, x13_122, x13_124, x13_127, x13_129, x13_130, x13_131, x13_133, x13_135, x13_136, x13_137, x13_140, x13_143, x13_145, x13_146, x13_148, x13_150, x13_152, x13_153, x13_156, x13_157, x13_158, x13_161, x13_162, x13_165, x13_167, x13_169, x13_170, x13_171, x13_173, x13_175, x13_176, x13_177, x13_180, x13_182, ldI_1, ldI_2, ldI_3, ldI_4, ldI_6, ldI_7, ldR_0, ldR_5, ldR_8, stI_6i, stI_6n, stI_6r, stI_7i, stI_7n, stI_7r, stR_8i, stR_8n, stR_8r, I_pI, R_pI, c_pI, n_pI, u_pI, t_pI, l_pI, I_pR, R_pR, c_pR, n_pR, u_pR, t_pR, l_pR, get_s, Option.toList, List.nil_append, List.cons_append, List.length_nil, List.length_cons, gi_B, tg_1 hS, tg_2 hS, tg_3 hS, tg_4 hS, tg_5 hS, tg_6 hS, tg_7 hS, tg_8 hS, tg_9 hS, tg_10 hS, tg_75 hS, tg_79 hS, tg_80 hS, tg_81 hS, tg_82 hS, tg_83 hS, tg_84 hS, tg_85 hS, tg_86 hS, tg_87 hS, tg_88 hS, tg_89 hS, tg_90 hS, tg_91 hS, tg_92 hS, tg_93 hS, tg_94 hS, tg_95 hS, tg_96 hS, tg_97 hS, tg_98 hS, tg_99 hS, tg_100 hS, tg_101 hS, tg_102 hS, tg_103 hS, tg_104 hS, tg_105 hS, tg_106 hS, tg_107 hS, tg_108 hS, ln_2 hS, ln_3 hS, ln_4 hS, ln_5 hS, ln_7 hS, ln_9 hS, ln_10 hS, ln_75 hS, ln_80 hS, ln_81 hS, ln_82 hS, ln_83 hS, ln_84 hS, ln_85 hS, ln_86 hS, ln_87 hS, ln_88 hS, ln_89 hS, ln_90 hS, ln_91 hS, ln_92 hS, ln_93 hS, ln_94 hS, ln_95 hS, ln_96 hS, ln_97 hS, ln_98 hS, ln_99 hS, ln_100 hS, ln_101 hS, ln_102 hS, ln_103 hS, ln_104 hS, ln_105 hS, ln_106 hS, ln_107 hS, ln_108 hS, rf_1_0 hS, rf_1_1 hS, rf_1_2 hS, rf_1_3 hS, rf_1_4 hS, rf_1_5 hS, rf_1_6 hS, rf_6_0 hS, rf_8_1 hS, rf_8_2 hS, rf_79_1 hS, rf_79_2 hS, rf_79_3 hS, rf_79_4 hS, rf_79_5 hS, rf_79_6 hS, rf_79_7 hS, rf_79_8 hS, rf_79_9 hS, rf_79_10 hS, rf_79_11 hS, rf_79_12 hS, rf_79_13 hS, rf_79_14 hS, rf_79_15 hS, rf_79_16 hS, rf_79_17 hS, rf_79_18 hS, rf_79_19 hS, rf_79_20 hS, rf_79_21 hS, rf_79_22 hS, rf_79_24 hS, rf_79_25 hS, rf_79_26 hS, rf_79_27 hS, rf_79_28 hS, rf_79_29 hS, rf_79_30 hS, true_and, and_true, false_and, and_false, not_true_eq_false, not_false_eq_true, true_implies, false_implies, implies_true, Classical.not_not, ite_true, ite_false, Option.some.injEq, Sum.inl.injEq, exists_eq', eq_self, true_or, or_true, false_or, or_false, Nat.reduceEqDiff, Nat.reduceLeDiff, Nat.reduceAdd, Nat.zero_le, one_ne0, if_neg one_ne0', lt_102_103, lt_102_104, lt_102_105, lt_102_106, lt_99_107, lt_100_107, lt_101_107, lt_103_107, lt_104_107, lt_105_107, lt_106_107, lt_98_99, lt_98_100, lt_98_101, lt_98_106, c_26 hS, ei, w', ne, t0, k4, k3, g1, eg, r2 u hu, vu, cu, vi, ci, c_5, c27, b1, b3, u0, k0g, decide_true, decide_false, Bool.true_or, Bool.or_true, Bool.false_or, Bool.or_false, Bool.not_true, Bool.not_false, Bool.and_true, Bool.and_false, Bool.true_and, Bool.false_and, Bool.or_self, Bool.and_self, b2t, b2f, c_33_i J hn hN, rd, c37, q0, ta0, so_ne, cmp3, ta1, ta2, tg_1 hSn, tg_4 hSn, ln_4 hSn, rf_1_2 hSn, tg_1 hSi, tg_5 hSi, ln_5 hSi, rf_1_3 hSi, tg_1 hS5] <;>
      first | exact gd | exact bd

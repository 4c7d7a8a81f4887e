/-! Arrays.copyOf: the contract; then every method has one; then the claim out of a run of the law in the interpreter -/
theorem gi_cd0 : decode (gi_b 78) 0 = .ok (.iload_n 1, 1) := by decide +kernel
theorem gi_cd1 : decode (gi_b 78) 1 = .ok (.aload_n 0, 1) := by decide +kernel
theorem gi_cd2 : decode (gi_b 78) 2 = .ok (.arraylength, 1) := by decide +kernel
theorem gi_cd3 : decode (gi_b 78) 3 = .ok (.if_icmp .ne (11), 3) := by decide +kernel
theorem gi_cd6 : decode (gi_b 78) 6 = .ok (.aload_n 0, 1) := by decide +kernel
theorem gi_cd7 : decode (gi_b 78) 7 = .ok (.invokevirtual 310, 3) := by decide +kernel
theorem gi_cd10 : decode (gi_b 78) 10 = .ok (.checkcast 311, 3) := by decide +kernel
theorem gi_cd13 : decode (gi_b 78) 13 = .ok (.areturn, 1) := by decide +kernel
theorem gi_cd14 : decode (gi_b 78) 14 = .ok (.iload_n 1, 1) := by decide +kernel
theorem gi_cd15 : decode (gi_b 78) 15 = .ok (.newarray .byte, 2) := by decide +kernel
theorem gi_cd17 : decode (gi_b 78) 17 = .ok (.astore_n 2, 1) := by decide +kernel
theorem gi_cd18 : decode (gi_b 78) 18 = .ok (.aload_n 0, 1) := by decide +kernel
theorem gi_cd19 : decode (gi_b 78) 19 = .ok (.iconst (0), 1) := by decide +kernel
theorem gi_cd20 : decode (gi_b 78) 20 = .ok (.aload_n 2, 1) := by decide +kernel
theorem gi_cd21 : decode (gi_b 78) 21 = .ok (.iconst (0), 1) := by decide +kernel
theorem gi_cd22 : decode (gi_b 78) 22 = .ok (.aload_n 0, 1) := by decide +kernel
theorem gi_cd23 : decode (gi_b 78) 23 = .ok (.arraylength, 1) := by decide +kernel
theorem gi_cd24 : decode (gi_b 78) 24 = .ok (.iload_n 1, 1) := by decide +kernel
theorem gi_cd25 : decode (gi_b 78) 25 = .ok (.invokestatic 304, 3) := by decide +kernel
theorem gi_cd28 : decode (gi_b 78) 28 = .ok (.invokestatic 150, 3) := by decide +kernel
theorem gi_cd31 : decode (gi_b 78) 31 = .ok (.aload_n 2, 1) := by decide +kernel
theorem gi_cd32 : decode (gi_b 78) 32 = .ok (.areturn, 1) := by decide +kernel
set_option maxHeartbeats 1000000 in
theorem gi_met_cpo {l : Launch} {D : va_G} {dA : Nat → ClassId} {b base L : Nat} {xs : Nat → Int32} {cp : Nat → List gi_V → gi_H → gi_P → Prop} (hcp : ∀ y av h Q, cp y av h Q → ∃ r h', Q r h' ∧ gi_Ma l D dA b base L xs y av h r h') (hmin : ∀ (x y : Int32) (h : gi_H) (Q : gi_P), y ≤ x → Q (some (.inl y)) h → cp 8 [.inl x, .inl y] h Q) {av : List gi_V} {h h' : gi_H} {r : Option gi_V} (hd : gi_cpo av h (fun r1 h1 => r1 = r ∧ h1 = h')) :
    Met l (gi_y 78) (gi_wm 78) ({ frames := gi_rf 78, cells := gi_n h' - gi_n h, slots := gi_u h' - gi_u h, locals := gi_rl 78 }) (gi_Pc D dA b base L xs av h) (gi_Qc D dA b base L xs r h') (gi_n h' - gi_n h) (gi_u h' - gi_u h) (fun q => base ≤ q) := by
  unfold gi_cpo at hd
  split at hd
  · rename_i x n
    obtain ⟨g1, g2, g3, g4, g5, rfl, rfl⟩ := hd
    have hy : 78 ∈ gi_Vs ∨ 78 ∈ gi_Ss ∨ 78 ∈ gi_Is := Or.inr (Or.inl (by decide))
    obtain ⟨hcd, hpl, how⟩ := gi_of_in hy
    refine va_MetF (cc := gi_b 78) (maxL := gi_nL 78) (ret := gi_ret 78) hpl rfl ?_
    intro p e s m args below meth c s₁ B hml hv
    obtain ⟨rfl, hR, hK, hNe, hAO, hCa, hX, hbb⟩ := hv
    have hts := atoms_spec (ws := gi_wm 78) B.pre
    have hown : s.vm.findClass (gi_ow (gi_oc 78)) = some m.cls := by rw [how]; exact findClass_of_methodNamed B.named
    have hs0 : s.heap.size + 1 = base + gi_n h := hR.2.1
    have h0 := hR.2.2.1
    obtain ⟨a, rfl, a0, an, at1⟩ := gi_tag_in hR g1 (by omega) (by omega)
    have hlen : (gi_c h a).2 = gi_len h (some a) := rfl
    generalize hN : gi_len h (some a) = N at g3 g4 g5 hlen
    generalize hn : n.toNatClampNeg = k at g3
    have hg : (some a : Option Nat).getD 0 = a := rfl
    rw [hg] at g5
    have C0 : gi_Cx D dA b base L xs p ({ frames := gi_rf 78, cells := gi_n (gi_cpy (gi_new h 101 k k) a (gi_n h) 0 0 k) - gi_n h, slots := gi_u (gi_cpy (gi_new h 101 k k) a (gi_n h) 0 0 k) - gi_u h, locals := gi_rl 78 } : Room) s m ([gi_tr (gi_ad b base) (.inr (.inr (some a))), gi_tr (gi_ad b base) (.inl n)] : List Value).toArray meth c 78 :=
      ⟨B.exec, B.bytes, B.returns, B.notSynchronized, hml, hown, (fun h => (name_of_methodNamed B.named B.method).1.trans h), fun w hw => hts w (List.mem_cons_of_mem _ hw), hK, hNe, hAO, hCa, hX, hbb, by omega, Nat.le_refl _, Nat.le_refl _⟩
    have hE := gi_end (l := l) (e := e) (below := below) (r := some (.inr (.inr (some (gi_n h))))) (h0 := h) (h' := gi_cpy (gi_new h 101 k k) a (gi_n h) 0 0 k) C0 (Nat.le_succ _) (Nat.le_add_right _ _) rfl rfl
    generalize hQw : MQ below (gi_Qc D dA b base L xs (some (.inr (.inr (some (gi_n h))))) (gi_cpy (gi_new h 101 k k) a (gi_n h) 0 0 k)) _ s _ _ (fun q => base ≤ q) = Qw at hE
    have go : ∀ {i : Instr} {len a1 a2 pc : Nat} {lsA : gi_L} {st : List gi_V} {h1 : gi_H}, decode (gi_b 78) pc = .ok (i, len) → gi_lk 78 pc i len a1 a2 = true → gi_do cp (gi_rz 78) _ (gi_G p l e ({ frames := gi_rf 78, cells := gi_n (gi_cpy (gi_new h 101 k k) a (gi_n h) 0 0 k) - gi_n h, slots := gi_u (gi_cpy (gi_new h 101 k k) a (gi_n h) 0 0 k) - gi_u h, locals := gi_rl 78 } : Room) s m ([gi_tr (gi_ad b base) (.inr (.inr (some a))), gi_tr (gi_ad b base) (.inl n)] : List Value).toArray below meth c D dA b base L xs 78 (gi_n h) (gi_u h) Qw) i a1 a2 pc lsA st h1 → gi_G p l e ({ frames := gi_rf 78, cells := gi_n (gi_cpy (gi_new h 101 k k) a (gi_n h) 0 0 k) - gi_n h, slots := gi_u (gi_cpy (gi_new h 101 k k) a (gi_n h) 0 0 k) - gi_u h, locals := gi_rl 78 } : Room) s m ([gi_tr (gi_ad b base) (.inr (.inr (some a))), gi_tr (gi_ad b base) (.inl n)] : List Value).toArray below meth c D dA b base L xs 78 (gi_n h) (gi_u h) Qw pc lsA st h1 :=
      fun hdec hlk hdo => gi_step C0 hs0 hcp (fun _ _ _ _ w => w) hE how hdec hlk hdo
    have hKK : ∀ pc lsA st h1, gi_G p l e ({ frames := gi_rf 78, cells := gi_n (gi_cpy (gi_new h 101 k k) a (gi_n h) 0 0 k) - gi_n h, slots := gi_u (gi_cpy (gi_new h 101 k k) a (gi_n h) 0 0 k) - gi_u h, locals := gi_rl 78 } : Room) s m ([gi_tr (gi_ad b base) (.inr (.inr (some a))), gi_tr (gi_ad b base) (.inl n)] : List Value).toArray below meth c D dA b base L xs 78 (gi_n h) (gi_u h) Qw pc lsA st h1 → gi_G p l e ({ frames := gi_rf 78, cells := gi_n (gi_cpy (gi_new h 101 k k) a (gi_n h) 0 0 k) - gi_n h, slots := gi_u (gi_cpy (gi_new h 101 k k) a (gi_n h) 0 0 k) - gi_u h, locals := gi_rl 78 } : Room) s m ([gi_tr (gi_ad b base) (.inr (.inr (some a))), gi_tr (gi_ad b base) (.inl n)] : List Value).toArray below meth c D dA b base L xs 78 (gi_n h) (gi_u h) Qw pc lsA st h1 := fun _ _ _ _ w => w
    -- its end
    have k13 : ∀ lsA, gi_G p l e ({ frames := gi_rf 78, cells := gi_n (gi_cpy (gi_new h 101 k k) a (gi_n h) 0 0 k) - gi_n h, slots := gi_u (gi_cpy (gi_new h 101 k k) a (gi_n h) 0 0 k) - gi_u h, locals := gi_rl 78 } : Room) s m ([gi_tr (gi_ad b base) (.inr (.inr (some a))), gi_tr (gi_ad b base) (.inl n)] : List Value).toArray below meth c D dA b base L xs 78 (gi_n h) (gi_u h) Qw 13 lsA [.inr (.inr (some (gi_n h)))] (gi_cpy (gi_new h 101 k k) a (gi_n h) 0 0 k) := fun lsA => go (a1 := 0) (a2 := 0) gi_cd13 (by decide) ⟨rfl, rfl⟩
    have k32 : ∀ lsA, gi_G p l e ({ frames := gi_rf 78, cells := gi_n (gi_cpy (gi_new h 101 k k) a (gi_n h) 0 0 k) - gi_n h, slots := gi_u (gi_cpy (gi_new h 101 k k) a (gi_n h) 0 0 k) - gi_u h, locals := gi_rl 78 } : Room) s m ([gi_tr (gi_ad b base) (.inr (.inr (some a))), gi_tr (gi_ad b base) (.inl n)] : List Value).toArray below meth c D dA b base L xs 78 (gi_n h) (gi_u h) Qw 32 lsA [.inr (.inr (some (gi_n h)))] (gi_cpy (gi_new h 101 k k) a (gi_n h) 0 0 k) := fun lsA => go (a1 := 0) (a2 := 0) gi_cd32 (by decide) ⟨rfl, rfl⟩
    have hane : a ≠ gi_n h := by omega
    -- a copy of its own
    have k14 : gi_G p l e ({ frames := gi_rf 78, cells := gi_n (gi_cpy (gi_new h 101 k k) a (gi_n h) 0 0 k) - gi_n h, slots := gi_u (gi_cpy (gi_new h 101 k k) a (gi_n h) 0 0 k) - gi_u h, locals := gi_rl 78 } : Room) s m ([gi_tr (gi_ad b base) (.inr (.inr (some a))), gi_tr (gi_ad b base) (.inl n)] : List Value).toArray below meth c D dA b base L xs 78 (gi_n h) (gi_u h) Qw 14 [some (.inr (.inr (some a))), some (.inl n), none] [] h := by
      have ct : gi_c (gi_new h 101 k k) a = gi_c h a := by simp [gi_c, gi_new, hane]
      refine go (a1 := 0) (a2 := 0) gi_cd14 (by decide) ?_
      refine go (a1 := 1) (a2 := 0) gi_cd15 (by decide) ⟨g2, by omega, ?_⟩
      rw [hn]
      refine go (a1 := 0) (a2 := 0) gi_cd17 (by decide) ⟨by show 2 < 3; omega, ?_⟩
      refine go (a1 := 0) (a2 := 0) gi_cd18 (by decide) ?_
      refine go (a1 := 0) (a2 := 0) gi_cd19 (by decide) ?_
      refine go (a1 := 0) (a2 := 0) gi_cd20 (by decide) ?_
      refine go (a1 := 0) (a2 := 0) gi_cd21 (by decide) ?_
      refine go (a1 := 0) (a2 := 0) gi_cd22 (by decide) ?_
      have et : gi_tag (gi_new h 101 k k) (some a) = 101 := by show (gi_c (gi_new h 101 k k) a).1 = 101; rw [ct]; exact at1
      have el : gi_len (gi_new h 101 k k) (some a) = N := by show (gi_c (gi_new h 101 k k) a).2 = N; rw [ct]; exact hlen
      refine go (a1 := 0) (a2 := 0) gi_cd23 (by decide) ⟨by rw [et]; omega, ?_⟩
      refine go (a1 := 0) (a2 := 0) gi_cd24 (by decide) ?_
      refine gs_static (y := 8) (n := 2) C0 hcp hKK (by decide) (Or.inl gi_cw6) rfl (by decide) gi_cd25 ⟨by simp, by simp, ?_⟩
      refine hmin _ _ _ _ ?_ ?_
      · rw [el]
        have h8 : n = nI k := by
          obtain ⟨j, hj, rfl⟩ := nI_of g2
          rw [nI_clamp hj] at hn
          rw [hn]
        rw [h8]
        exact nI_le g3 (by omega)
      · refine gs_acpyB (a := a) (a2 := gi_n h) (n := n) C0 hs0 hKK ?_ (by rw [ct]; exact at1) (by rw [gi_c_new]) g2 (by rw [ct, hlen, hn]; exact g3) (by rw [gi_c_new, hn]; exact Nat.le_refl _) (fun i hi => ?_) gi_cw7 (by decide) (by decide) gi_cd28 ?_
        · rfl
        · have : gi_I (gi_new h 101 k k) a i = gi_I h a i := by simp [gi_I, gi_new, hane]
          rw [this]
          exact g5 i (by omega)
        · rw [hn]
          refine go (a1 := 0) (a2 := 0) gi_cd31 (by decide) ?_
          exact k32 _
    -- or a clone
    have k6 : k = N → gi_G p l e ({ frames := gi_rf 78, cells := gi_n (gi_cpy (gi_new h 101 k k) a (gi_n h) 0 0 k) - gi_n h, slots := gi_u (gi_cpy (gi_new h 101 k k) a (gi_n h) 0 0 k) - gi_u h, locals := gi_rl 78 } : Room) s m ([gi_tr (gi_ad b base) (.inr (.inr (some a))), gi_tr (gi_ad b base) (.inl n)] : List Value).toArray below meth c D dA b base L xs 78 (gi_n h) (gi_u h) Qw 6 [some (.inr (.inr (some a))), some (.inl n), none] [] h := by
      intro ek
      refine go (a1 := 0) (a2 := 0) gi_cd6 (by decide) ?_
      refine gs_clone (a := a) (len := k) (r := []) C0 hs0 hKK rfl at1 (hlen.trans ek.symm) (fun i hi => g5 i (by omega)) (by decide) (by decide) (by decide) gi_cw0 gi_cd7 ?_
      refine gs_castB (a := gi_n h) (r := []) C0 hKK rfl (by rw [gi_c_cpy, gi_c_new]) gi_cw5 gi_cd10 ?_
      exact k13 _
    have k0 : gi_G p l e ({ frames := gi_rf 78, cells := gi_n (gi_cpy (gi_new h 101 k k) a (gi_n h) 0 0 k) - gi_n h, slots := gi_u (gi_cpy (gi_new h 101 k k) a (gi_n h) 0 0 k) - gi_u h, locals := gi_rl 78 } : Room) s m ([gi_tr (gi_ad b base) (.inr (.inr (some a))), gi_tr (gi_ad b base) (.inl n)] : List Value).toArray below meth c D dA b base L xs 78 (gi_n h) (gi_u h) Qw 0 [some (.inr (.inr (some a))), some (.inl n), none] [] h := by
      refine go (a1 := 0) (a2 := 0) gi_cd0 (by decide) ?_
      refine go (a1 := 0) (a2 := 0) gi_cd1 (by decide) ?_
      refine go (a1 := 0) (a2 := 0) gi_cd2 (by decide) ⟨by rw [g1]; omega, ?_⟩
      rw [hN]
      refine go (a1 := 14) (a2 := 0) gi_cd3 (by decide) ⟨fun _ => k14, fun w => k6 ?_⟩
      have w : n = Int32.ofNat N := Classical.not_not.mp w
      have h8 : n.toNatClampNeg = N := by rw [w]; exact nI_clamp (n := N) (by omega)
      omega
    rw [lg_entry_eq, ← hn]
    rw [← hn] at hQw k0
    subst hQw
    exact k0.2.2 _ s.heap [] 0 0 ⟨hR, gi_ent_Lr (av := [.inr (.inr (some a)), .inl n]) (Nat.le_of_ble_eq_true rfl), va_S.rf, rfl, rfl⟩
  · exact hd.elim

/-! create: bits -/
set_option maxRecDepth 100000

theorem x8d : ∀ o, o < 8 → ∀ m, m < 1024 → (nI m &&& (nI o <<< ((6 : Int32) &&& 31)) = (((nI o &&& (nI m >>> ((6 : Int32) &&& 31))) &&& 7) <<< ((6 : Int32) &&& 31))) ∧ (nI m &&& (nI o <<< ((3 : Int32) &&& 31)) = (((nI o &&& (nI m >>> ((3 : Int32) &&& 31))) &&& 7) <<< ((3 : Int32) &&& 31))) ∧ (nI m &&& nI o = ((nI o &&& nI m) &&& 7)) ∧ (0 ≤ ((nI o &&& (nI m >>> ((6 : Int32) &&& 31))) &&& 7).toInt ∧ ((nI o &&& (nI m >>> ((6 : Int32) &&& 31))) &&& 7).toInt < 8) ∧ (0 ≤ ((nI o &&& (nI m >>> ((3 : Int32) &&& 31))) &&& 7).toInt ∧ ((nI o &&& (nI m >>> ((3 : Int32) &&& 31))) &&& 7).toInt < 8) ∧ (0 ≤ ((nI o &&& nI m) &&& 7).toInt ∧ ((nI o &&& nI m) &&& 7).toInt < 8) := by decide +kernel
theorem dd8 : ∀ x, x < 8 → ∀ y, y < 8 → ∀ z, z < 8 → ∀ a, a < 4 → (0 ≤ (((nI (512 * a) ||| (nI x <<< ((6 : Int32) &&& 31))) ||| (nI y <<< ((3 : Int32) &&& 31))) ||| nI z).toInt ∧ (((nI (512 * a) ||| (nI x <<< ((6 : Int32) &&& 31))) ||| (nI y <<< ((3 : Int32) &&& 31))) ||| nI z).toInt ≤ 2047) ∧ ((((nI (512 * a) ||| (nI x <<< ((6 : Int32) &&& 31))) ||| (nI y <<< ((3 : Int32) &&& 31))) ||| nI z) >>> 3) &&& 7 = nI y := by decide +kernel
theorem nn8 : ∀ j, j < 512 → ∀ a, a < 4 → 0 ≤ (nI (512 * a) ||| nI j).toInt ∧ (nI (512 * a) ||| nI j).toInt ≤ 2047 := by decide +kernel
theorem m1024 : ∀ m, m < 2048 → nI m &&& 1024 = 0 ∨ nI m &&& 1024 = 1024 := by decide +kernel
theorem m512 : ∀ m, m < 1024 → (nI m &&& 512 = 0 ∨ nI m &&& 512 = 512) ∧ (m ≤ 511 → nI m &&& 512 = 0) ∧ (0 ≤ (nI m &&& 511).toInt ∧ (nI m &&& 511).toInt < 512) := by decide +kernel
theorem ado {x a b c : Int32} : x &&& (a ||| b ||| c) = ((x &&& a) ||| (x &&& b)) ||| (x &&& c) := by
  apply Int32.toBitVec_inj.mp
  simp only [Int32.toBitVec_and, Int32.toBitVec_or]
  apply BitVec.eq_of_getLsbD_eq
  intro i hi
  simp only [BitVec.getLsbD_and, BitVec.getLsbD_or]
  cases x.toBitVec.getLsbD i <;> simp
theorem andle {j : Nat} (hj : j < 512) (z : Int32) : ∃ i, i < 512 ∧ nI j &&& z = nI i := by
  have e1 : (nI j &&& z).toBitVec.toNat = j &&& z.toBitVec.toNat := by
    rw [Int32.toBitVec_and, BitVec.toNat_and]
    congr 1
    show (BitVec.ofNat 32 j).toNat = j
    rw [BitVec.toNat_ofNat]
    omega
  have e2 : j &&& z.toBitVec.toNat ≤ j := Nat.and_le_left
  refine ⟨j &&& z.toBitVec.toNat, by omega, ?_⟩
  apply Int32.toBitVec_inj.mp
  apply BitVec.eq_of_toNat_eq
  rw [e1]
  show _ = (BitVec.ofNat 32 _).toNat
  rw [BitVec.toNat_ofNat]
  omega
theorem abv_mor {kk m mf : Int32} (hk : kk = 2 ∨ (¬ kk = 2 ∧ m.toInt ≤ 511)) (hm : 0 ≤ m.toInt ∧ m.toInt ≤ 1023) (hf : 0 ≤ mf.toInt ∧ mf.toInt ≤ 2047) : abv kk m mf = mor kk m mf ∧ ∃ a, a < 4 ∧ mor kk m mf = nI (512 * a) := by
  obtain ⟨i, hi, rfl⟩ := nI_of (x := m) (by rw [i32_lt, ti_0]; omega)
  obtain ⟨j, hj, rfl⟩ := nI_of (x := mf) (by rw [i32_lt, ti_0]; omega)
  rw [nI_toInt hi] at hm hk
  rw [nI_toInt hj] at hf
  have q1 := m1024 j (by omega)
  have q2 := m512 i (by omega)
  unfold abv mor
  rcases hk with rfl | ⟨k2, k3⟩
  · rw [if_pos rfl, if_pos rfl]
    rcases q1 with q1 | q1 <;> rw [q1] <;> rcases q2.1 with q2 | q2 <;> rw [q2]
    · exact ⟨rfl, 0, by omega, rfl⟩
    · exact ⟨rfl, 1, by omega, rfl⟩
    · exact ⟨rfl, 2, by omega, rfl⟩
    · exact ⟨rfl, 3, by omega, rfl⟩
  · rw [if_neg k2, if_neg k2, ite_self, q2.2.1 (by omega)]
    exact ⟨rfl, 0, by omega, rfl⟩
theorem mo_N {kk m mf ms : Int32} (hk : kk = 2 ∨ (¬ kk = 2 ∧ m.toInt ≤ 511)) (hm : 0 ≤ m.toInt ∧ m.toInt ≤ 1023) (hf : 0 ≤ mf.toInt ∧ mf.toInt ≤ 2047) : ((m &&& 511) &&& ms) ||| abv kk m mf = mor kk m mf ||| ((m &&& 511) &&& ms) ∧ 0 ≤ (mor kk m mf ||| ((m &&& 511) &&& ms)).toInt ∧ (mor kk m mf ||| ((m &&& 511) &&& ms)).toInt ≤ 2047 := by
  obtain ⟨e1, a, ha, e2⟩ := abv_mor hk hm hf
  rw [e1, e2]
  obtain ⟨i, hi, rfl⟩ := nI_of (x := m) (by rw [i32_lt, ti_0]; omega)
  rw [nI_toInt hi] at hm
  have q2 := (m512 i (by omega)).2.2
  obtain ⟨j, hj, ej⟩ := nI_of (x := nI i &&& 511) (by rw [i32_lt, ti_0]; omega)
  rw [ej, nI_toInt hj] at q2
  obtain ⟨t, ht, et⟩ := andle (j := j) (by omega) ms
  rw [ej, et]
  exact ⟨Int32.or_comm _ _, nn8 t ht a ha⟩
theorem mo_L {kk m mf O l T : Int32} (hk : kk = 2 ∨ (¬ kk = 2 ∧ m.toInt ≤ 511)) (hm : 0 ≤ m.toInt ∧ m.toInt ≤ 1023) (hf : 0 ≤ mf.toInt ∧ mf.toInt ≤ 2047) (hO : vp_in O 8) (hl : vp_in l 8) (hT : vp_in T 8) :
    (m &&& ((O <<< ((6 : Int32) &&& 31)) ||| (l <<< ((3 : Int32) &&& 31)) ||| T)) ||| abv kk m mf = ((mor kk m mf ||| (((O &&& (m >>> ((6 : Int32) &&& 31))) &&& 7) <<< ((6 : Int32) &&& 31))) ||| (((l &&& (m >>> ((3 : Int32) &&& 31))) &&& 7) <<< ((3 : Int32) &&& 31))) ||| ((T &&& m) &&& 7)
    ∧ (0 ≤ (((mor kk m mf ||| (((O &&& (m >>> ((6 : Int32) &&& 31))) &&& 7) <<< ((6 : Int32) &&& 31))) ||| (((l &&& (m >>> ((3 : Int32) &&& 31))) &&& 7) <<< ((3 : Int32) &&& 31))) ||| ((T &&& m) &&& 7)).toInt ∧ (((mor kk m mf ||| (((O &&& (m >>> ((6 : Int32) &&& 31))) &&& 7) <<< ((6 : Int32) &&& 31))) ||| (((l &&& (m >>> ((3 : Int32) &&& 31))) &&& 7) <<< ((3 : Int32) &&& 31))) ||| ((T &&& m) &&& 7)).toInt ≤ 2047)
    ∧ ((((mor kk m mf ||| (((O &&& (m >>> ((6 : Int32) &&& 31))) &&& 7) <<< ((6 : Int32) &&& 31))) ||| (((l &&& (m >>> ((3 : Int32) &&& 31))) &&& 7) <<< ((3 : Int32) &&& 31))) ||| ((T &&& m) &&& 7)) >>> 3) &&& 7 = (l &&& (m >>> ((3 : Int32) &&& 31))) &&& 7 := by
  obtain ⟨e1, a, ha, e2⟩ := abv_mor hk hm hf
  rw [e1, e2]
  obtain ⟨i, hi, rfl⟩ := nI_of (x := m) (by rw [i32_lt, ti_0]; omega)
  rw [nI_toInt hi] at hm
  obtain ⟨o, ho, rfl⟩ := vp_in_of hO (by omega)
  obtain ⟨s, hs, rfl⟩ := vp_in_of hl (by omega)
  obtain ⟨t, ht, rfl⟩ := vp_in_of hT (by omega)
  obtain ⟨p1, -, -, p2, -, -⟩ := x8d o ho i (by omega)
  obtain ⟨-, p3, -, -, p4, -⟩ := x8d s hs i (by omega)
  obtain ⟨-, -, p5, -, -, p6⟩ := x8d t ht i (by omega)
  rw [ado, p1, p3, p5]
  obtain ⟨x, hx, ex⟩ := nI_of (x := (nI o &&& (nI i >>> ((6 : Int32) &&& 31))) &&& 7) (by rw [i32_lt, ti_0]; omega)
  obtain ⟨y, hy, ey⟩ := nI_of (x := (nI s &&& (nI i >>> ((3 : Int32) &&& 31))) &&& 7) (by rw [i32_lt, ti_0]; omega)
  obtain ⟨z, hz, ez⟩ := nI_of (x := (nI t &&& nI i) &&& 7) (by rw [i32_lt, ti_0]; omega)
  rw [ex, nI_toInt hx] at p2
  rw [ey, nI_toInt hy] at p4
  rw [ez, nI_toInt hz] at p6
  rw [ex, ey, ez]
  refine ⟨?_, dd8 x (by omega) y (by omega) z (by omega) a ha⟩
  rw [Int32.or_comm _ (nI (512 * a)), Int32.or_assoc, Int32.or_assoc, Int32.or_assoc]

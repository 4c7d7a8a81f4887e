/-! A machine of my own over a heap by components: what the bytecode does, as a weakest precondition.
Values: int, long, reference. Heap: class and length of each address, int fields and elements, reference fields and elements, next address, slots used. -/
abbrev gi_V : Type := Sum Int32 (Sum Int64 (Option Nat))
abbrev gi_H : Type := (Nat → Nat × Nat) × (Nat → Nat → Int32) × (Nat → Nat → Option Nat) × Nat × Nat
abbrev gi_L : Type := List (Option gi_V)
def gi_c (h : gi_H) (a : Nat) : Nat × Nat := h.1 a
def gi_I (h : gi_H) (a k : Nat) : Int32 := h.2.1 a k
def gi_R (h : gi_H) (a k : Nat) : Option Nat := h.2.2.1 a k
def gi_n (h : gi_H) : Nat := h.2.2.2.1
def gi_u (h : gi_H) : Nat := h.2.2.2.2
def gi_tag (h : gi_H) (r : Option Nat) : Nat := match r with
  | none => 0
  | some a => (gi_c h a).1
def gi_len (h : gi_H) (r : Option Nat) : Nat := match r with
  | none => 0
  | some a => (gi_c h a).2
def gi_pI (h : gi_H) (a k : Nat) (v : Int32) : gi_H := (h.1, fun b j => if b = a ∧ j = k then v else h.2.1 b j, h.2.2.1, h.2.2.2.1, h.2.2.2.2)
def gi_pR (h : gi_H) (a k : Nat) (v : Option Nat) : gi_H := (h.1, h.2.1, fun b j => if b = a ∧ j = k then v else h.2.2.1 b j, h.2.2.2.1, h.2.2.2.2)
def gi_cpy (h : gi_H) (a0 a1 sp dp n : Nat) : gi_H := (h.1, fun b j => if b = a1 ∧ dp ≤ j ∧ j < dp + n then h.2.1 a0 (sp + (j - dp)) else h.2.1 b j, h.2.2.1, h.2.2.2.1, h.2.2.2.2)
def gi_new (h : gi_H) (tag len sl : Nat) : gi_H := (fun b => if b = gi_n h then (tag, len) else h.1 b, fun b j => if b = gi_n h then 0 else h.2.1 b j, fun b j => if b = gi_n h then none else h.2.2.1 b j, gi_n h + 1, gi_u h + sl)
/-- a store into a local: a long whose second half is overwritten is gone -/
def gi_set (ls : gi_L) (i : Nat) (v : gi_V) : gi_L := match i with
  | 0 => ls.set 0 (some v)
  | j + 1 => match ls[j]? with
    | some (some (.inr (.inl _))) => (ls.set j none).set (j + 1) (some v)
    | _ => ls.set (j + 1) (some v)
def gi_set2 (ls : gi_L) (i : Nat) (v : gi_V) : gi_L := (gi_set ls i v).set (i + 1) none
def gi_z (a1 a2 : Nat) : Int := if a2 = 0 then (a1 : Int) else -(a1 : Int)
abbrev gi_K : Type := Nat → gi_L → List gi_V → gi_H → Prop
abbrev gi_P : Type := Option gi_V → gi_H → Prop
section GI
variable (k : gi_K) (p : Nat) (ls : gi_L) (st : List gi_V) (h : gi_H)
def gi_ldI (i : Nat) : Prop := match ls[i]? with
  | some (some (.inl x)) => k p ls (.inl x :: st) h
  | _ => False
def gi_ldL (i : Nat) : Prop := match ls[i]? with
  | some (some (.inr (.inl x))) => k p ls (.inr (.inl x) :: st) h
  | _ => False
def gi_ldR (i : Nat) : Prop := match ls[i]? with
  | some (some (.inr (.inr x))) => k p ls (.inr (.inr x) :: st) h
  | _ => False
def gi_stI (i : Nat) : Prop := match st with
  | .inl x :: r => i < ls.length ∧ k p (gi_set ls i (.inl x)) r h
  | _ => False
def gi_stL (i : Nat) : Prop := match st with
  | .inr (.inl x) :: r => i + 1 < ls.length ∧ k p (gi_set2 ls i (.inr (.inl x))) r h
  | _ => False
def gi_stR (i : Nat) : Prop := match st with
  | .inr (.inr x) :: r => i < ls.length ∧ k p (gi_set ls i (.inr (.inr x))) r h
  | _ => False
def gi_inc (i : Nat) (n : Int) : Prop := match ls[i]? with
  | some (some (.inl x)) => k p (gi_set ls i (.inl (x + Int32.ofInt n))) st h
  | _ => False
def gi_1 (f : Int32 → Int32) : Prop := match st with
  | .inl x :: r => k p ls (.inl (f x) :: r) h
  | _ => False
def gi_2 (f : Int32 → Int32 → Int32) : Prop := match st with
  | .inl y :: .inl x :: r => k p ls (.inl (f x y) :: r) h
  | _ => False
def gi_2d (f : Int32 → Int32 → Int32) : Prop := match st with
  | .inl y :: .inl x :: r => ¬ y = 0 ∧ k p ls (.inl (f x y) :: r) h
  | _ => False
def gi_2L (f : Int64 → Int64 → Int64) : Prop := match st with
  | .inr (.inl y) :: .inr (.inl x) :: r => k p ls (.inr (.inl (f x y)) :: r) h
  | _ => False
def gi_2S (f : Int64 → Int32 → Int64) : Prop := match st with
  | .inl y :: .inr (.inl x) :: r => k p ls (.inr (.inl (f x y)) :: r) h
  | _ => False
def gi_lcmp : Prop := match st with
  | .inr (.inl y) :: .inr (.inl x) :: r => k p ls (.inl (lg_cmp x y) :: r) h
  | _ => False
def gi_i2l : Prop := match st with
  | .inl x :: r => k p ls (.inr (.inl x.toInt64) :: r) h
  | _ => False
def gi_l2i : Prop := match st with
  | .inr (.inl x) :: r => k p ls (.inl x.toInt32 :: r) h
  | _ => False
def gi_br1 (t : Nat) (f : Int32 → Prop) : Prop := match st with
  | .inl x :: r => (f x → k t ls r h) ∧ (¬ f x → k (p + 3) ls r h)
  | _ => False
def gi_br2 (t : Nat) (f : Int32 → Int32 → Prop) : Prop := match st with
  | .inl y :: .inl x :: r => (f x y → k t ls r h) ∧ (¬ f x y → k (p + 3) ls r h)
  | _ => False
def gi_brN (t : Nat) : Prop := match st with
  | .inr (.inr x) :: r => (x = none → k t ls r h) ∧ (¬ x = none → k (p + 3) ls r h)
  | _ => False
def gi_brNN (t : Nat) : Prop := match st with
  | .inr (.inr x) :: r => (¬ x = none → k t ls r h) ∧ (x = none → k (p + 3) ls r h)
  | _ => False
def gi_sw (x : Int) (d : Nat) : Int → List Int → Prop
  | _, [] => k d ls st h
  | v, o :: l => (x = v → k ((p : Int) + o).toNat ls st h) ∧ (¬ x = v → gi_sw x d (v + 1) l)
def gi_tsw (d lo hi : Int) (l : List Int) : Prop := match st with
  | .inl x :: r => gi_sw k p ls r h x.toInt ((p : Int) + d).toNat lo l
  | _ => False
def gi_dup : Prop := match st with
  | .inl x :: r => k p ls (.inl x :: .inl x :: r) h
  | .inr (.inr x) :: r => k p ls (.inr (.inr x) :: .inr (.inr x) :: r) h
  | _ => False
def gi_dup2 : Prop := match st with
  | .inl x :: .inr (.inr y) :: r => k p ls (.inl x :: .inr (.inr y) :: .inl x :: .inr (.inr y) :: r) h
  | _ => False
def gi_getf (ci f : Nat) : Prop := match st with
  | .inr (.inr x) :: r => gi_tag h x = ci + 1 ∧ (bif Nat.beq (f % 2) 1 then k p ls (.inr (.inr (gi_R h (x.getD 0) (f / 2))) :: r) h else k p ls (.inl (gi_I h (x.getD 0) (f / 2)) :: r) h)
  | _ => False
def gi_putf (ci f : Nat) : Prop := match st with
  | .inl v :: .inr (.inr x) :: r => gi_tag h x = ci + 1 ∧ f % 2 = 0 ∧ k p ls r (gi_pI h (x.getD 0) (f / 2) v)
  | .inr (.inr v) :: .inr (.inr x) :: r => gi_tag h x = ci + 1 ∧ f % 2 = 1 ∧ k p ls r (gi_pR h (x.getD 0) (f / 2) v)
  | _ => False
def gi_iald : Prop := match st with
  | .inl i :: .inr (.inr x) :: r => (gi_tag h x = 100 ∨ gi_tag h x = 99) ∧ vp_in i (gi_len h x) ∧ k p ls (.inl (gi_I h (x.getD 0) i.toNatClampNeg) :: r) h
  | _ => False
def gi_bald : Prop := match st with
  | .inl i :: .inr (.inr x) :: r => (gi_tag h x = 101 ∨ gi_tag h x = 102) ∧ vp_in i (gi_len h x) ∧ k p ls (.inl (gi_I h (x.getD 0) i.toNatClampNeg) :: r) h
  | _ => False
def gi_aald : Prop := match st with
  | .inl i :: .inr (.inr x) :: r => (102 < gi_tag h x ∧ gi_tag h x < 107) ∧ vp_in i (gi_len h x) ∧ k p ls (.inr (.inr (gi_R h (x.getD 0) i.toNatClampNeg)) :: r) h
  | _ => False
def gi_iast : Prop := match st with
  | .inl v :: .inl i :: .inr (.inr x) :: r => gi_tag h x = 100 ∧ vp_in i (gi_len h x) ∧ k p ls r (gi_pI h (x.getD 0) i.toNatClampNeg v)
  | _ => False
def gi_bast : Prop := match st with
  | .inl v :: .inl i :: .inr (.inr x) :: r => vp_in i (gi_len h x) ∧ ((gi_tag h x = 101 ∧ k p ls r (gi_pI h (x.getD 0) i.toNatClampNeg v.toInt8.toInt32)) ∨ (gi_tag h x = 102 ∧ k p ls r (gi_pI h (x.getD 0) i.toNatClampNeg (v &&& 1))))
  | _ => False
def gi_aast : Prop := match st with
  | .inr (.inr v) :: .inl i :: .inr (.inr x) :: r => (102 < gi_tag h x ∧ gi_tag h x < 107) ∧ vp_in i (gi_len h x) ∧ (v = none ∨ gi_tag h v = gi_comp.getD (gi_tag h x - 100) 50 + 1) ∧ k p ls r (gi_pR h (x.getD 0) i.toNatClampNeg v)
  | _ => False
def gi_alen : Prop := match st with
  | .inr (.inr x) :: r => (98 < gi_tag h x ∧ gi_tag h x < 107) ∧ k p ls (.inl (Int32.ofNat (gi_len h x)) :: r) h
  | _ => False
def gi_newo (ci N : Nat) : Prop := k p ls (.inr (.inr (some (gi_n h))) :: st) (gi_new h (ci + 1) 0 N)
def gi_newa (t : Nat) : Prop := match st with
  | .inl x :: r => ¬ x < 0 ∧ x.toNatClampNeg ≤ 200000 ∧ k p ls (.inr (.inr (some (gi_n h))) :: r) (gi_new h (100 + t) x.toNatClampNeg x.toNatClampNeg)
  | _ => False
def gi_acpy : Prop := match st with
  | .inl n :: .inl dp :: .inr (.inr y) :: .inl sp :: .inr (.inr x) :: r => gi_tag h x = 100 ∧ gi_tag h y = 100 ∧ ¬ sp < 0 ∧ ¬ dp < 0 ∧ ¬ n < 0 ∧ sp.toNatClampNeg + n.toNatClampNeg ≤ gi_len h x ∧ dp.toNatClampNeg + n.toNatClampNeg ≤ gi_len h y ∧ r.length ≤ 4 ∧ k p ls r (gi_cpy h (x.getD 0) (y.getD 0) sp.toNatClampNeg dp.toNatClampNeg n.toNatClampNeg)
  | _ => False
variable (cp : Nat → List gi_V → gi_H → gi_P → Prop)
def gi_call (y n : Nat) : Prop := n ≤ st.length ∧ (st.drop n).length ≤ 4 ∧ cp y (st.take n).reverse h (fun r h' => k p ls (r.toList ++ st.drop n) h')
/-- the receiver is there, and of the callee's class -/
def gi_recv (y n : Nat) : Prop := match (st.take n).getLast? with
  | some (.inr (.inr x)) => gi_tag h x = gi_mc y + 1
  | _ => False
def gi_invS (y n : Nat) : Prop := bif Nat.beq y 998 then gi_acpy k p ls st h else gi_call k p ls st h cp y n
def gi_invI (y n : Nat) : Prop := bif Nat.beq y 999 then (match st with
  | .inr (.inr (some _)) :: r => r.length ≤ 4 ∧ k p ls r h
  | _ => False) else gi_recv st h y n ∧ gi_call k p ls st h cp y n
variable (Q : gi_P)
def gi_retI (z : Bool) : Prop := match st with
  | [.inl x] => (z = true → x = 0 ∨ x = 1) ∧ Q (some (.inl x)) h
  | _ => False
def gi_retL : Prop := match st with
  | [.inr (.inl x)] => Q (some (.inr (.inl x))) h
  | _ => False
def gi_retR : Prop := match st with
  | [.inr (.inr x)] => Q (some (.inr (.inr x))) h
  | _ => False
def gi_retV : Prop := match st with
  | [] => Q none h
  | _ => False
end GI
def gi_cd (c : ClassFile.Cond) : Int32 → Int32 → Prop := match c with
  | .eq => fun x y => x = y
  | .ne => fun x y => ¬ x = y
  | .lt => fun x y => x < y
  | .ge => fun x y => y ≤ x
  | .gt => fun x y => y < x
  | .le => fun x y => x ≤ y
def gi_rz (mi : Nat) : Bool := match gi_ret mi with
  | some .boolean => true
  | _ => false
def gi_do (cp : Nat → List gi_V → gi_H → gi_P → Prop) (z : Bool) (Q : gi_P) (k : gi_K) (i : Instr) (a1 a2 p : Nat) (ls : gi_L) (st : List gi_V) (h : gi_H) : Prop := match i with
  | .iconst n => k (p + 1) ls (.inl (Int32.ofInt n) :: st) h
  | .bipush n => k (p + 2) ls (.inl (Int8.ofInt n).toInt32 :: st) h
  | .sipush n => k (p + 3) ls (.inl (Int16.ofInt n).toInt32 :: st) h
  | .lconst n => k (p + 1) ls (.inr (.inl (Int64.ofNat (n : Nat))) :: st) h
  | .ldc _ => k (p + 2) ls (.inl (Int32.ofInt (gi_z a1 a2)) :: st) h
  | .ldc2_w _ => k (p + 3) ls (.inr (.inl (Int64.ofInt (gi_z a1 a2))) :: st) h
  | .aconst_null => k (p + 1) ls (.inr (.inr none) :: st) h
  | .iload_n i => gi_ldI k (p + 1) ls st h (i : Nat)
  | .iload i => gi_ldI k (p + 2) ls st h i
  | .lload_n i => gi_ldL k (p + 1) ls st h (i : Nat)
  | .lload i => gi_ldL k (p + 2) ls st h i
  | .aload_n i => gi_ldR k (p + 1) ls st h (i : Nat)
  | .aload i => gi_ldR k (p + 2) ls st h i
  | .istore_n i => gi_stI k (p + 1) ls st h (i : Nat)
  | .istore i => gi_stI k (p + 2) ls st h i
  | .lstore_n i => gi_stL k (p + 1) ls st h (i : Nat)
  | .lstore i => gi_stL k (p + 2) ls st h i
  | .astore_n i => gi_stR k (p + 1) ls st h (i : Nat)
  | .astore i => gi_stR k (p + 2) ls st h i
  | .iinc i n => gi_inc k (p + 3) ls st h i n
  | .iadd => gi_2 k (p + 1) ls st h (fun x y => x + y)
  | .isub => gi_2 k (p + 1) ls st h (fun x y => x - y)
  | .imul => gi_2 k (p + 1) ls st h (fun x y => x * y)
  | .iand => gi_2 k (p + 1) ls st h (fun x y => x &&& y)
  | .ior => gi_2 k (p + 1) ls st h (fun x y => x ||| y)
  | .ixor => gi_2 k (p + 1) ls st h (fun x y => x ^^^ y)
  | .ishl => gi_2 k (p + 1) ls st h (fun x y => x <<< (y &&& 31))
  | .ishr => gi_2 k (p + 1) ls st h (fun x y => x >>> (y &&& 31))
  | .idiv => gi_2d k (p + 1) ls st h (fun x y => x / y)
  | .irem => gi_2d k (p + 1) ls st h (fun x y => x - x / y * y)
  | .ineg => gi_1 k (p + 1) ls st h (fun x => -x)
  | .i2b => gi_1 k (p + 1) ls st h (fun x => x.toInt8.toInt32)
  | .i2l => gi_i2l k (p + 1) ls st h
  | .l2i => gi_l2i k (p + 1) ls st h
  | .land => gi_2L k (p + 1) ls st h (fun x y => x &&& y)
  | .lor => gi_2L k (p + 1) ls st h (fun x y => x ||| y)
  | .lshl => gi_2S k (p + 1) ls st h (fun x y => x <<< (y.toInt64 &&& 63))
  | .lshr => gi_2S k (p + 1) ls st h (fun x y => x >>> (y.toInt64 &&& 63))
  | .lushr => gi_2S k (p + 1) ls st h (fun x y => (x.toUInt64 >>> (y.toInt64.toUInt64 &&& Int64.toUInt64 63)).toInt64)
  | .lcmp => gi_lcmp k (p + 1) ls st h
  | .ifCond c _ => gi_br1 k p ls st h a1 (fun x => gi_cd c x 0)
  | .if_icmp c _ => gi_br2 k p ls st h a1 (gi_cd c)
  | .ifnull _ => gi_brN k p ls st h a1
  | .ifnonnull _ => gi_brNN k p ls st h a1
  | .goto _ => k a1 ls st h
  | .tableswitch d lo hi offs => gi_tsw k p ls st h d lo hi offs.toList
  | .dup => gi_dup k (p + 1) ls st h
  | .dup2 => gi_dup2 k (p + 1) ls st h
  | .getfield _ => gi_getf k (p + 3) ls st h a1 a2
  | .putfield _ => gi_putf k (p + 3) ls st h a1 a2
  | .iaload => gi_iald k (p + 1) ls st h
  | .baload => gi_bald k (p + 1) ls st h
  | .aaload => gi_aald k (p + 1) ls st h
  | .iastore => gi_iast k (p + 1) ls st h
  | .bastore => gi_bast k (p + 1) ls st h
  | .aastore => gi_aast k (p + 1) ls st h
  | .arraylength => gi_alen k (p + 1) ls st h
  | .new _ => gi_newo k (p + 3) ls st h a1 a2
  | .newarray _ => gi_newa k (p + 2) ls st h a1
  | .anewarray _ => gi_newa k (p + 3) ls st h a1
  | .invokestatic _ => gi_invS k (p + 3) ls st h cp a1 a2
  | .invokevirtual _ => gi_recv st h a1 a2 ∧ gi_call k (p + 3) ls st h cp a1 a2
  | .invokespecial _ => gi_invI k (p + 3) ls st h cp a1 a2
  | .ireturn => gi_retI st h Q z
  | .lreturn => gi_retL st h Q
  | .areturn => gi_retR st h Q
  | .return_ => gi_retV st h Q
  | _ => False
def gi_wp (cp : Nat → List gi_V → gi_H → gi_P → Prop) (mi : Nat) (Q : gi_P) : Nat → gi_K
  | 0 => fun _ _ _ _ => False
  | n + 1 => fun p ls st h => match gi_code mi p with
    | none => False
    | some (i, _, a1, a2) => gi_do cp (gi_rz mi) Q (gi_wp cp mi Q n) i a1 a2 p ls st h
/-- the locals at a method's start -/
def gi_ent (n : Nat) (args : List gi_V) : gi_L := (args.flatMap (fun v => match v with
  | .inr (.inl x) => [some (.inr (.inl x)), none]
  | v => [some v])) ++ List.replicate (n - (args.flatMap (fun v => match v with
  | .inr (.inl x) => [some (.inr (.inl x)), none]
  | v => [some v])).length) none
/-- Arrays.copyOf(byte[], int) -/
def gi_cpo (args : List gi_V) (h : gi_H) (Q : gi_P) : Prop := match args with
  | [.inr (.inr x), .inl n] => gi_tag h x = 101 ∧ ¬ n < 0 ∧ n.toNatClampNeg ≤ gi_len h x ∧ gi_len h x ≤ 200000 ∧ (∀ i, i < gi_len h x → fits .byte (.int (gi_I h (x.getD 0) i)) = true) ∧ Q (some (.inr (.inr (some (gi_n h))))) (gi_cpy (gi_new h 101 n.toNatClampNeg n.toNatClampNeg) (x.getD 0) (gi_n h) 0 0 n.toNatClampNeg)
  | _ => False
def gi_cw : Nat → Nat → List gi_V → gi_H → gi_P → Prop
  | 0 => fun _ _ _ _ => False
  | d + 1 => fun mi args h Q => bif Nat.beq mi 78 then gi_cpo args h Q else ∃ n, gi_wp (gi_cw d) mi Q n 0 (gi_ent (gi_nL mi) args) [] h

/-! the heap's words, the shape that never changes -/
theorem I_pI {h : gi_H} {a k : Nat} {v : Int32} {b j : Nat} : gi_I (gi_pI h a k v) b j = if b = a ∧ j = k then v else gi_I h b j := rfl
theorem R_pI {h : gi_H} {a k : Nat} {v : Int32} {b j : Nat} : gi_R (gi_pI h a k v) b j = gi_R h b j := rfl
theorem c_pI {h : gi_H} {a k : Nat} {v : Int32} {b : Nat} : gi_c (gi_pI h a k v) b = gi_c h b := rfl
theorem n_pI {h : gi_H} {a k : Nat} {v : Int32} : gi_n (gi_pI h a k v) = gi_n h := rfl
theorem u_pI {h : gi_H} {a k : Nat} {v : Int32} : gi_u (gi_pI h a k v) = gi_u h := rfl
theorem t_pI {h : gi_H} {a k : Nat} {v : Int32} {x : Option Nat} : gi_tag (gi_pI h a k v) x = gi_tag h x := rfl
theorem l_pI {h : gi_H} {a k : Nat} {v : Int32} {x : Option Nat} : gi_len (gi_pI h a k v) x = gi_len h x := rfl
theorem I_pR {h : gi_H} {a k : Nat} {v : Option Nat} {b j : Nat} : gi_I (gi_pR h a k v) b j = gi_I h b j := rfl
theorem R_pR {h : gi_H} {a k : Nat} {v : Option Nat} {b j : Nat} : gi_R (gi_pR h a k v) b j = if b = a ∧ j = k then v else gi_R h b j := rfl
theorem c_pR {h : gi_H} {a k : Nat} {v : Option Nat} {b : Nat} : gi_c (gi_pR h a k v) b = gi_c h b := rfl
theorem n_pR {h : gi_H} {a k : Nat} {v : Option Nat} : gi_n (gi_pR h a k v) = gi_n h := rfl
theorem u_pR {h : gi_H} {a k : Nat} {v : Option Nat} : gi_u (gi_pR h a k v) = gi_u h := rfl
theorem t_pR {h : gi_H} {a k : Nat} {v : Option Nat} {x : Option Nat} : gi_tag (gi_pR h a k v) x = gi_tag h x := rfl
theorem l_pR {h : gi_H} {a k : Nat} {v : Option Nat} {x : Option Nat} : gi_len (gi_pR h a k v) x = gi_len h x := rfl
theorem I_new {h : gi_H} {t n u b j : Nat} : gi_I (gi_new h t n u) b j = if b = gi_n h then 0 else gi_I h b j := rfl
theorem R_new {h : gi_H} {t n u b j : Nat} : gi_R (gi_new h t n u) b j = if b = gi_n h then none else gi_R h b j := rfl
theorem c_new {h : gi_H} {t n u b : Nat} : gi_c (gi_new h t n u) b = if b = gi_n h then (t, n) else gi_c h b := rfl
theorem tag_s {h : gi_H} {a : Nat} : gi_tag h (some a) = (gi_c h a).1 := rfl
theorem len_s {h : gi_H} {a : Nat} : gi_len h (some a) = (gi_c h a).2 := rfl
theorem get_s {a : Nat} : (some a : Option Nat).getD 0 = a := rfl
def gi_cs : List (Nat × Nat × Nat) := [(1, 1, 0), (2, 100, 16), (3, 100, 16), (4, 100, 16), (5, 103, 64), (6, 2, 0), (7, 104, 256), (8, 3, 0), (9, 105, 64), (10, 100, 4), (75, 101, 60), (79, 9, 0), (80, 100, 16), (81, 100, 16), (82, 100, 16), (83, 100, 64), (84, 100, 64), (85, 100, 64), (86, 100, 64), (87, 100, 64), (88, 100, 64), (89, 100, 768), (90, 100, 64), (91, 102, 256), (92, 101, 16384), (93, 100, 128), (94, 100, 128), (95, 100, 128), (96, 100, 128), (97, 100, 128), (98, 100, 4096), (99, 100, 2048), (100, 101, 122880), (101, 101, 60), (102, 100, 64), (103, 100, 64), (104, 100, 64), (105, 100, 64), (106, 100, 4), (107, 100, 64), (108, 100, 64)]
def gi_rs : List (Nat × Nat × Nat) := [(1, 0, 2), (1, 1, 3), (1, 2, 4), (1, 3, 5), (1, 4, 6), (1, 5, 8), (1, 6, 75), (6, 0, 7), (8, 1, 9), (8, 2, 10), (79, 1, 80), (79, 2, 81), (79, 3, 82), (79, 4, 83), (79, 5, 84), (79, 6, 85), (79, 7, 86), (79, 8, 87), (79, 9, 88), (79, 10, 89), (79, 11, 90), (79, 12, 91), (79, 13, 92), (79, 14, 93), (79, 15, 94), (79, 16, 95), (79, 17, 96), (79, 18, 97), (79, 19, 98), (79, 20, 99), (79, 21, 100), (79, 22, 101), (79, 24, 102), (79, 25, 103), (79, 26, 104), (79, 27, 105), (79, 28, 106), (79, 29, 107), (79, 30, 108)]
/-- the cells and the references that stay: script 0, class 1 .. 10, quotas 11 .. 74, value 75, model 79 .. 108 -/
def gi_S (h : gi_H) : Prop := 109 ≤ gi_n h ∧ (∀ e ∈ gi_cs, gi_c h e.1 = e.2) ∧ (∀ e ∈ gi_rs, gi_R h e.1 e.2.1 = some e.2.2) ∧ (∀ p, p < 64 → gi_c h (11 + p) = (4, 0) ∧ gi_R h 9 p = some (11 + p))
theorem tg_1 {h : gi_H} (hS : gi_S h) : gi_tag h (some 1) = 1 := congrArg Prod.fst (hS.2.1 (1, 1, 0) (by decide))
theorem tg_2 {h : gi_H} (hS : gi_S h) : gi_tag h (some 2) = 100 := congrArg Prod.fst (hS.2.1 (2, 100, 16) (by decide))
theorem ln_2 {h : gi_H} (hS : gi_S h) : gi_len h (some 2) = 16 := congrArg Prod.snd (hS.2.1 (2, 100, 16) (by decide))
theorem tg_3 {h : gi_H} (hS : gi_S h) : gi_tag h (some 3) = 100 := congrArg Prod.fst (hS.2.1 (3, 100, 16) (by decide))
theorem ln_3 {h : gi_H} (hS : gi_S h) : gi_len h (some 3) = 16 := congrArg Prod.snd (hS.2.1 (3, 100, 16) (by decide))
theorem tg_4 {h : gi_H} (hS : gi_S h) : gi_tag h (some 4) = 100 := congrArg Prod.fst (hS.2.1 (4, 100, 16) (by decide))
theorem ln_4 {h : gi_H} (hS : gi_S h) : gi_len h (some 4) = 16 := congrArg Prod.snd (hS.2.1 (4, 100, 16) (by decide))
theorem tg_5 {h : gi_H} (hS : gi_S h) : gi_tag h (some 5) = 103 := congrArg Prod.fst (hS.2.1 (5, 103, 64) (by decide))
theorem ln_5 {h : gi_H} (hS : gi_S h) : gi_len h (some 5) = 64 := congrArg Prod.snd (hS.2.1 (5, 103, 64) (by decide))
theorem tg_6 {h : gi_H} (hS : gi_S h) : gi_tag h (some 6) = 2 := congrArg Prod.fst (hS.2.1 (6, 2, 0) (by decide))
theorem tg_7 {h : gi_H} (hS : gi_S h) : gi_tag h (some 7) = 104 := congrArg Prod.fst (hS.2.1 (7, 104, 256) (by decide))
theorem ln_7 {h : gi_H} (hS : gi_S h) : gi_len h (some 7) = 256 := congrArg Prod.snd (hS.2.1 (7, 104, 256) (by decide))
theorem tg_8 {h : gi_H} (hS : gi_S h) : gi_tag h (some 8) = 3 := congrArg Prod.fst (hS.2.1 (8, 3, 0) (by decide))
theorem tg_9 {h : gi_H} (hS : gi_S h) : gi_tag h (some 9) = 105 := congrArg Prod.fst (hS.2.1 (9, 105, 64) (by decide))
theorem ln_9 {h : gi_H} (hS : gi_S h) : gi_len h (some 9) = 64 := congrArg Prod.snd (hS.2.1 (9, 105, 64) (by decide))
theorem tg_10 {h : gi_H} (hS : gi_S h) : gi_tag h (some 10) = 100 := congrArg Prod.fst (hS.2.1 (10, 100, 4) (by decide))
theorem ln_10 {h : gi_H} (hS : gi_S h) : gi_len h (some 10) = 4 := congrArg Prod.snd (hS.2.1 (10, 100, 4) (by decide))
theorem tg_75 {h : gi_H} (hS : gi_S h) : gi_tag h (some 75) = 101 := congrArg Prod.fst (hS.2.1 (75, 101, 60) (by decide))
theorem ln_75 {h : gi_H} (hS : gi_S h) : gi_len h (some 75) = 60 := congrArg Prod.snd (hS.2.1 (75, 101, 60) (by decide))
theorem tg_79 {h : gi_H} (hS : gi_S h) : gi_tag h (some 79) = 9 := congrArg Prod.fst (hS.2.1 (79, 9, 0) (by decide))
theorem tg_80 {h : gi_H} (hS : gi_S h) : gi_tag h (some 80) = 100 := congrArg Prod.fst (hS.2.1 (80, 100, 16) (by decide))
theorem ln_80 {h : gi_H} (hS : gi_S h) : gi_len h (some 80) = 16 := congrArg Prod.snd (hS.2.1 (80, 100, 16) (by decide))
theorem tg_81 {h : gi_H} (hS : gi_S h) : gi_tag h (some 81) = 100 := congrArg Prod.fst (hS.2.1 (81, 100, 16) (by decide))
theorem ln_81 {h : gi_H} (hS : gi_S h) : gi_len h (some 81) = 16 := congrArg Prod.snd (hS.2.1 (81, 100, 16) (by decide))
theorem tg_82 {h : gi_H} (hS : gi_S h) : gi_tag h (some 82) = 100 := congrArg Prod.fst (hS.2.1 (82, 100, 16) (by decide))
theorem ln_82 {h : gi_H} (hS : gi_S h) : gi_len h (some 82) = 16 := congrArg Prod.snd (hS.2.1 (82, 100, 16) (by decide))
theorem tg_83 {h : gi_H} (hS : gi_S h) : gi_tag h (some 83) = 100 := congrArg Prod.fst (hS.2.1 (83, 100, 64) (by decide))
theorem ln_83 {h : gi_H} (hS : gi_S h) : gi_len h (some 83) = 64 := congrArg Prod.snd (hS.2.1 (83, 100, 64) (by decide))
theorem tg_84 {h : gi_H} (hS : gi_S h) : gi_tag h (some 84) = 100 := congrArg Prod.fst (hS.2.1 (84, 100, 64) (by decide))
theorem ln_84 {h : gi_H} (hS : gi_S h) : gi_len h (some 84) = 64 := congrArg Prod.snd (hS.2.1 (84, 100, 64) (by decide))
theorem tg_85 {h : gi_H} (hS : gi_S h) : gi_tag h (some 85) = 100 := congrArg Prod.fst (hS.2.1 (85, 100, 64) (by decide))
theorem ln_85 {h : gi_H} (hS : gi_S h) : gi_len h (some 85) = 64 := congrArg Prod.snd (hS.2.1 (85, 100, 64) (by decide))
theorem tg_86 {h : gi_H} (hS : gi_S h) : gi_tag h (some 86) = 100 := congrArg Prod.fst (hS.2.1 (86, 100, 64) (by decide))
theorem ln_86 {h : gi_H} (hS : gi_S h) : gi_len h (some 86) = 64 := congrArg Prod.snd (hS.2.1 (86, 100, 64) (by decide))
theorem tg_87 {h : gi_H} (hS : gi_S h) : gi_tag h (some 87) = 100 := congrArg Prod.fst (hS.2.1 (87, 100, 64) (by decide))
theorem ln_87 {h : gi_H} (hS : gi_S h) : gi_len h (some 87) = 64 := congrArg Prod.snd (hS.2.1 (87, 100, 64) (by decide))
theorem tg_88 {h : gi_H} (hS : gi_S h) : gi_tag h (some 88) = 100 := congrArg Prod.fst (hS.2.1 (88, 100, 64) (by decide))
theorem ln_88 {h : gi_H} (hS : gi_S h) : gi_len h (some 88) = 64 := congrArg Prod.snd (hS.2.1 (88, 100, 64) (by decide))
theorem tg_89 {h : gi_H} (hS : gi_S h) : gi_tag h (some 89) = 100 := congrArg Prod.fst (hS.2.1 (89, 100, 768) (by decide))
theorem ln_89 {h : gi_H} (hS : gi_S h) : gi_len h (some 89) = 768 := congrArg Prod.snd (hS.2.1 (89, 100, 768) (by decide))
theorem tg_90 {h : gi_H} (hS : gi_S h) : gi_tag h (some 90) = 100 := congrArg Prod.fst (hS.2.1 (90, 100, 64) (by decide))
theorem ln_90 {h : gi_H} (hS : gi_S h) : gi_len h (some 90) = 64 := congrArg Prod.snd (hS.2.1 (90, 100, 64) (by decide))
theorem tg_91 {h : gi_H} (hS : gi_S h) : gi_tag h (some 91) = 102 := congrArg Prod.fst (hS.2.1 (91, 102, 256) (by decide))
theorem ln_91 {h : gi_H} (hS : gi_S h) : gi_len h (some 91) = 256 := congrArg Prod.snd (hS.2.1 (91, 102, 256) (by decide))
theorem tg_92 {h : gi_H} (hS : gi_S h) : gi_tag h (some 92) = 101 := congrArg Prod.fst (hS.2.1 (92, 101, 16384) (by decide))
theorem ln_92 {h : gi_H} (hS : gi_S h) : gi_len h (some 92) = 16384 := congrArg Prod.snd (hS.2.1 (92, 101, 16384) (by decide))
theorem tg_93 {h : gi_H} (hS : gi_S h) : gi_tag h (some 93) = 100 := congrArg Prod.fst (hS.2.1 (93, 100, 128) (by decide))
theorem ln_93 {h : gi_H} (hS : gi_S h) : gi_len h (some 93) = 128 := congrArg Prod.snd (hS.2.1 (93, 100, 128) (by decide))
theorem tg_94 {h : gi_H} (hS : gi_S h) : gi_tag h (some 94) = 100 := congrArg Prod.fst (hS.2.1 (94, 100, 128) (by decide))
theorem ln_94 {h : gi_H} (hS : gi_S h) : gi_len h (some 94) = 128 := congrArg Prod.snd (hS.2.1 (94, 100, 128) (by decide))
theorem tg_95 {h : gi_H} (hS : gi_S h) : gi_tag h (some 95) = 100 := congrArg Prod.fst (hS.2.1 (95, 100, 128) (by decide))
theorem ln_95 {h : gi_H} (hS : gi_S h) : gi_len h (some 95) = 128 := congrArg Prod.snd (hS.2.1 (95, 100, 128) (by decide))
theorem tg_96 {h : gi_H} (hS : gi_S h) : gi_tag h (some 96) = 100 := congrArg Prod.fst (hS.2.1 (96, 100, 128) (by decide))
theorem ln_96 {h : gi_H} (hS : gi_S h) : gi_len h (some 96) = 128 := congrArg Prod.snd (hS.2.1 (96, 100, 128) (by decide))
theorem tg_97 {h : gi_H} (hS : gi_S h) : gi_tag h (some 97) = 100 := congrArg Prod.fst (hS.2.1 (97, 100, 128) (by decide))
theorem ln_97 {h : gi_H} (hS : gi_S h) : gi_len h (some 97) = 128 := congrArg Prod.snd (hS.2.1 (97, 100, 128) (by decide))
theorem tg_98 {h : gi_H} (hS : gi_S h) : gi_tag h (some 98) = 100 := congrArg Prod.fst (hS.2.1 (98, 100, 4096) (by decide))
theorem ln_98 {h : gi_H} (hS : gi_S h) : gi_len h (some 98) = 4096 := congrArg Prod.snd (hS.2.1 (98, 100, 4096) (by decide))
theorem tg_99 {h : gi_H} (hS : gi_S h) : gi_tag h (some 99) = 100 := congrArg Prod.fst (hS.2.1 (99, 100, 2048) (by decide))
theorem ln_99 {h : gi_H} (hS : gi_S h) : gi_len h (some 99) = 2048 := congrArg Prod.snd (hS.2.1 (99, 100, 2048) (by decide))
theorem tg_100 {h : gi_H} (hS : gi_S h) : gi_tag h (some 100) = 101 := congrArg Prod.fst (hS.2.1 (100, 101, 122880) (by decide))
theorem ln_100 {h : gi_H} (hS : gi_S h) : gi_len h (some 100) = 122880 := congrArg Prod.snd (hS.2.1 (100, 101, 122880) (by decide))
theorem tg_101 {h : gi_H} (hS : gi_S h) : gi_tag h (some 101) = 101 := congrArg Prod.fst (hS.2.1 (101, 101, 60) (by decide))
theorem ln_101 {h : gi_H} (hS : gi_S h) : gi_len h (some 101) = 60 := congrArg Prod.snd (hS.2.1 (101, 101, 60) (by decide))
theorem tg_102 {h : gi_H} (hS : gi_S h) : gi_tag h (some 102) = 100 := congrArg Prod.fst (hS.2.1 (102, 100, 64) (by decide))
theorem ln_102 {h : gi_H} (hS : gi_S h) : gi_len h (some 102) = 64 := congrArg Prod.snd (hS.2.1 (102, 100, 64) (by decide))
theorem tg_103 {h : gi_H} (hS : gi_S h) : gi_tag h (some 103) = 100 := congrArg Prod.fst (hS.2.1 (103, 100, 64) (by decide))
theorem ln_103 {h : gi_H} (hS : gi_S h) : gi_len h (some 103) = 64 := congrArg Prod.snd (hS.2.1 (103, 100, 64) (by decide))
theorem tg_104 {h : gi_H} (hS : gi_S h) : gi_tag h (some 104) = 100 := congrArg Prod.fst (hS.2.1 (104, 100, 64) (by decide))
theorem ln_104 {h : gi_H} (hS : gi_S h) : gi_len h (some 104) = 64 := congrArg Prod.snd (hS.2.1 (104, 100, 64) (by decide))
theorem tg_105 {h : gi_H} (hS : gi_S h) : gi_tag h (some 105) = 100 := congrArg Prod.fst (hS.2.1 (105, 100, 64) (by decide))
theorem ln_105 {h : gi_H} (hS : gi_S h) : gi_len h (some 105) = 64 := congrArg Prod.snd (hS.2.1 (105, 100, 64) (by decide))
theorem tg_106 {h : gi_H} (hS : gi_S h) : gi_tag h (some 106) = 100 := congrArg Prod.fst (hS.2.1 (106, 100, 4) (by decide))
theorem ln_106 {h : gi_H} (hS : gi_S h) : gi_len h (some 106) = 4 := congrArg Prod.snd (hS.2.1 (106, 100, 4) (by decide))
theorem tg_107 {h : gi_H} (hS : gi_S h) : gi_tag h (some 107) = 100 := congrArg Prod.fst (hS.2.1 (107, 100, 64) (by decide))
theorem ln_107 {h : gi_H} (hS : gi_S h) : gi_len h (some 107) = 64 := congrArg Prod.snd (hS.2.1 (107, 100, 64) (by decide))
theorem tg_108 {h : gi_H} (hS : gi_S h) : gi_tag h (some 108) = 100 := congrArg Prod.fst (hS.2.1 (108, 100, 64) (by decide))
theorem ln_108 {h : gi_H} (hS : gi_S h) : gi_len h (some 108) = 64 := congrArg Prod.snd (hS.2.1 (108, 100, 64) (by decide))
theorem rf_1_0 {h : gi_H} (hS : gi_S h) : gi_R h 1 0 = some 2 := hS.2.2.1 (1, 0, 2) (by decide)
theorem rf_1_1 {h : gi_H} (hS : gi_S h) : gi_R h 1 1 = some 3 := hS.2.2.1 (1, 1, 3) (by decide)
theorem rf_1_2 {h : gi_H} (hS : gi_S h) : gi_R h 1 2 = some 4 := hS.2.2.1 (1, 2, 4) (by decide)
theorem rf_1_3 {h : gi_H} (hS : gi_S h) : gi_R h 1 3 = some 5 := hS.2.2.1 (1, 3, 5) (by decide)
theorem rf_1_4 {h : gi_H} (hS : gi_S h) : gi_R h 1 4 = some 6 := hS.2.2.1 (1, 4, 6) (by decide)
theorem rf_1_5 {h : gi_H} (hS : gi_S h) : gi_R h 1 5 = some 8 := hS.2.2.1 (1, 5, 8) (by decide)
theorem rf_1_6 {h : gi_H} (hS : gi_S h) : gi_R h 1 6 = some 75 := hS.2.2.1 (1, 6, 75) (by decide)
theorem rf_6_0 {h : gi_H} (hS : gi_S h) : gi_R h 6 0 = some 7 := hS.2.2.1 (6, 0, 7) (by decide)
theorem rf_8_1 {h : gi_H} (hS : gi_S h) : gi_R h 8 1 = some 9 := hS.2.2.1 (8, 1, 9) (by decide)
theorem rf_8_2 {h : gi_H} (hS : gi_S h) : gi_R h 8 2 = some 10 := hS.2.2.1 (8, 2, 10) (by decide)
theorem rf_79_1 {h : gi_H} (hS : gi_S h) : gi_R h 79 1 = some 80 := hS.2.2.1 (79, 1, 80) (by decide)
theorem rf_79_2 {h : gi_H} (hS : gi_S h) : gi_R h 79 2 = some 81 := hS.2.2.1 (79, 2, 81) (by decide)
theorem rf_79_3 {h : gi_H} (hS : gi_S h) : gi_R h 79 3 = some 82 := hS.2.2.1 (79, 3, 82) (by decide)
theorem rf_79_4 {h : gi_H} (hS : gi_S h) : gi_R h 79 4 = some 83 := hS.2.2.1 (79, 4, 83) (by decide)
theorem rf_79_5 {h : gi_H} (hS : gi_S h) : gi_R h 79 5 = some 84 := hS.2.2.1 (79, 5, 84) (by decide)
theorem rf_79_6 {h : gi_H} (hS : gi_S h) : gi_R h 79 6 = some 85 := hS.2.2.1 (79, 6, 85) (by decide)
theorem rf_79_7 {h : gi_H} (hS : gi_S h) : gi_R h 79 7 = some 86 := hS.2.2.1 (79, 7, 86) (by decide)
theorem rf_79_8 {h : gi_H} (hS : gi_S h) : gi_R h 79 8 = some 87 := hS.2.2.1 (79, 8, 87) (by decide)
theorem rf_79_9 {h : gi_H} (hS : gi_S h) : gi_R h 79 9 = some 88 := hS.2.2.1 (79, 9, 88) (by decide)
theorem rf_79_10 {h : gi_H} (hS : gi_S h) : gi_R h 79 10 = some 89 := hS.2.2.1 (79, 10, 89) (by decide)
theorem rf_79_11 {h : gi_H} (hS : gi_S h) : gi_R h 79 11 = some 90 := hS.2.2.1 (79, 11, 90) (by decide)
theorem rf_79_12 {h : gi_H} (hS : gi_S h) : gi_R h 79 12 = some 91 := hS.2.2.1 (79, 12, 91) (by decide)
theorem rf_79_13 {h : gi_H} (hS : gi_S h) : gi_R h 79 13 = some 92 := hS.2.2.1 (79, 13, 92) (by decide)
theorem rf_79_14 {h : gi_H} (hS : gi_S h) : gi_R h 79 14 = some 93 := hS.2.2.1 (79, 14, 93) (by decide)
theorem rf_79_15 {h : gi_H} (hS : gi_S h) : gi_R h 79 15 = some 94 := hS.2.2.1 (79, 15, 94) (by decide)
theorem rf_79_16 {h : gi_H} (hS : gi_S h) : gi_R h 79 16 = some 95 := hS.2.2.1 (79, 16, 95) (by decide)
theorem rf_79_17 {h : gi_H} (hS : gi_S h) : gi_R h 79 17 = some 96 := hS.2.2.1 (79, 17, 96) (by decide)
theorem rf_79_18 {h : gi_H} (hS : gi_S h) : gi_R h 79 18 = some 97 := hS.2.2.1 (79, 18, 97) (by decide)
theorem rf_79_19 {h : gi_H} (hS : gi_S h) : gi_R h 79 19 = some 98 := hS.2.2.1 (79, 19, 98) (by decide)
theorem rf_79_20 {h : gi_H} (hS : gi_S h) : gi_R h 79 20 = some 99 := hS.2.2.1 (79, 20, 99) (by decide)
theorem rf_79_21 {h : gi_H} (hS : gi_S h) : gi_R h 79 21 = some 100 := hS.2.2.1 (79, 21, 100) (by decide)
theorem rf_79_22 {h : gi_H} (hS : gi_S h) : gi_R h 79 22 = some 101 := hS.2.2.1 (79, 22, 101) (by decide)
theorem rf_79_24 {h : gi_H} (hS : gi_S h) : gi_R h 79 24 = some 102 := hS.2.2.1 (79, 24, 102) (by decide)
theorem rf_79_25 {h : gi_H} (hS : gi_S h) : gi_R h 79 25 = some 103 := hS.2.2.1 (79, 25, 103) (by decide)
theorem rf_79_26 {h : gi_H} (hS : gi_S h) : gi_R h 79 26 = some 104 := hS.2.2.1 (79, 26, 104) (by decide)
theorem rf_79_27 {h : gi_H} (hS : gi_S h) : gi_R h 79 27 = some 105 := hS.2.2.1 (79, 27, 105) (by decide)
theorem rf_79_28 {h : gi_H} (hS : gi_S h) : gi_R h 79 28 = some 106 := hS.2.2.1 (79, 28, 106) (by decide)
theorem rf_79_29 {h : gi_H} (hS : gi_S h) : gi_R h 79 29 = some 107 := hS.2.2.1 (79, 29, 107) (by decide)
theorem rf_79_30 {h : gi_H} (hS : gi_S h) : gi_R h 79 30 = some 108 := hS.2.2.1 (79, 30, 108) (by decide)
theorem S_pI {h : gi_H} {a k : Nat} {v : Int32} (hS : gi_S h) : gi_S (gi_pI h a k v) := hS
theorem S_new {h : gi_H} {t n u : Nat} (hS : gi_S h) : gi_S (gi_new h t n u) := by
  have h9 := hS.1
  have cs : ∀ e ∈ gi_cs, e.1 < 109 := by decide
  have rs : ∀ e ∈ gi_rs, e.1 < 109 := by decide
  refine ⟨by show 109 ≤ gi_n h + 1; omega, fun e he => ?_, fun e he => ?_, fun p hp => ⟨?_, ?_⟩⟩
  · have := cs e he
    rw [c_new, if_neg (by omega)]
    exact hS.2.1 e he
  · have := rs e he
    rw [R_new, if_neg (by omega)]
    exact hS.2.2.1 e he
  · rw [c_new, if_neg (by omega)]
    exact (hS.2.2.2 p hp).1
  · rw [R_new, if_neg (by omega)]
    exact (hS.2.2.2 p hp).2
theorem S_pR {h : gi_H} {a k : Nat} {v : Option Nat} (hS : gi_S h) (ha : a = 5 ∨ a = 7 ∨ (76 ≤ a ∧ a < 79) ∨ 109 ≤ a) : gi_S (gi_pR h a k v) := by
  have rs : ∀ e ∈ gi_rs, e.1 = 1 ∨ e.1 = 6 ∨ e.1 = 8 ∨ e.1 = 79 := by decide
  refine ⟨hS.1, hS.2.1, fun e he => ?_, fun p hp => ⟨(hS.2.2.2 p hp).1, ?_⟩⟩
  · have := rs e he
    rw [R_pR, if_neg (by omega)]
    exact hS.2.2.1 e he
  · rw [R_pR, if_neg (by omega)]
    exact (hS.2.2.2 p hp).2
/-- a contract with two ends -/
def gi_B (P : Prop) (Q : gi_P) (h : gi_H) : Prop := (P → Q (some (.inl 1)) h) ∧ (¬ P → Q (some (.inl 0)) h)
theorem cx_b {d y : Nat} {av : List gi_V} {h : gi_H} {P : Prop} (hd : gi_cx d y av h (fun r1 h1 => (P → r1 = some (.inl 1) ∧ h1 = h) ∧ (¬ P → r1 = some (.inl 0) ∧ h1 = h))) {Q : gi_P} : gi_cx d y av h Q ↔ gi_B P Q h := by
  by_cases w : P
  · have h1 : gi_cx d y av h (fun r1 h1 => r1 = some (.inl 1) ∧ h1 = h) := gi_cx_mono hd (fun r h' q => q.1 w)
    rw [gi_cx_iff h1 Q]
    exact ⟨fun q => ⟨fun _ => q, fun z => absurd w z⟩, fun q => q.1 w⟩
  · have h1 : gi_cx d y av h (fun r1 h1 => r1 = some (.inl 0) ∧ h1 = h) := gi_cx_mono hd (fun r h' q => q.2 w)
    rw [gi_cx_iff h1 Q]
    exact ⟨fun q => ⟨fun z => absurd z w, fun _ => q⟩, fun q => q.2 w⟩
theorem i32_lt {x y : Int32} : x < y ↔ x.toInt < y.toInt := Int32.lt_iff_toInt_lt
theorem i32_le {x y : Int32} : x ≤ y ↔ x.toInt ≤ y.toInt := Int32.le_iff_toInt_le
theorem i32_eq {x y : Int32} : x = y ↔ x.toInt = y.toInt := Int32.toInt_inj.symm
theorem i32_lo (x : Int32) : -2147483648 ≤ x.toInt := Int32.le_toInt x
theorem i32_hi (x : Int32) : x.toInt < 2147483648 := Int32.toInt_lt x
theorem ti_0 : (0 : Int32).toInt = 0 := by decide
theorem ti_1 : (1 : Int32).toInt = 1 := by decide
theorem ti_2 : (2 : Int32).toInt = 2 := by decide
theorem ti_3 : (3 : Int32).toInt = 3 := by decide
theorem ti_4 : (4 : Int32).toInt = 4 := by decide
theorem ti_5 : (5 : Int32).toInt = 5 := by decide
theorem ti_7 : (7 : Int32).toInt = 7 := by decide
theorem ti_8 : (8 : Int32).toInt = 8 := by decide
theorem ti_12 : (12 : Int32).toInt = 12 := by decide
theorem ti_15 : (15 : Int32).toInt = 15 := by decide
theorem ti_16 : (16 : Int32).toInt = 16 := by decide
theorem ti_31 : (31 : Int32).toInt = 31 := by decide
theorem ti_32 : (32 : Int32).toInt = 32 := by decide
theorem ti_40 : (40 : Int32).toInt = 40 := by decide
theorem ti_60 : (60 : Int32).toInt = 60 := by decide
theorem ti_63 : (63 : Int32).toInt = 63 := by decide
theorem ti_64 : (64 : Int32).toInt = 64 := by decide
theorem ti_255 : (255 : Int32).toInt = 255 := by decide
theorem ti_256 : (256 : Int32).toInt = 256 := by decide
theorem ti_511 : (511 : Int32).toInt = 511 := by decide
theorem ti_768 : (768 : Int32).toInt = 768 := by decide
theorem ti_1000 : (1000 : Int32).toInt = 1000 := by decide
theorem ti_1023 : (1023 : Int32).toInt = 1023 := by decide
theorem ti_2047 : (2047 : Int32).toInt = 2047 := by decide
theorem ti_10000 : (10000 : Int32).toInt = 10000 := by decide
theorem ti_100000 : (100000 : Int32).toInt = 100000 := by decide
theorem ti_1000000 : (1000000 : Int32).toInt = 1000000 := by decide
theorem ti_m1 : (-1 : Int32).toInt = -1 := by decide
theorem ti_m2 : (-2 : Int32).toInt = -2 := by decide
theorem ti_m3 : (-3 : Int32).toInt = -3 := by decide
theorem ti_m4 : (-4 : Int32).toInt = -4 := by decide
theorem ti_m5 : (-5 : Int32).toInt = -5 := by decide
theorem ti_m6 : (-6 : Int32).toInt = -6 := by decide
theorem ti_m7 : (-7 : Int32).toInt = -7 := by decide

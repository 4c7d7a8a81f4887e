/-! what the instructions link, against the words of the tables (printed by wip/whole/mk5.py) -/
def gi_ws : List Jvm.Cond := lw_tbl.filter goodWord
def gi_at (j : Nat) (w : Jvm.Cond) : Bool := goodWord w && decide (lw_tbl[j]? = some w)
theorem gi_at_in {j : Nat} {w : Jvm.Cond} (h : gi_at j w = true) : w ∈ gi_ws := by
  simp only [gi_at, Bool.and_eq_true, decide_eq_true_eq] at h
  exact List.mem_filter.mpr ⟨List.mem_of_getElem? h.2, h.1⟩
def gi_nest : List Jvm.Cond := [.methodLinkNest "GuardedInodes" 27 ⟨"GuardedInodes$Disk", "<init>", "()V"⟩ "GuardedInodes", .methodLinkNest "GuardedInodes$Ledger" 21 ⟨"GuardedInodes$Quota", "<init>", "()V"⟩ "GuardedInodes", .methodLinkNest "GuardedInodes$Disk" 17 ⟨"GuardedInodes$Block", "<init>", "()V"⟩ "GuardedInodes", .methodLinkNest "GuardedInodes$Inode" 67 ⟨"GuardedInodes", "bitsOfOwner", "(I)I"⟩ "GuardedInodes", .methodLinkNest "GuardedInodes$Inode" 71 ⟨"GuardedInodes", "bitsOfGroup", "(I)I"⟩ "GuardedInodes", .methodLinkNest "GuardedInodes$Inode" 74 ⟨"GuardedInodes", "bitsOfOthers", "(I)I"⟩ "GuardedInodes"]
def gi_ao : List String := ["GuardedInodes$Inode", "GuardedInodes$Block", "GuardedInodes$Quota", "GuardedInodes$Attribute"]
def gi_on : List String := ["GuardedInodes", "GuardedInodes$Disk", "GuardedInodes$Ledger", "GuardedInodes$Quota", "GuardedInodes$Inode", "GuardedInodes$Rights", "GuardedInodes$Attribute", "GuardedInodes$Block", "GuardedInodesModel", "GuardedInodesLaw", "java/util/Arrays", "java/lang/Math"]
def gi_oc (i : Nat) : Nat := bif Nat.blt i 145 then (bif Nat.blt i 72 then (bif Nat.blt i 36 then (bif Nat.blt i 18 then (bif Nat.blt i 9 then (bif Nat.blt i 4 then (bif Nat.blt i 2 then (bif Nat.blt i 1 then 9 else 0) else (bif Nat.blt i 3 then 1 else 2)) else (bif Nat.blt i 6 then (bif Nat.blt i 5 then 3 else 4) else (bif Nat.blt i 7 then 10 else (bif Nat.blt i 8 then 0 else 11)))) else (bif Nat.blt i 13 then (bif Nat.blt i 11 then (bif Nat.blt i 10 then 0 else 0) else (bif Nat.blt i 12 then 0 else 0)) else (bif Nat.blt i 15 then (bif Nat.blt i 14 then 0 else 0) else (bif Nat.blt i 16 then 0 else (bif Nat.blt i 17 then 0 else 4))))) else (bif Nat.blt i 27 then (bif Nat.blt i 22 then (bif Nat.blt i 20 then (bif Nat.blt i 19 then 5 else 0) else (bif Nat.blt i 21 then 0 else 0)) else (bif Nat.blt i 24 then (bif Nat.blt i 23 then 0 else 0) else (bif Nat.blt i 25 then 0 else (bif Nat.blt i 26 then 5 else 0)))) else (bif Nat.blt i 31 then (bif Nat.blt i 29 then (bif Nat.blt i 28 then 0 else 2) else (bif Nat.blt i 30 then 2 else 2)) else (bif Nat.blt i 33 then (bif Nat.blt i 32 then 3 else 3) else (bif Nat.blt i 34 then 4 else (bif Nat.blt i 35 then 5 else 5)))))) else (bif Nat.blt i 54 then (bif Nat.blt i 45 then (bif Nat.blt i 40 then (bif Nat.blt i 38 then (bif Nat.blt i 37 then 5 else 0) else (bif Nat.blt i 39 then 2 else 3)) else (bif Nat.blt i 42 then (bif Nat.blt i 41 then 3 else 0) else (bif Nat.blt i 43 then 0 else (bif Nat.blt i 44 then 0 else 4)))) else (bif Nat.blt i 49 then (bif Nat.blt i 47 then (bif Nat.blt i 46 then 1 else 0) else (bif Nat.blt i 48 then 0 else 0)) else (bif Nat.blt i 51 then (bif Nat.blt i 50 then 4 else 1) else (bif Nat.blt i 52 then 0 else (bif Nat.blt i 53 then 1 else 7))))) else (bif Nat.blt i 63 then (bif Nat.blt i 58 then (bif Nat.blt i 56 then (bif Nat.blt i 55 then 1 else 1) else (bif Nat.blt i 57 then 11 else 0)) else (bif Nat.blt i 60 then (bif Nat.blt i 59 then 1 else 0) else (bif Nat.blt i 61 then 0 else (bif Nat.blt i 62 then 0 else 0)))) else (bif Nat.blt i 67 then (bif Nat.blt i 65 then (bif Nat.blt i 64 then 2 else 2) else (bif Nat.blt i 66 then 0 else 0)) else (bif Nat.blt i 69 then (bif Nat.blt i 68 then 4 else 4) else (bif Nat.blt i 70 then 5 else (bif Nat.blt i 71 then 0 else 5))))))) else (bif Nat.blt i 108 then (bif Nat.blt i 90 then (bif Nat.blt i 81 then (bif Nat.blt i 76 then (bif Nat.blt i 74 then (bif Nat.blt i 73 then 0 else 0) else (bif Nat.blt i 75 then 0 else 0)) else (bif Nat.blt i 78 then (bif Nat.blt i 77 then 0 else 6) else (bif Nat.blt i 79 then 10 else (bif Nat.blt i 80 then 4 else 6)))) else (bif Nat.blt i 85 then (bif Nat.blt i 83 then (bif Nat.blt i 82 then 0 else 0) else (bif Nat.blt i 84 then 0 else 6)) else (bif Nat.blt i 87 then (bif Nat.blt i 86 then 0 else 0) else (bif Nat.blt i 88 then 0 else (bif Nat.blt i 89 then 2 else 3))))) else (bif Nat.blt i 99 then (bif Nat.blt i 94 then (bif Nat.blt i 92 then (bif Nat.blt i 91 then 0 else 2) else (bif Nat.blt i 93 then 0 else 0)) else (bif Nat.blt i 96 then (bif Nat.blt i 95 then 0 else 0) else (bif Nat.blt i 97 then 8 else (bif Nat.blt i 98 then 8 else 8)))) else (bif Nat.blt i 103 then (bif Nat.blt i 101 then (bif Nat.blt i 100 then 8 else 8) else (bif Nat.blt i 102 then 8 else 8)) else (bif Nat.blt i 105 then (bif Nat.blt i 104 then 8 else 8) else (bif Nat.blt i 106 then 8 else (bif Nat.blt i 107 then 8 else 8)))))) else (bif Nat.blt i 126 then (bif Nat.blt i 117 then (bif Nat.blt i 112 then (bif Nat.blt i 110 then (bif Nat.blt i 109 then 8 else 8) else (bif Nat.blt i 111 then 8 else 8)) else (bif Nat.blt i 114 then (bif Nat.blt i 113 then 8 else 8) else (bif Nat.blt i 115 then 8 else (bif Nat.blt i 116 then 8 else 8)))) else (bif Nat.blt i 121 then (bif Nat.blt i 119 then (bif Nat.blt i 118 then 8 else 8) else (bif Nat.blt i 120 then 8 else 8)) else (bif Nat.blt i 123 then (bif Nat.blt i 122 then 8 else 8) else (bif Nat.blt i 124 then 8 else (bif Nat.blt i 125 then 8 else 8))))) else (bif Nat.blt i 135 then (bif Nat.blt i 130 then (bif Nat.blt i 128 then (bif Nat.blt i 127 then 8 else 8) else (bif Nat.blt i 129 then 8 else 8)) else (bif Nat.blt i 132 then (bif Nat.blt i 131 then 8 else 8) else (bif Nat.blt i 133 then 8 else (bif Nat.blt i 134 then 8 else 8)))) else (bif Nat.blt i 140 then (bif Nat.blt i 137 then (bif Nat.blt i 136 then 8 else 8) else (bif Nat.blt i 138 then 8 else (bif Nat.blt i 139 then 8 else 8))) else (bif Nat.blt i 142 then (bif Nat.blt i 141 then 8 else 8) else (bif Nat.blt i 143 then 8 else (bif Nat.blt i 144 then 8 else 8)))))))) else 0
def gi_na (i : Nat) : Nat := bif Nat.blt i 145 then (bif Nat.blt i 72 then (bif Nat.blt i 36 then (bif Nat.blt i 18 then (bif Nat.blt i 9 then (bif Nat.blt i 4 then (bif Nat.blt i 2 then (bif Nat.blt i 1 then 1 else 0) else (bif Nat.blt i 3 then 0 else 0)) else (bif Nat.blt i 6 then (bif Nat.blt i 5 then 0 else 5) else (bif Nat.blt i 7 then 2 else (bif Nat.blt i 8 then 1 else 2)))) else (bif Nat.blt i 13 then (bif Nat.blt i 11 then (bif Nat.blt i 10 then 2 else 1) else (bif Nat.blt i 12 then 3 else 2)) else (bif Nat.blt i 15 then (bif Nat.blt i 14 then 4 else 1) else (bif Nat.blt i 16 then 3 else (bif Nat.blt i 17 then 3 else 0))))) else (bif Nat.blt i 27 then (bif Nat.blt i 22 then (bif Nat.blt i 20 then (bif Nat.blt i 19 then 0 else 1) else (bif Nat.blt i 21 then 2 else 2)) else (bif Nat.blt i 24 then (bif Nat.blt i 23 then 1 else 1) else (bif Nat.blt i 25 then 4 else (bif Nat.blt i 26 then 2 else 0)))) else (bif Nat.blt i 31 then (bif Nat.blt i 29 then (bif Nat.blt i 28 then 5 else 4) else (bif Nat.blt i 30 then 3 else 2)) else (bif Nat.blt i 33 then (bif Nat.blt i 32 then 3 else 1) else (bif Nat.blt i 34 then 3 else (bif Nat.blt i 35 then 0 else 0)))))) else (bif Nat.blt i 54 then (bif Nat.blt i 45 then (bif Nat.blt i 40 then (bif Nat.blt i 38 then (bif Nat.blt i 37 then 3 else 4) else (bif Nat.blt i 39 then 4 else 3)) else (bif Nat.blt i 42 then (bif Nat.blt i 41 then 2 else 2) else (bif Nat.blt i 43 then 2 else (bif Nat.blt i 44 then 1 else 0)))) else (bif Nat.blt i 49 then (bif Nat.blt i 47 then (bif Nat.blt i 46 then 1 else 5) else (bif Nat.blt i 48 then 1 else 2)) else (bif Nat.blt i 51 then (bif Nat.blt i 50 then 2 else 0) else (bif Nat.blt i 52 then 3 else (bif Nat.blt i 53 then 0 else 0))))) else (bif Nat.blt i 63 then (bif Nat.blt i 58 then (bif Nat.blt i 56 then (bif Nat.blt i 55 then 3 else 1) else (bif Nat.blt i 57 then 2 else 4)) else (bif Nat.blt i 60 then (bif Nat.blt i 59 then 2 else 3) else (bif Nat.blt i 61 then 3 else (bif Nat.blt i 62 then 3 else 4)))) else (bif Nat.blt i 67 then (bif Nat.blt i 65 then (bif Nat.blt i 64 then 4 else 4) else (bif Nat.blt i 66 then 6 else 1)) else (bif Nat.blt i 69 then (bif Nat.blt i 68 then 1 else 4) else (bif Nat.blt i 70 then 3 else (bif Nat.blt i 71 then 3 else 2))))))) else (bif Nat.blt i 108 then (bif Nat.blt i 90 then (bif Nat.blt i 81 then (bif Nat.blt i 76 then (bif Nat.blt i 74 then (bif Nat.blt i 73 then 3 else 1) else (bif Nat.blt i 75 then 3 else 1)) else (bif Nat.blt i 78 then (bif Nat.blt i 77 then 4 else 2) else (bif Nat.blt i 79 then 2 else (bif Nat.blt i 80 then 2 else 0)))) else (bif Nat.blt i 85 then (bif Nat.blt i 83 then (bif Nat.blt i 82 then 3 else 3) else (bif Nat.blt i 84 then 4 else 1)) else (bif Nat.blt i 87 then (bif Nat.blt i 86 then 2 else 5) else (bif Nat.blt i 88 then 1 else (bif Nat.blt i 89 then 5 else 4))))) else (bif Nat.blt i 99 then (bif Nat.blt i 94 then (bif Nat.blt i 92 then (bif Nat.blt i 91 then 3 else 3) else (bif Nat.blt i 93 then 3 else 2)) else (bif Nat.blt i 96 then (bif Nat.blt i 95 then 1 else 0) else (bif Nat.blt i 97 then 0 else (bif Nat.blt i 98 then 1 else 3)))) else (bif Nat.blt i 103 then (bif Nat.blt i 101 then (bif Nat.blt i 100 then 2 else 1) else (bif Nat.blt i 102 then 3 else 2)) else (bif Nat.blt i 105 then (bif Nat.blt i 104 then 4 else 1) else (bif Nat.blt i 106 then 3 else (bif Nat.blt i 107 then 2 else 0)))))) else (bif Nat.blt i 126 then (bif Nat.blt i 117 then (bif Nat.blt i 112 then (bif Nat.blt i 110 then (bif Nat.blt i 109 then 2 else 3) else (bif Nat.blt i 111 then 3 else 0)) else (bif Nat.blt i 114 then (bif Nat.blt i 113 then 1 else 2) else (bif Nat.blt i 115 then 2 else (bif Nat.blt i 116 then 1 else 2)))) else (bif Nat.blt i 121 then (bif Nat.blt i 119 then (bif Nat.blt i 118 then 3 else 2) else (bif Nat.blt i 120 then 5 else 0)) else (bif Nat.blt i 123 then (bif Nat.blt i 122 then 0 else 4) else (bif Nat.blt i 124 then 3 else (bif Nat.blt i 125 then 3 else 4))))) else (bif Nat.blt i 135 then (bif Nat.blt i 130 then (bif Nat.blt i 128 then (bif Nat.blt i 127 then 1 else 6) else (bif Nat.blt i 129 then 2 else 3)) else (bif Nat.blt i 132 then (bif Nat.blt i 131 then 3 else 3) else (bif Nat.blt i 133 then 1 else (bif Nat.blt i 134 then 3 else 4)))) else (bif Nat.blt i 140 then (bif Nat.blt i 137 then (bif Nat.blt i 136 then 4 else 2) else (bif Nat.blt i 138 then 3 else (bif Nat.blt i 139 then 4 else 2))) else (bif Nat.blt i 142 then (bif Nat.blt i 141 then 5 else 3) else (bif Nat.blt i 143 then 3 else (bif Nat.blt i 144 then 2 else 1)))))))) else 0
def gi_F : List (Nat × Nat × Nat × Nat) := [(0, 9, 0, 1), (0, 13, 0, 3), (0, 16, 0, 5), (0, 21, 0, 7), (0, 28, 0, 9), (0, 35, 0, 11), (0, 39, 0, 13), (0, 46, 2, 0), (0, 65, 4, 0), (0, 80, 4, 8), (0, 83, 4, 6), (0, 98, 4, 2), (0, 112, 4, 12), (0, 119, 4, 15), (0, 139, 4, 10), (0, 156, 4, 4), (0, 182, 5, 6), (0, 195, 5, 2), (0, 198, 5, 0), (0, 204, 5, 4), (0, 213, 0, 14), (0, 234, 4, 17), (0, 262, 3, 0), (0, 267, 3, 2), (0, 280, 4, 19), (1, 11, 1, 1), (1, 22, 7, 1), (2, 11, 2, 3), (2, 17, 2, 5), (2, 26, 2, 0), (3, 9, 3, 2), (3, 15, 3, 4), (3, 18, 3, 6), (3, 21, 3, 0), (4, 9, 4, 12), (4, 15, 4, 15), (4, 21, 4, 17), (4, 25, 4, 0), (4, 28, 4, 2), (4, 31, 4, 4), (4, 34, 4, 6), (4, 37, 4, 8), (4, 46, 4, 21), (4, 60, 4, 19), (4, 83, 5, 6), (5, 9, 5, 9), (5, 15, 5, 0), (5, 19, 5, 2), (5, 22, 5, 4), (5, 34, 5, 6), (6, 15, 6, 1), (7, 9, 7, 1), (8, 7, 8, 3), (8, 13, 8, 5), (8, 16, 8, 7), (8, 19, 8, 9), (8, 22, 8, 11), (8, 25, 8, 13), (8, 28, 8, 15), (8, 31, 8, 17), (8, 34, 8, 19), (8, 37, 8, 21), (8, 40, 8, 23), (8, 43, 8, 25), (8, 47, 8, 27), (8, 51, 8, 29), (8, 54, 8, 31), (8, 57, 8, 33), (8, 60, 8, 35), (8, 63, 8, 37), (8, 66, 8, 39), (8, 69, 8, 41), (8, 73, 8, 43), (8, 76, 8, 45), (8, 79, 8, 49), (8, 82, 8, 51), (8, 85, 8, 53), (8, 88, 8, 55), (8, 91, 8, 57), (8, 94, 8, 59), (8, 97, 8, 61), (8, 105, 8, 0), (8, 190, 8, 46), (8, 193, 8, 62)]
def gi_Fx : List ((Nat × Nat × Nat × Nat) × Nat) := [((0, 9, 0, 1), 167), ((0, 13, 0, 3), 168), ((0, 16, 0, 5), 169), ((0, 21, 0, 7), 170), ((0, 28, 0, 9), 171), ((0, 35, 0, 11), 172), ((0, 39, 0, 13), 173), ((0, 46, 2, 0), 102), ((0, 65, 4, 0), 124), ((0, 80, 4, 8), 132), ((0, 83, 4, 6), 130), ((0, 98, 4, 2), 126), ((0, 112, 4, 12), 135), ((0, 119, 4, 15), 137), ((0, 139, 4, 10), 133), ((0, 156, 4, 4), 128), ((0, 182, 5, 6), 318), ((0, 195, 5, 2), 313), ((0, 198, 5, 0), 311), ((0, 204, 5, 4), 315), ((0, 213, 0, 14), 174), ((0, 234, 4, 17), 139), ((0, 262, 3, 0), 88), ((0, 267, 3, 2), 90), ((0, 280, 4, 19), 141), ((1, 11, 1, 1), 69), ((1, 22, 7, 1), 401), ((2, 11, 2, 3), 104), ((2, 17, 2, 5), 105), ((2, 26, 2, 0), 103), ((3, 9, 3, 2), 89), ((3, 15, 3, 4), 91), ((3, 18, 3, 6), 92), ((3, 21, 3, 0), 87), ((4, 9, 4, 12), 134), ((4, 15, 4, 15), 136), ((4, 21, 4, 17), 138), ((4, 25, 4, 0), 123), ((4, 28, 4, 2), 125), ((4, 31, 4, 4), 127), ((4, 34, 4, 6), 129), ((4, 37, 4, 8), 131), ((4, 46, 4, 21), 142), ((4, 60, 4, 19), 140), ((4, 83, 5, 6), 317), ((5, 9, 5, 9), 319), ((5, 15, 5, 0), 310), ((5, 19, 5, 2), 312), ((5, 22, 5, 4), 314), ((5, 34, 5, 6), 316), ((6, 15, 6, 1), 523), ((7, 9, 7, 1), 400), ((8, 7, 8, 3), 607), ((8, 13, 8, 5), 608), ((8, 16, 8, 7), 609), ((8, 19, 8, 9), 610), ((8, 22, 8, 11), 611), ((8, 25, 8, 13), 612), ((8, 28, 8, 15), 613), ((8, 31, 8, 17), 614), ((8, 34, 8, 19), 615), ((8, 37, 8, 21), 616), ((8, 40, 8, 23), 617), ((8, 43, 8, 25), 618), ((8, 47, 8, 27), 619), ((8, 51, 8, 29), 620), ((8, 54, 8, 31), 621), ((8, 57, 8, 33), 622), ((8, 60, 8, 35), 623), ((8, 63, 8, 37), 624), ((8, 66, 8, 39), 625), ((8, 69, 8, 41), 626), ((8, 73, 8, 43), 627), ((8, 76, 8, 45), 628), ((8, 79, 8, 49), 630), ((8, 82, 8, 51), 631), ((8, 85, 8, 53), 632), ((8, 88, 8, 55), 633), ((8, 91, 8, 57), 634), ((8, 94, 8, 59), 635), ((8, 97, 8, 61), 636), ((8, 105, 8, 0), 606), ((8, 190, 8, 46), 629), ((8, 193, 8, 62), 637)]
def gi_Ml : List (Nat × Nat × Nat) := [(0, 34, 3), (0, 43, 5), (0, 51, 8), (0, 57, 10), (0, 61, 14), (0, 68, 15), (0, 72, 16), (0, 76, 26), (0, 86, 27), (0, 90, 33), (0, 94, 37), (0, 101, 42), (0, 105, 43), (0, 109, 44), (0, 115, 45), (0, 122, 47), (0, 126, 48), (0, 130, 49), (0, 133, 50), (0, 136, 51), (0, 142, 56), (0, 149, 58), (0, 152, 60), (0, 159, 21), (0, 162, 63), (0, 166, 64), (0, 170, 66), (0, 173, 67), (0, 177, 25), (0, 185, 68), (0, 189, 18), (0, 192, 22), (0, 201, 19), (0, 207, 23), (0, 210, 71), (0, 216, 75), (0, 219, 76), (0, 225, 77), (0, 228, 79), (0, 238, 81), (0, 242, 80), (0, 245, 84), (0, 247, 87), (0, 250, 88), (0, 254, 91), (0, 258, 29), (0, 270, 95), (0, 273, 17), (0, 277, 20), (0, 284, 24), (0, 288, 28), (0, 291, 38), (0, 294, 52), (0, 297, 54), (1, 18, 55), (2, 22, 29), (2, 30, 30), (2, 34, 31), (2, 38, 39), (2, 42, 28), (2, 45, 38), (2, 48, 89), (3, 24, 32), (3, 28, 40), (4, 40, 6), (4, 50, 34), (4, 56, 35), (4, 63, 67), (4, 77, 36), (4, 80, 69), (4, 86, 18), (4, 89, 80), (5, 25, 6), (5, 31, 36), (5, 43, 18), (6, 9, 78), (8, 100, 98), (8, 109, 8), (8, 115, 100), (8, 119, 106), (8, 123, 110), (8, 127, 109), (8, 130, 117), (8, 134, 104), (8, 137, 105), (8, 140, 107), (8, 143, 108), (8, 146, 111), (8, 149, 112), (8, 153, 113), (8, 157, 115), (8, 161, 116), (8, 164, 118), (8, 167, 120), (8, 171, 121), (8, 174, 56), (8, 181, 126), (8, 184, 128), (8, 187, 130), (8, 196, 134), (8, 200, 135), (8, 204, 136), (9, 9, 1), (9, 12, 96), (9, 13, 7), (9, 17, 97), (9, 18, 9), (9, 22, 99), (9, 23, 11), (9, 27, 101), (9, 28, 12), (9, 31, 102), (9, 32, 13), (9, 36, 103), (9, 37, 41), (9, 40, 114), (9, 43, 46), (9, 47, 119), (9, 48, 57), (9, 52, 122), (9, 53, 59), (9, 57, 123), (9, 58, 61), (9, 61, 124), (9, 62, 62), (9, 65, 125), (9, 66, 65), (9, 70, 127), (9, 71, 70), (9, 75, 129), (9, 76, 72), (9, 79, 131), (9, 80, 73), (9, 83, 132), (9, 84, 74), (9, 87, 133), (9, 88, 82), (9, 91, 137), (9, 92, 83), (9, 95, 138), (9, 96, 85), (9, 99, 139), (9, 100, 86), (9, 104, 140), (9, 105, 90), (9, 108, 141), (9, 109, 92), (9, 112, 142), (9, 113, 93), (9, 116, 143), (9, 117, 94), (9, 120, 144)]
def gi_Mlx : List ((Nat × Nat × Nat) × Nat) := [((0, 34, 3), 76), ((0, 43, 5), 114), ((0, 51, 8), 197), ((0, 57, 10), 204), ((0, 61, 14), 219), ((0, 68, 15), 223), ((0, 72, 16), 226), ((0, 76, 26), 262), ((0, 86, 27), 266), ((0, 90, 33), 290), ((0, 94, 37), 334), ((0, 101, 42), 354), ((0, 105, 43), 357), ((0, 109, 44), 361), ((0, 115, 45), 365), ((0, 122, 47), 373), ((0, 126, 48), 376), ((0, 130, 49), 379), ((0, 133, 50), 383), ((0, 136, 51), 387), ((0, 142, 56), 413), ((0, 149, 58), 422), ((0, 152, 60), 430), ((0, 159, 21), 244), ((0, 162, 63), 442), ((0, 166, 64), 447), ((0, 170, 66), 456), ((0, 173, 67), 459), ((0, 177, 25), 258), ((0, 185, 68), 463), ((0, 189, 18), 481), ((0, 192, 22), 248), ((0, 201, 19), 238), ((0, 207, 23), 251), ((0, 210, 71), 482), ((0, 216, 75), 498), ((0, 219, 76), 501), ((0, 225, 77), 507), ((0, 228, 79), 527), ((0, 238, 81), 537), ((0, 242, 80), 541), ((0, 245, 84), 550), ((0, 247, 87), 562), ((0, 250, 88), 565), ((0, 254, 91), 578), ((0, 258, 29), 586), ((0, 270, 95), 595), ((0, 273, 17), 230), ((0, 277, 20), 241), ((0, 284, 24), 254), ((0, 288, 28), 270), ((0, 291, 38), 338), ((0, 294, 52), 391), ((0, 297, 54), 405), ((1, 18, 55), 409), ((2, 22, 29), 274), ((2, 30, 30), 278), ((2, 34, 31), 282), ((2, 38, 39), 342), ((2, 42, 28), 446), ((2, 45, 38), 451), ((2, 48, 89), 569), ((3, 24, 32), 286), ((3, 28, 40), 346), ((4, 40, 6), 120), ((4, 50, 34), 294), ((4, 56, 35), 299), ((4, 63, 67), 467), ((4, 77, 36), 472), ((4, 80, 69), 473), ((4, 86, 18), 234), ((4, 89, 80), 531), ((5, 25, 6), 309), ((5, 31, 36), 305), ((5, 43, 18), 298), ((6, 9, 78), 511), ((8, 100, 98), 708), ((8, 109, 8), 712), ((8, 115, 100), 717), ((8, 119, 106), 740), ((8, 123, 110), 756), ((8, 127, 109), 752), ((8, 130, 117), 783), ((8, 134, 104), 732), ((8, 137, 105), 736), ((8, 140, 107), 744), ((8, 143, 108), 748), ((8, 146, 111), 759), ((8, 149, 112), 763), ((8, 153, 113), 767), ((8, 157, 115), 775), ((8, 161, 116), 779), ((8, 164, 118), 787), ((8, 167, 120), 795), ((8, 171, 121), 799), ((8, 174, 56), 803), ((8, 181, 126), 822), ((8, 184, 128), 830), ((8, 187, 130), 838), ((8, 196, 134), 854), ((8, 200, 135), 858), ((8, 204, 136), 862), ((9, 9, 1), 53), ((9, 12, 96), 601), ((9, 13, 7), 192), ((9, 17, 97), 704), ((9, 18, 9), 200), ((9, 22, 99), 713), ((9, 23, 11), 207), ((9, 27, 101), 720), ((9, 28, 12), 211), ((9, 31, 102), 724), ((9, 32, 13), 215), ((9, 36, 103), 728), ((9, 37, 41), 350), ((9, 40, 114), 771), ((9, 43, 46), 369), ((9, 47, 119), 791), ((9, 48, 57), 416), ((9, 52, 122), 804), ((9, 53, 59), 426), ((9, 57, 123), 810), ((9, 58, 61), 434), ((9, 61, 124), 814), ((9, 62, 62), 438), ((9, 65, 125), 818), ((9, 66, 65), 452), ((9, 70, 127), 826), ((9, 71, 70), 477), ((9, 75, 129), 834), ((9, 76, 72), 486), ((9, 79, 131), 842), ((9, 80, 73), 490), ((9, 83, 132), 846), ((9, 84, 74), 494), ((9, 87, 133), 850), ((9, 88, 82), 542), ((9, 91, 137), 866), ((9, 92, 83), 546), ((9, 95, 138), 870), ((9, 96, 85), 554), ((9, 99, 139), 874), ((9, 100, 86), 558), ((9, 104, 140), 878), ((9, 105, 90), 573), ((9, 108, 141), 882), ((9, 109, 92), 582), ((9, 112, 142), 887), ((9, 113, 93), 587), ((9, 116, 143), 891), ((9, 117, 94), 591), ((9, 120, 144), 895)]
def gi_Mn : List (Nat × Nat × Nat) := [(0, 27, 2), (1, 17, 53), (2, 21, 4), (4, 67, 19), (4, 71, 22), (4, 74, 23)]
def gi_Cl : List (Nat × Nat × Nat × Nat) := [(0, 19, 4, 11), (0, 25, 1, 1), (0, 32, 2, 3), (0, 223, 6, 1), (1, 9, 7, 1), (2, 9, 3, 4), (4, 51, 5, 5), (5, 10, 5, 5), (9, 7, 0, 8), (9, 10, 8, 32)]
def gi_Clx : List ((Nat × Nat × Nat × Nat) × Nat) := [((0, 19, 4, 11), 59), ((0, 25, 1, 1), 61), ((0, 32, 2, 3), 74), ((0, 223, 6, 1), 505), ((1, 9, 7, 1), 67), ((2, 9, 3, 4), 80), ((4, 51, 5, 5), 468), ((5, 10, 5, 5), 303), ((9, 7, 0, 8), 51), ((9, 10, 8, 32), 599)]
def gi_Al : List (Nat × Nat × Nat) := [(0, 19, 3), (1, 9, 4), (2, 9, 5), (4, 19, 6)]
def gi_Alx : List ((Nat × Nat × Nat) × Nat) := [((0, 19, 3), 59), ((1, 9, 4), 67), ((2, 9, 5), 80), ((4, 19, 6), 118)]
def gi_Ki : List (Nat × Nat × Nat × Nat) := [(0, 50, 1000000, 0), (0, 253, 100000, 0), (8, 72, 122880, 0), (8, 104, 1000000, 0), (8, 207, 100000, 0)]
def gi_Kix : List ((Nat × Nat × Nat × Nat) × Nat) := [((0, 50, 1000000, 0), 196), ((0, 253, 100000, 0), 577), ((8, 72, 122880, 0), 605), ((8, 104, 1000000, 0), 711), ((8, 207, 100000, 0), 886)]
def gi_Kj : List (Nat × Nat × Nat × Nat) := [(0, 145, 2, 1), (0, 147, 3, 1), (0, 232, 1, 1), (4, 92, 1, 1), (8, 177, 2, 1), (8, 179, 3, 1), (9, 41, 4294967295, 0)]
def gi_Kjx : List ((Nat × Nat × Nat × Nat) × Nat) := [((0, 145, 2, 1), 420), ((0, 147, 3, 1), 421), ((0, 232, 1, 1), 536), ((4, 92, 1, 1), 535), ((8, 177, 2, 1), 808), ((8, 179, 3, 1), 809), ((9, 41, 4294967295, 0), 899)]
def gi_Ob : List (Nat × Nat) := [(0, 1), (1, 3), (2, 3), (3, 3), (4, 3), (5, 3), (6, 3), (7, 3), (8, 1)]
def gi_Obx : List ((Nat × Nat) × Nat) := [((0, 1), 56), ((1, 3), 66), ((2, 3), 79), ((3, 3), 86), ((4, 3), 117), ((5, 3), 308), ((6, 3), 510), ((7, 3), 399), ((8, 1), 604)]
def gi_Ac : List (Nat × Nat) := [(5, 37)]
def gi_Acx : List ((Nat × Nat) × Nat) := [((5, 37), 331)]
def gi_Vs : List (Nat) := [7, 9, 11, 12, 13, 14, 16, 17, 18, 21, 24, 25, 26, 27, 28, 29, 30, 31, 32, 33, 34, 35, 37, 38, 39, 40, 41, 43, 44, 45, 46, 49, 50, 51, 52, 54, 55, 57, 58, 59, 60, 61, 62, 63, 64, 65, 67, 68, 69, 70, 71, 72, 73, 74, 76, 79, 80, 81, 82, 83, 84, 85, 86, 88, 89, 90, 91, 92, 93, 94, 95, 97, 99, 101, 102, 103, 104, 105, 106, 107, 108, 109, 111, 112, 113, 114, 115, 116, 117, 118, 119, 120, 121, 122, 123, 124, 125, 126, 127, 128, 129, 130, 131, 132, 133, 134, 135, 136, 137, 138, 139, 140, 141, 142, 143, 144]
def gi_Ss : List (Nat) := [6, 8, 10, 15, 19, 20, 22, 23, 42, 47, 48, 56, 66, 75, 78, 87, 98, 100, 110]
def gi_Is : List (Nat) := [1, 2, 3, 4, 5, 36, 53, 77, 96]
def gi_Vx : List (Nat × Nat × Nat × Nat × Nat) := [(7, 195, 39, 193, 194), (9, 203, 39, 201, 202), (11, 210, 39, 208, 209), (12, 214, 39, 212, 213), (13, 218, 39, 216, 217), (14, 222, 39, 221, 0), (16, 229, 39, 228, 1), (17, 233, 43, 231, 232), (18, 237, 47, 235, 236), (21, 247, 39, 246, 2), (24, 257, 39, 256, 3), (25, 261, 47, 259, 260), (26, 265, 39, 264, 4), (27, 269, 39, 268, 5), (28, 273, 41, 271, 272), (29, 277, 41, 275, 276), (30, 281, 41, 280, 6), (31, 285, 42, 283, 284), (32, 289, 42, 288, 7), (33, 293, 43, 291, 292), (34, 297, 47, 295, 296), (35, 302, 47, 300, 301), (37, 337, 39, 336, 8), (38, 341, 41, 339, 340), (39, 345, 42, 343, 344), (40, 349, 42, 348, 9), (41, 353, 39, 351, 352), (43, 360, 39, 359, 10), (44, 364, 43, 362, 363), (45, 368, 40, 366, 367), (46, 372, 39, 370, 371), (49, 382, 43, 380, 381), (50, 386, 40, 384, 385), (51, 390, 39, 389, 11), (52, 394, 40, 392, 393), (54, 408, 40, 406, 407), (55, 412, 40, 411, 12), (57, 419, 39, 417, 418), (58, 425, 40, 423, 424), (59, 429, 39, 427, 428), (60, 433, 39, 432, 13), (61, 437, 39, 435, 436), (62, 441, 39, 439, 440), (63, 445, 41, 443, 444), (64, 450, 41, 448, 449), (65, 455, 39, 453, 454), (67, 462, 43, 460, 461), (68, 466, 43, 464, 465), (69, 476, 47, 474, 475), (70, 480, 39, 478, 479), (71, 485, 47, 483, 484), (72, 489, 39, 487, 488), (73, 493, 39, 491, 492), (74, 497, 39, 495, 496), (76, 504, 39, 503, 14), (79, 530, 43, 528, 529), (80, 534, 50, 532, 533), (81, 540, 39, 539, 15), (82, 545, 39, 543, 544), (83, 549, 39, 547, 548), (84, 553, 50, 551, 552), (85, 557, 39, 555, 556), (86, 561, 39, 559, 560), (88, 568, 41, 566, 567), (89, 572, 42, 570, 571), (90, 576, 39, 574, 575), (91, 581, 41, 579, 580), (92, 585, 39, 583, 584), (93, 590, 39, 588, 589), (94, 594, 39, 592, 593), (95, 598, 39, 597, 16), (97, 707, 45, 705, 706), (99, 716, 45, 714, 715), (101, 723, 45, 721, 722), (102, 727, 45, 725, 726), (103, 731, 45, 729, 730), (104, 735, 45, 734, 17), (105, 739, 45, 738, 18), (106, 743, 45, 742, 19), (107, 747, 45, 746, 20), (108, 751, 45, 750, 21), (109, 755, 45, 754, 22), (111, 762, 45, 761, 23), (112, 766, 45, 765, 24), (113, 770, 45, 769, 25), (114, 774, 45, 772, 773), (115, 778, 45, 777, 26), (116, 782, 45, 781, 27), (117, 786, 45, 785, 28), (118, 790, 45, 789, 29), (119, 794, 45, 792, 793), (120, 798, 45, 797, 30), (121, 802, 45, 801, 31), (122, 807, 45, 805, 806), (123, 813, 45, 811, 812), (124, 817, 45, 815, 816), (125, 821, 45, 819, 820), (126, 825, 45, 824, 32), (127, 829, 45, 827, 828), (128, 833, 45, 832, 33), (129, 837, 45, 835, 836), (130, 841, 45, 840, 34), (131, 845, 45, 843, 844), (132, 849, 45, 847, 848), (133, 853, 45, 851, 852), (134, 857, 45, 856, 35), (135, 861, 45, 860, 36), (136, 865, 45, 864, 37), (137, 869, 45, 867, 868), (138, 873, 45, 871, 872), (139, 877, 45, 875, 876), (140, 881, 45, 879, 880), (141, 885, 45, 883, 884), (142, 890, 45, 888, 889), (143, 894, 45, 892, 893), (144, 898, 45, 896, 897)]
def gi_Sx : List (Nat × Nat × Nat × Nat × Nat) := [(6, 122, 44, 121, 0), (8, 199, 46, 198, 0), (10, 206, 39, 205, 0), (15, 225, 39, 224, 0), (19, 240, 39, 239, 0), (20, 243, 39, 242, 0), (22, 250, 39, 249, 0), (23, 253, 39, 252, 0), (42, 356, 39, 355, 0), (47, 375, 39, 374, 0), (48, 378, 39, 377, 0), (56, 415, 46, 414, 0), (66, 458, 39, 457, 0), (75, 500, 39, 499, 0), (78, 513, 44, 512, 0), (87, 564, 39, 563, 0), (98, 710, 45, 709, 0), (100, 719, 45, 718, 0), (110, 758, 45, 757, 0)]
def gi_Ix : List (Nat × Nat × Nat × Nat × Nat) := [(1, 55, 39, 54, 0), (2, 65, 40, 64, 0), (3, 78, 41, 77, 0), (4, 85, 42, 84, 0), (5, 116, 43, 115, 0), (36, 307, 47, 306, 0), (53, 398, 49, 397, 0), (77, 509, 50, 508, 0), (96, 603, 45, 602, 0)]
def gi_kx : List (Nat × Nat × Nat × List Nat) := [(0, 52, 39, [175, 177, 179, 181, 183, 185, 187, 189]), (1, 62, 40, [70]), (2, 75, 41, [106, 108, 110]), (3, 82, 42, [93, 95, 97, 99]), (4, 113, 43, [143, 145, 147, 149, 151, 153, 155, 157, 159, 161, 163]), (5, 304, 47, [320, 322, 324, 326, 328]), (6, 506, 50, [524]), (7, 395, 49, [402]), (8, 600, 45, [638, 640, 642, 644, 646, 648, 650, 652, 654, 656, 658, 660, 662, 664, 666, 668, 670, 672, 674, 676, 678, 680, 682, 684, 686, 688, 690, 692, 694, 696, 698, 700])]
def gi_ow (o : Nat) : String := gi_on.getD o ""
def gi_isr (t : Option FieldType) : Bool := match t with
  | some (.object _) => true
  | some (.array _) => true
  | _ => false
def gi_Fb (e : (Nat × Nat × Nat × Nat) × Nat) : Bool := match gi_cl[e.1.2.2.1]? with
  | some (C, T, N) => Nat.blt (e.1.2.2.2 / 2) N && decide ((T (e.1.2.2.2 / 2)).1 = C) && gi_at e.2 (.fieldLink (gi_ow e.1.1) e.1.2.1 C (T (e.1.2.2.2 / 2)).2.1 (T (e.1.2.2.2 / 2)).2.2.1) && (bif Nat.beq (e.1.2.2.2 % 2) 1 then gi_isr (parseFieldDescriptor (T (e.1.2.2.2 / 2)).2.2.1) else decide (parseFieldDescriptor (T (e.1.2.2.2 / 2)).2.2.1 = some .int))
  | none => false
def gi_Mlb (e : (Nat × Nat × Nat) × Nat) : Bool := gi_at e.2 (.methodLink (gi_ow e.1.1) e.1.2.1 (gi_y e.1.2.2))
def gi_Mnb (e : Nat × Nat × Nat) : Bool := decide (Jvm.Cond.methodLinkNest (gi_ow e.1) e.2.1 (gi_y e.2.2) "GuardedInodes" ∈ gi_nest)
def gi_Clb (e : (Nat × Nat × Nat × Nat) × Nat) : Bool := match gi_cl[e.1.2.2.1]? with
  | some (C, _, N) => Nat.beq N e.1.2.2.2 && gi_at e.2 (.classLink (gi_ow e.1.1) e.1.2.1 C)
  | none => false
def gi_Alb (e : (Nat × Nat × Nat) × Nat) : Bool := match gi_ar[e.1.2.2]? with
  | some (.object C) => gi_at e.2 (.classLink (gi_ow e.1.1) e.1.2.1 C) && decide (C ∈ gi_ao) && Nat.blt 2 e.1.2.2
  | _ => false
def gi_Kib (e : (Nat × Nat × Nat × Nat) × Nat) : Bool := gi_at e.2 (.constant (gi_ow e.1.1) e.1.2.1 (Int32.ofInt (gi_z e.1.2.2.1 e.1.2.2.2)))
def gi_Kjb (e : (Nat × Nat × Nat × Nat) × Nat) : Bool := gi_at e.2 (.constantLong (gi_ow e.1.1) e.1.2.1 (Int64.ofInt (gi_z e.1.2.2.1 e.1.2.2.2)))
def gi_Obb (e : (Nat × Nat) × Nat) : Bool := gi_at e.2 (.methodLink (gi_ow e.1.1) e.1.2 objectInit)
def gi_Acb (e : (Nat × Nat) × Nat) : Bool := gi_at e.2 (.methodLink (gi_ow e.1.1) e.1.2 arraycopyName)
def gi_mhn (s : String) : Bool := decide (s ≠ "java/lang/invoke/MethodHandle") && decide (s ≠ "java/lang/invoke/VarHandle")
/-- a method that is called: its code, its class, its parameters -/
def gi_mb (e : Nat × Nat × Nat × Nat × Nat) : Bool := gi_at e.2.2.1 (.initialized (gi_y e.1).cls) && gi_mhn (gi_y e.1).cls && plainFor (gi_y e.1) && decide ((parseMethodDescriptor (gi_y e.1).desc).map (fun d => d.parameters.length) = some (gi_na e.1)) && decide (gi_ow (gi_oc e.1) = (gi_y e.1).cls)
def gi_ib (e : Nat × Nat × Nat × Nat × Nat) : Bool := gi_at e.2.2.2.1 (.instanceMethod (gi_y e.1)) && (match gi_cl[gi_mc e.1]? with
  | some (C, _, _) => decide (C = (gi_y e.1).cls)
  | none => false)
def gi_vb (e : Nat × Nat × Nat × Nat × Nat) : Bool := gi_mb e && gi_ib e && gi_at e.2.2.2.2 (.selects (gi_y e.1).cls (gi_y e.1) (gi_y e.1))
def gi_sb (e : Nat × Nat × Nat × Nat × Nat) : Bool := gi_mb e && gi_at e.2.2.2.1 (.static (gi_y e.1))
def gi_spb (e : Nat × Nat × Nat × Nat × Nat) : Bool := gi_mb e && gi_ib e && decide ((gi_y e.1).name = "<init>") && decide (gi_ret e.1 = none)
def gi_kb (e : Nat × Nat × Nat × List Nat) : Bool := match gi_cl[e.1]? with
  | some (C, T, N) => gi_at e.2.1 (.instantiable C N) && gi_at e.2.2.1 (.initialized C) && Nat.beq e.2.2.2.length N && (List.range N).all (fun k => gi_at (e.2.2.2.getD k 0) (u_lay C T k) && decide ((T k).1 = C)) && decide (∀ a, a < N → ∀ b, b < N → a ≠ b → (T a).2.1 ≠ (T b).2.1)
  | none => false
set_option maxRecDepth 100000 in
theorem gi_ok_F : gi_Fx.all gi_Fb = true := by decide +kernel
set_option maxRecDepth 100000 in
theorem gi_ok_Mn : gi_Mn.all gi_Mnb = true := by decide +kernel
set_option maxRecDepth 100000 in
theorem gi_ok_Cl : gi_Clx.all gi_Clb = true := by decide +kernel
set_option maxRecDepth 100000 in
theorem gi_ok_Al : gi_Alx.all gi_Alb = true := by decide +kernel
set_option maxRecDepth 100000 in
theorem gi_ok_Ki : gi_Kix.all gi_Kib = true := by decide +kernel
set_option maxRecDepth 100000 in
theorem gi_ok_Kj : gi_Kjx.all gi_Kjb = true := by decide +kernel
set_option maxRecDepth 100000 in
theorem gi_ok_Ob : gi_Obx.all gi_Obb = true := by decide +kernel
set_option maxRecDepth 100000 in
theorem gi_ok_Ac : gi_Acx.all gi_Acb = true := by decide +kernel
set_option maxRecDepth 100000 in
theorem gi_ok_cl : gi_kx.all gi_kb = true := by decide +kernel
set_option maxRecDepth 100000 in
theorem gi_ok_Ml : gi_Mlx.all gi_Mlb = true := by decide +kernel
set_option maxRecDepth 100000 in
theorem gi_ok_Ss : gi_Sx.all gi_sb = true := by decide +kernel
set_option maxRecDepth 100000 in
theorem gi_ok_Is : gi_Ix.all gi_spb = true := by decide +kernel
set_option maxRecDepth 100000 in
theorem gi_ok_Vs : gi_Vx.all gi_vb = true := by decide +kernel
theorem gi_x_F : gi_Fx.map (·.1) = gi_F := by decide +kernel
theorem gi_x_Ml : gi_Mlx.map (·.1) = gi_Ml := by decide +kernel
theorem gi_x_Cl : gi_Clx.map (·.1) = gi_Cl := by decide +kernel
theorem gi_x_Al : gi_Alx.map (·.1) = gi_Al := by decide +kernel
theorem gi_x_Ki : gi_Kix.map (·.1) = gi_Ki := by decide +kernel
theorem gi_x_Kj : gi_Kjx.map (·.1) = gi_Kj := by decide +kernel
theorem gi_x_Ob : gi_Obx.map (·.1) = gi_Ob := by decide +kernel
theorem gi_x_Ac : gi_Acx.map (·.1) = gi_Ac := by decide +kernel
theorem gi_x_Vs : gi_Vx.map (·.1) = gi_Vs := by decide +kernel
theorem gi_x_Ss : gi_Sx.map (·.1) = gi_Ss := by decide +kernel
theorem gi_x_Is : gi_Ix.map (·.1) = gi_Is := by decide +kernel
def gi_cd_ok (i : Nat) : Prop := Jvm.Cond.code (gi_y i) (gi_b i) (gi_nL i) (gi_ret i) ∈ gi_ws
theorem gi_cd_in {i j : Nat} {y : MethodName} {b : ByteArray} {n : Nat} {r : Option FieldType} (h1 : gi_y i = y) (h2 : gi_b i = b) (h3 : gi_nL i = n) (h4 : gi_ret i = r) (h : lw_tbl[j]? = some (Jvm.Cond.code y b n r)) : gi_cd_ok i := by
  subst h1; subst h2; subst h3; subst h4
  exact List.mem_filter.mpr ⟨List.mem_of_getElem? h, rfl⟩
set_option maxRecDepth 100000 in
theorem gi_cm1 : gi_cd_ok 1 := gi_cd_in (j := 55) (y := ⟨"GuardedInodes", "<init>", "()V"⟩) (b := prog_1_method_1_code) (n := 2) (r := (none)) rfl rfl rfl rfl rfl
set_option maxRecDepth 100000 in
theorem gi_cm2 : gi_cd_ok 2 := gi_cd_in (j := 65) (y := ⟨"GuardedInodes$Disk", "<init>", "()V"⟩) (b := prog_4_method_1_code) (n := 1) (r := (none)) rfl rfl rfl rfl rfl
set_option maxRecDepth 100000 in
theorem gi_cm3 : gi_cd_ok 3 := gi_cd_in (j := 78) (y := ⟨"GuardedInodes$Ledger", "<init>", "()V"⟩) (b := prog_6_method_1_code) (n := 2) (r := (none)) rfl rfl rfl rfl rfl
set_option maxRecDepth 100000 in
theorem gi_cm4 : gi_cd_ok 4 := gi_cd_in (j := 85) (y := ⟨"GuardedInodes$Quota", "<init>", "()V"⟩) (b := prog_7_method_1_code) (n := 1) (r := (none)) rfl rfl rfl rfl rfl
set_option maxRecDepth 100000 in
theorem gi_cm5 : gi_cd_ok 5 := gi_cd_in (j := 116) (y := ⟨"GuardedInodes$Inode", "<init>", "(IIIII)V"⟩) (b := prog_5_method_1_code) (n := 6) (r := (none)) rfl rfl rfl rfl rfl
set_option maxRecDepth 100000 in
theorem gi_cm6 : gi_cd_ok 6 := gi_cd_in (j := 122) (y := ⟨"java/util/Arrays", "fill", "([II)V"⟩) (b := prog_14_method_103_code) (n := 4) (r := (none)) rfl rfl rfl rfl rfl
set_option maxRecDepth 100000 in
theorem gi_cm7 : gi_cd_ok 7 := gi_cd_in (j := 195) (y := ⟨"GuardedInodes", "tick", "(I)I"⟩) (b := prog_1_method_2_code) (n := 2) (r := (some FieldType.int)) rfl rfl rfl rfl rfl
set_option maxRecDepth 100000 in
theorem gi_cm8 : gi_cd_ok 8 := gi_cd_in (j := 199) (y := ⟨"java/lang/Math", "min", "(II)I"⟩) (b := prog_12_method_69_code) (n := 2) (r := (some FieldType.int)) rfl rfl rfl rfl rfl
set_option maxRecDepth 100000 in
theorem gi_cm9 : gi_cd_ok 9 := gi_cd_in (j := 203) (y := ⟨"GuardedInodes", "first", "(II)I"⟩) (b := prog_1_method_3_code) (n := 4) (r := (some FieldType.int)) rfl rfl rfl rfl rfl
set_option maxRecDepth 100000 in
theorem gi_cm10 : gi_cd_ok 10 := gi_cd_in (j := 206) (y := ⟨"GuardedInodes", "isId", "(I)Z"⟩) (b := prog_1_method_26_code) (n := 1) (r := (some FieldType.boolean)) rfl rfl rfl rfl rfl
set_option maxRecDepth 100000 in
theorem gi_cm11 : gi_cd_ok 11 := gi_cd_in (j := 210) (y := ⟨"GuardedInodes", "member", "(IIZ)I"⟩) (b := prog_1_method_4_code) (n := 6) (r := (some FieldType.int)) rfl rfl rfl rfl rfl
set_option maxRecDepth 100000 in
theorem gi_cm12 : gi_cd_ok 12 := gi_cd_in (j := 214) (y := ⟨"GuardedInodes", "mask", "(II)I"⟩) (b := prog_1_method_5_code) (n := 4) (r := (some FieldType.int)) rfl rfl rfl rfl rfl
set_option maxRecDepth 100000 in
theorem gi_cm13 : gi_cd_ok 13 := gi_cd_in (j := 218) (y := ⟨"GuardedInodes", "create", "(IIII)I"⟩) (b := prog_1_method_6_code) (n := 9) (r := (some FieldType.int)) rfl rfl rfl rfl rfl
set_option maxRecDepth 100000 in
theorem gi_cm14 : gi_cd_ok 14 := gi_cd_in (j := 222) (y := ⟨"GuardedInodes", "inodeAt", "(I)LGuardedInodes$Inode;"⟩) (b := prog_1_method_37_code) (n := 2) (r := (some (FieldType.object "GuardedInodes$Inode"))) rfl rfl rfl rfl rfl
set_option maxRecDepth 100000 in
theorem gi_cm15 : gi_cd_ok 15 := gi_cd_in (j := 225) (y := ⟨"GuardedInodes", "isModeOf", "(III)Z"⟩) (b := prog_1_method_32_code) (n := 3) (r := (some FieldType.boolean)) rfl rfl rfl rfl rfl
set_option maxRecDepth 100000 in
theorem gi_cm16 : gi_cd_ok 16 := gi_cd_in (j := 229) (y := ⟨"GuardedInodes", "allows", "(LGuardedInodes$Inode;II)Z"⟩) (b := prog_1_method_43_code) (n := 4) (r := (some FieldType.boolean)) rfl rfl rfl rfl rfl
set_option maxRecDepth 100000 in
theorem gi_cm17 : gi_cd_ok 17 := gi_cd_in (j := 233) (y := ⟨"GuardedInodes$Inode", "hasSomeExecute", "()Z"⟩) (b := prog_5_method_5_code) (n := 1) (r := (some FieldType.boolean)) rfl rfl rfl rfl rfl
set_option maxRecDepth 100000 in
theorem gi_cm18 : gi_cd_ok 18 := gi_cd_in (j := 237) (y := ⟨"GuardedInodes$Rights", "allBits", "()I"⟩) (b := prog_8_method_5_code) (n := 3) (r := (some FieldType.int)) rfl rfl rfl rfl rfl
set_option maxRecDepth 100000 in
theorem gi_cm19 : gi_cd_ok 19 := gi_cd_in (j := 240) (y := ⟨"GuardedInodes", "bitsOfOwner", "(I)I"⟩) (b := prog_1_method_33_code) (n := 1) (r := (some FieldType.int)) rfl rfl rfl rfl rfl
set_option maxRecDepth 100000 in
theorem gi_cm20 : gi_cd_ok 20 := gi_cd_in (j := 243) (y := ⟨"GuardedInodes", "hasAll", "(II)Z"⟩) (b := prog_1_method_36_code) (n := 2) (r := (some FieldType.boolean)) rfl rfl rfl rfl rfl
set_option maxRecDepth 100000 in
theorem gi_cm21 : gi_cd_ok 21 := gi_cd_in (j := 247) (y := ⟨"GuardedInodes", "isIn", "(II)Z"⟩) (b := prog_1_method_41_code) (n := 3) (r := (some FieldType.boolean)) rfl rfl rfl rfl rfl
set_option maxRecDepth 100000 in
theorem gi_cm22 : gi_cd_ok 22 := gi_cd_in (j := 250) (y := ⟨"GuardedInodes", "bitsOfGroup", "(I)I"⟩) (b := prog_1_method_34_code) (n := 1) (r := (some FieldType.int)) rfl rfl rfl rfl rfl
set_option maxRecDepth 100000 in
theorem gi_cm23 : gi_cd_ok 23 := gi_cd_in (j := 253) (y := ⟨"GuardedInodes", "bitsOfOthers", "(I)I"⟩) (b := prog_1_method_35_code) (n := 1) (r := (some FieldType.int)) rfl rfl rfl rfl rfl
set_option maxRecDepth 100000 in
theorem gi_cm24 : gi_cd_ok 24 := gi_cd_in (j := 257) (y := ⟨"GuardedInodes", "allowsByList", "(LGuardedInodes$Inode;LGuardedInodes$Rights;II)Z"⟩) (b := prog_1_method_44_code) (n := 11) (r := (some FieldType.boolean)) rfl rfl rfl rfl rfl
set_option maxRecDepth 100000 in
theorem gi_cm25 : gi_cd_ok 25 := gi_cd_in (j := 261) (y := ⟨"GuardedInodes$Rights", "bitsOf", "(II)I"⟩) (b := prog_8_method_3_code) (n := 3) (r := (some FieldType.int)) rfl rfl rfl rfl rfl
set_option maxRecDepth 100000 in
theorem gi_cm26 : gi_cd_ok 26 := gi_cd_in (j := 265) (y := ⟨"GuardedInodes", "freeInode", "()I"⟩) (b := prog_1_method_38_code) (n := 2) (r := (some FieldType.int)) rfl rfl rfl rfl rfl
set_option maxRecDepth 100000 in
theorem gi_cm27 : gi_cd_ok 27 := gi_cd_in (j := 269) (y := ⟨"GuardedInodes", "refusesCharge", "(IILGuardedInodes$Inode;II)Z"⟩) (b := prog_1_method_46_code) (n := 6) (r := (some FieldType.boolean)) rfl rfl rfl rfl rfl
set_option maxRecDepth 100000 in
theorem gi_cm28 : gi_cd_ok 28 := gi_cd_in (j := 273) (y := ⟨"GuardedInodes$Ledger", "refuses", "(IIII)Z"⟩) (b := prog_6_method_3_code) (n := 5) (r := (some FieldType.boolean)) rfl rfl rfl rfl rfl
set_option maxRecDepth 100000 in
theorem gi_cm29 : gi_cd_ok 29 := gi_cd_in (j := 277) (y := ⟨"GuardedInodes$Ledger", "quotaOf", "(III)LGuardedInodes$Quota;"⟩) (b := prog_6_method_2_code) (n := 4) (r := (some (FieldType.object "GuardedInodes$Quota"))) rfl rfl rfl rfl rfl
set_option maxRecDepth 100000 in
theorem gi_cm30 : gi_cd_ok 30 := gi_cd_in (j := 281) (y := ⟨"GuardedInodes$Ledger", "graceOf", "(II)I"⟩) (b := prog_6_method_9_code) (n := 3) (r := (some FieldType.int)) rfl rfl rfl rfl rfl
set_option maxRecDepth 100000 in
theorem gi_cm31 : gi_cd_ok 31 := gi_cd_in (j := 285) (y := ⟨"GuardedInodes$Quota", "refuses", "(III)Z"⟩) (b := prog_7_method_2_code) (n := 6) (r := (some FieldType.boolean)) rfl rfl rfl rfl rfl
set_option maxRecDepth 100000 in
theorem gi_cm32 : gi_cd_ok 32 := gi_cd_in (j := 289) (y := ⟨"GuardedInodes$Quota", "isOver", "(I)Z"⟩) (b := prog_7_method_5_code) (n := 2) (r := (some FieldType.boolean)) rfl rfl rfl rfl rfl
set_option maxRecDepth 100000 in
theorem gi_cm33 : gi_cd_ok 33 := gi_cd_in (j := 293) (y := ⟨"GuardedInodes$Inode", "inherit", "(LGuardedInodes$Inode;II)V"⟩) (b := prog_5_method_2_code) (n := 7) (r := (none)) rfl rfl rfl rfl rfl
set_option maxRecDepth 100000 in
theorem gi_cm34 : gi_cd_ok 34 := gi_cd_in (j := 297) (y := ⟨"GuardedInodes$Rights", "nineBits", "()I"⟩) (b := prog_8_method_6_code) (n := 1) (r := (some FieldType.int)) rfl rfl rfl rfl rfl
set_option maxRecDepth 100000 in
theorem gi_cm35 : gi_cd_ok 35 := gi_cd_in (j := 302) (y := ⟨"GuardedInodes$Rights", "copy", "()LGuardedInodes$Rights;"⟩) (b := prog_8_method_2_code) (n := 2) (r := (some (FieldType.object "GuardedInodes$Rights"))) rfl rfl rfl rfl rfl
set_option maxRecDepth 100000 in
theorem gi_cm36 : gi_cd_ok 36 := gi_cd_in (j := 307) (y := ⟨"GuardedInodes$Rights", "<init>", "(III)V"⟩) (b := prog_8_method_1_code) (n := 4) (r := (none)) rfl rfl rfl rfl rfl
set_option maxRecDepth 100000 in
theorem gi_cm37 : gi_cd_ok 37 := gi_cd_in (j := 337) (y := ⟨"GuardedInodes", "charge", "(ILGuardedInodes$Inode;II)V"⟩) (b := prog_1_method_47_code) (n := 5) (r := (none)) rfl rfl rfl rfl rfl
set_option maxRecDepth 100000 in
theorem gi_cm38 : gi_cd_ok 38 := gi_cd_in (j := 341) (y := ⟨"GuardedInodes$Ledger", "add", "(IIII)V"⟩) (b := prog_6_method_4_code) (n := 5) (r := (none)) rfl rfl rfl rfl rfl
set_option maxRecDepth 100000 in
theorem gi_cm39 : gi_cd_ok 39 := gi_cd_in (j := 345) (y := ⟨"GuardedInodes$Quota", "add", "(III)V"⟩) (b := prog_7_method_3_code) (n := 4) (r := (none)) rfl rfl rfl rfl rfl
set_option maxRecDepth 100000 in
theorem gi_cm40 : gi_cd_ok 40 := gi_cd_in (j := 349) (y := ⟨"GuardedInodes$Quota", "settleTime", "(II)V"⟩) (b := prog_7_method_6_code) (n := 3) (r := (none)) rfl rfl rfl rfl rfl
set_option maxRecDepth 100000 in
theorem gi_cm41 : gi_cd_ok 41 := gi_cd_in (j := 353) (y := ⟨"GuardedInodes", "remove", "(II)I"⟩) (b := prog_1_method_7_code) (n := 6) (r := (some FieldType.int)) rfl rfl rfl rfl rfl
set_option maxRecDepth 100000 in
theorem gi_cm42 : gi_cd_ok 42 := gi_cd_in (j := 356) (y := ⟨"GuardedInodes", "commands", "(ILGuardedInodes$Inode;)Z"⟩) (b := prog_1_method_42_code) (n := 2) (r := (some FieldType.boolean)) rfl rfl rfl rfl rfl
set_option maxRecDepth 100000 in
theorem gi_cm43 : gi_cd_ok 43 := gi_cd_in (j := 360) (y := ⟨"GuardedInodes", "countIn", "(I)I"⟩) (b := prog_1_method_40_code) (n := 5) (r := (some FieldType.int)) rfl rfl rfl rfl rfl
set_option maxRecDepth 100000 in
theorem gi_cm44 : gi_cd_ok 44 := gi_cd_in (j := 364) (y := ⟨"GuardedInodes$Inode", "blocks", "()I"⟩) (b := prog_5_method_6_code) (n := 3) (r := (some FieldType.int)) rfl rfl rfl rfl rfl
set_option maxRecDepth 100000 in
theorem gi_cm45 : gi_cd_ok 45 := gi_cd_in (j := 368) (y := ⟨"GuardedInodes$Disk", "release", "(I)V"⟩) (b := prog_4_method_4_code) (n := 2) (r := (none)) rfl rfl rfl rfl rfl
set_option maxRecDepth 100000 in
theorem gi_cm46 : gi_cd_ok 46 := gi_cd_in (j := 372) (y := ⟨"GuardedInodes", "write", "(IIIIJ)I"⟩) (b := prog_1_method_8_code) (n := 10) (r := (some FieldType.int)) rfl rfl rfl rfl rfl
set_option maxRecDepth 100000 in
theorem gi_cm47 : gi_cd_ok 47 := gi_cd_in (j := 375) (y := ⟨"GuardedInodes", "isFile", "(LGuardedInodes$Inode;)Z"⟩) (b := prog_1_method_30_code) (n := 1) (r := (some FieldType.boolean)) rfl rfl rfl rfl rfl
set_option maxRecDepth 100000 in
theorem gi_cm48 : gi_cd_ok 48 := gi_cd_in (j := 378) (y := ⟨"GuardedInodes", "isSpan", "(II)Z"⟩) (b := prog_1_method_31_code) (n := 2) (r := (some FieldType.boolean)) rfl rfl rfl rfl rfl
set_option maxRecDepth 100000 in
theorem gi_cm49 : gi_cd_ok 49 := gi_cd_in (j := 382) (y := ⟨"GuardedInodes$Inode", "holesIn", "(II)I"⟩) (b := prog_5_method_7_code) (n := 5) (r := (some FieldType.int)) rfl rfl rfl rfl rfl
set_option maxRecDepth 100000 in
theorem gi_cm50 : gi_cd_ok 50 := gi_cd_in (j := 386) (y := ⟨"GuardedInodes$Disk", "unused", "()I"⟩) (b := prog_4_method_2_code) (n := 3) (r := (some FieldType.int)) rfl rfl rfl rfl rfl
set_option maxRecDepth 100000 in
theorem gi_cm51 : gi_cd_ok 51 := gi_cd_in (j := 390) (y := ⟨"GuardedInodes", "writeByte", "(LGuardedInodes$Inode;II)V"⟩) (b := prog_1_method_48_code) (n := 5) (r := (none)) rfl rfl rfl rfl rfl
set_option maxRecDepth 100000 in
theorem gi_cm52 : gi_cd_ok 52 := gi_cd_in (j := 394) (y := ⟨"GuardedInodes$Disk", "claim", "()I"⟩) (b := prog_4_method_3_code) (n := 2) (r := (some FieldType.int)) rfl rfl rfl rfl rfl
set_option maxRecDepth 100000 in
theorem gi_cm53 : gi_cd_ok 53 := gi_cd_in (j := 398) (y := ⟨"GuardedInodes$Block", "<init>", "()V"⟩) (b := prog_3_method_1_code) (n := 1) (r := (none)) rfl rfl rfl rfl rfl
set_option maxRecDepth 100000 in
theorem gi_cm54 : gi_cd_ok 54 := gi_cd_in (j := 408) (y := ⟨"GuardedInodes$Disk", "setByte", "(III)V"⟩) (b := prog_4_method_6_code) (n := 5) (r := (none)) rfl rfl rfl rfl rfl
set_option maxRecDepth 100000 in
theorem gi_cm55 : gi_cd_ok 55 := gi_cd_in (j := 412) (y := ⟨"GuardedInodes$Disk", "blockAt", "(I)LGuardedInodes$Block;"⟩) (b := prog_4_method_7_code) (n := 2) (r := (some (FieldType.object "GuardedInodes$Block"))) rfl rfl rfl rfl rfl
set_option maxRecDepth 100000 in
theorem gi_cm56 : gi_cd_ok 56 := gi_cd_in (j := 415) (y := ⟨"java/lang/Math", "max", "(II)I"⟩) (b := prog_12_method_65_code) (n := 2) (r := (some FieldType.int)) rfl rfl rfl rfl rfl
set_option maxRecDepth 100000 in
theorem gi_cm57 : gi_cd_ok 57 := gi_cd_in (j := 419) (y := ⟨"GuardedInodes", "read", "(IIII)J"⟩) (b := prog_1_method_9_code) (n := 9) (r := (some FieldType.long)) rfl rfl rfl rfl rfl
set_option maxRecDepth 100000 in
theorem gi_cm58 : gi_cd_ok 58 := gi_cd_in (j := 425) (y := ⟨"GuardedInodes$Disk", "byteAt", "(II)I"⟩) (b := prog_4_method_5_code) (n := 4) (r := (some FieldType.int)) rfl rfl rfl rfl rfl
set_option maxRecDepth 100000 in
theorem gi_cm59 : gi_cd_ok 59 := gi_cd_in (j := 429) (y := ⟨"GuardedInodes", "resize", "(III)I"⟩) (b := prog_1_method_10_code) (n := 6) (r := (some FieldType.int)) rfl rfl rfl rfl rfl
set_option maxRecDepth 100000 in
theorem gi_cm60 : gi_cd_ok 60 := gi_cd_in (j := 433) (y := ⟨"GuardedInodes", "cut", "(ILGuardedInodes$Inode;I)V"⟩) (b := prog_1_method_49_code) (n := 7) (r := (none)) rfl rfl rfl rfl rfl
set_option maxRecDepth 100000 in
theorem gi_cm61 : gi_cd_ok 61 := gi_cd_in (j := 437) (y := ⟨"GuardedInodes", "chmod", "(III)I"⟩) (b := prog_1_method_11_code) (n := 6) (r := (some FieldType.int)) rfl rfl rfl rfl rfl
set_option maxRecDepth 100000 in
theorem gi_cm62 : gi_cd_ok 62 := gi_cd_in (j := 441) (y := ⟨"GuardedInodes", "chown", "(IIII)I"⟩) (b := prog_1_method_12_code) (n := 9) (r := (some FieldType.int)) rfl rfl rfl rfl rfl
set_option maxRecDepth 100000 in
theorem gi_cm63 : gi_cd_ok 63 := gi_cd_in (j := 445) (y := ⟨"GuardedInodes$Ledger", "refusesMove", "(IIII)Z"⟩) (b := prog_6_method_5_code) (n := 5) (r := (some FieldType.boolean)) rfl rfl rfl rfl rfl
set_option maxRecDepth 100000 in
theorem gi_cm64 : gi_cd_ok 64 := gi_cd_in (j := 450) (y := ⟨"GuardedInodes$Ledger", "move", "(IIII)V"⟩) (b := prog_6_method_6_code) (n := 5) (r := (none)) rfl rfl rfl rfl rfl
set_option maxRecDepth 100000 in
theorem gi_cm65 : gi_cd_ok 65 := gi_cd_in (j := 455) (y := ⟨"GuardedInodes", "acl", "(IIZIII)I"⟩) (b := prog_1_method_13_code) (n := 10) (r := (some FieldType.int)) rfl rfl rfl rfl rfl
set_option maxRecDepth 100000 in
theorem gi_cm66 : gi_cd_ok 66 := gi_cd_in (j := 458) (y := ⟨"GuardedInodes", "isZeroOrOne", "(I)Z"⟩) (b := prog_1_method_27_code) (n := 1) (r := (some FieldType.boolean)) rfl rfl rfl rfl rfl
set_option maxRecDepth 100000 in
theorem gi_cm67 : gi_cd_ok 67 := gi_cd_in (j := 462) (y := ⟨"GuardedInodes$Inode", "rights", "(Z)LGuardedInodes$Rights;"⟩) (b := prog_5_method_3_code) (n := 2) (r := (some (FieldType.object "GuardedInodes$Rights"))) rfl rfl rfl rfl rfl
set_option maxRecDepth 100000 in
theorem gi_cm68 : gi_cd_ok 68 := gi_cd_in (j := 466) (y := ⟨"GuardedInodes$Inode", "tell", "(ZIII)I"⟩) (b := prog_5_method_4_code) (n := 7) (r := (some FieldType.int)) rfl rfl rfl rfl rfl
set_option maxRecDepth 100000 in
theorem gi_cm69 : gi_cd_ok 69 := gi_cd_in (j := 476) (y := ⟨"GuardedInodes$Rights", "tell", "(III)V"⟩) (b := prog_8_method_4_code) (n := 5) (r := (none)) rfl rfl rfl rfl rfl
set_option maxRecDepth 100000 in
theorem gi_cm70 : gi_cd_ok 70 := gi_cd_in (j := 480) (y := ⟨"GuardedInodes", "list", "(IZI)I"⟩) (b := prog_1_method_14_code) (n := 6) (r := (some FieldType.int)) rfl rfl rfl rfl rfl
set_option maxRecDepth 100000 in
theorem gi_cm71 : gi_cd_ok 71 := gi_cd_in (j := 485) (y := ⟨"GuardedInodes$Rights", "ofEntry", "(II)I"⟩) (b := prog_8_method_7_code) (n := 5) (r := (some FieldType.int)) rfl rfl rfl rfl rfl
set_option maxRecDepth 100000 in
theorem gi_cm72 : gi_cd_ok 72 := gi_cd_in (j := 489) (y := ⟨"GuardedInodes", "may", "(III)I"⟩) (b := prog_1_method_15_code) (n := 5) (r := (some FieldType.int)) rfl rfl rfl rfl rfl
set_option maxRecDepth 100000 in
theorem gi_cm73 : gi_cd_ok 73 := gi_cd_in (j := 493) (y := ⟨"GuardedInodes", "feed", "(I)I"⟩) (b := prog_1_method_16_code) (n := 2) (r := (some FieldType.int)) rfl rfl rfl rfl rfl
set_option maxRecDepth 100000 in
theorem gi_cm74 : gi_cd_ok 74 := gi_cd_in (j := 497) (y := ⟨"GuardedInodes", "put", "(III)I"⟩) (b := prog_1_method_17_code) (n := 9) (r := (some FieldType.int)) rfl rfl rfl rfl rfl
set_option maxRecDepth 100000 in
theorem gi_cm75 : gi_cd_ok 75 := gi_cd_in (j := 500) (y := ⟨"GuardedInodes", "isAttribute", "(I)Z"⟩) (b := prog_1_method_28_code) (n := 1) (r := (some FieldType.boolean)) rfl rfl rfl rfl rfl
set_option maxRecDepth 100000 in
theorem gi_cm76 : gi_cd_ok 76 := gi_cd_in (j := 504) (y := ⟨"GuardedInodes", "allowsAttribute", "(LGuardedInodes$Inode;III)Z"⟩) (b := prog_1_method_45_code) (n := 5) (r := (some FieldType.boolean)) rfl rfl rfl rfl rfl
set_option maxRecDepth 100000 in
theorem gi_cm77 : gi_cd_ok 77 := gi_cd_in (j := 509) (y := ⟨"GuardedInodes$Attribute", "<init>", "([BI)V"⟩) (b := prog_2_method_1_code) (n := 3) (r := (none)) rfl rfl rfl rfl rfl
set_option maxRecDepth 100000 in
theorem gi_cm78 : gi_cd_ok 78 := gi_cd_in (j := 513) (y := ⟨"java/util/Arrays", "copyOf", "([BI)[B"⟩) (b := prog_14_method_121_code) (n := 3) (r := (some (FieldType.array FieldType.byte))) rfl rfl rfl rfl rfl
set_option maxRecDepth 100000 in
theorem gi_cm79 : gi_cd_ok 79 := gi_cd_in (j := 530) (y := ⟨"GuardedInodes$Inode", "besideWith", "(ILGuardedInodes$Attribute;)J"⟩) (b := prog_5_method_8_code) (n := 10) (r := (some FieldType.long)) rfl rfl rfl rfl rfl
set_option maxRecDepth 100000 in
theorem gi_cm80 : gi_cd_ok 80 := gi_cd_in (j := 534) (y := ⟨"GuardedInodes$Attribute", "length", "()I"⟩) (b := prog_2_method_2_code) (n := 1) (r := (some FieldType.int)) rfl rfl rfl rfl rfl
set_option maxRecDepth 100000 in
theorem gi_cm81 : gi_cd_ok 81 := gi_cd_in (j := 540) (y := ⟨"GuardedInodes", "settleSideBlock", "(ILGuardedInodes$Inode;Z)V"⟩) (b := prog_1_method_50_code) (n := 4) (r := (none)) rfl rfl rfl rfl rfl
set_option maxRecDepth 100000 in
theorem gi_cm82 : gi_cd_ok 82 := gi_cd_in (j := 545) (y := ⟨"GuardedInodes", "take", "(III)I"⟩) (b := prog_1_method_18_code) (n := 8) (r := (some FieldType.int)) rfl rfl rfl rfl rfl
set_option maxRecDepth 100000 in
theorem gi_cm83 : gi_cd_ok 83 := gi_cd_in (j := 549) (y := ⟨"GuardedInodes", "attribute", "(IIII)I"⟩) (b := prog_1_method_19_code) (n := 7) (r := (some FieldType.int)) rfl rfl rfl rfl rfl
set_option maxRecDepth 100000 in
theorem gi_cm84 : gi_cd_ok 84 := gi_cd_in (j := 553) (y := ⟨"GuardedInodes$Attribute", "byteAt", "(I)I"⟩) (b := prog_2_method_3_code) (n := 2) (r := (some FieldType.int)) rfl rfl rfl rfl rfl
set_option maxRecDepth 100000 in
theorem gi_cm85 : gi_cd_ok 85 := gi_cd_in (j := 557) (y := ⟨"GuardedInodes", "side", "(II)I"⟩) (b := prog_1_method_20_code) (n := 5) (r := (some FieldType.int)) rfl rfl rfl rfl rfl
set_option maxRecDepth 100000 in
theorem gi_cm86 : gi_cd_ok 86 := gi_cd_in (j := 561) (y := ⟨"GuardedInodes", "limit", "(IIIII)I"⟩) (b := prog_1_method_21_code) (n := 6) (r := (some FieldType.int)) rfl rfl rfl rfl rfl
set_option maxRecDepth 100000 in
theorem gi_cm87 : gi_cd_ok 87 := gi_cd_in (j := 564) (y := ⟨"GuardedInodes", "isLimit", "(I)Z"⟩) (b := prog_1_method_29_code) (n := 1) (r := (some FieldType.boolean)) rfl rfl rfl rfl rfl
set_option maxRecDepth 100000 in
theorem gi_cm88 : gi_cd_ok 88 := gi_cd_in (j := 568) (y := ⟨"GuardedInodes$Ledger", "tellLimits", "(IIIII)V"⟩) (b := prog_6_method_7_code) (n := 6) (r := (none)) rfl rfl rfl rfl rfl
set_option maxRecDepth 100000 in
theorem gi_cm89 : gi_cd_ok 89 := gi_cd_in (j := 572) (y := ⟨"GuardedInodes$Quota", "tell", "(IIII)V"⟩) (b := prog_7_method_4_code) (n := 5) (r := (none)) rfl rfl rfl rfl rfl
set_option maxRecDepth 100000 in
theorem gi_cm90 : gi_cd_ok 90 := gi_cd_in (j := 576) (y := ⟨"GuardedInodes", "grace", "(III)I"⟩) (b := prog_1_method_22_code) (n := 4) (r := (some FieldType.int)) rfl rfl rfl rfl rfl
set_option maxRecDepth 100000 in
theorem gi_cm91 : gi_cd_ok 91 := gi_cd_in (j := 581) (y := ⟨"GuardedInodes$Ledger", "tellGrace", "(III)I"⟩) (b := prog_6_method_8_code) (n := 5) (r := (some FieldType.int)) rfl rfl rfl rfl rfl
set_option maxRecDepth 100000 in
theorem gi_cm92 : gi_cd_ok 92 := gi_cd_in (j := 585) (y := ⟨"GuardedInodes", "charged", "(III)I"⟩) (b := prog_1_method_23_code) (n := 5) (r := (some FieldType.int)) rfl rfl rfl rfl rfl
set_option maxRecDepth 100000 in
theorem gi_cm93 : gi_cd_ok 93 := gi_cd_in (j := 590) (y := ⟨"GuardedInodes", "inode", "(II)I"⟩) (b := prog_1_method_24_code) (n := 4) (r := (some FieldType.int)) rfl rfl rfl rfl rfl
set_option maxRecDepth 100000 in
theorem gi_cm94 : gi_cd_ok 94 := gi_cd_in (j := 594) (y := ⟨"GuardedInodes", "count", "(I)I"⟩) (b := prog_1_method_25_code) (n := 2) (r := (some FieldType.int)) rfl rfl rfl rfl rfl
set_option maxRecDepth 100000 in
theorem gi_cm95 : gi_cd_ok 95 := gi_cd_in (j := 598) (y := ⟨"GuardedInodes", "unusedInodes", "()I"⟩) (b := prog_1_method_39_code) (n := 3) (r := (some FieldType.int)) rfl rfl rfl rfl rfl
set_option maxRecDepth 100000 in
theorem gi_cm96 : gi_cd_ok 96 := gi_cd_in (j := 603) (y := ⟨"GuardedInodesModel", "<init>", "()V"⟩) (b := prog_10_method_1_code) (n := 2) (r := (none)) rfl rfl rfl rfl rfl
set_option maxRecDepth 100000 in
theorem gi_cm97 : gi_cd_ok 97 := gi_cd_in (j := 707) (y := ⟨"GuardedInodesModel", "tick", "(I)I"⟩) (b := prog_10_method_5_code) (n := 2) (r := (some FieldType.int)) rfl rfl rfl rfl rfl
set_option maxRecDepth 100000 in
theorem gi_cm98 : gi_cd_ok 98 := gi_cd_in (j := 710) (y := ⟨"GuardedInodesModel", "isIn", "(III)Z"⟩) (b := prog_10_method_2_code) (n := 3) (r := (some FieldType.boolean)) rfl rfl rfl rfl rfl
set_option maxRecDepth 100000 in
theorem gi_cm99 : gi_cd_ok 99 := gi_cd_in (j := 716) (y := ⟨"GuardedInodesModel", "first", "(II)I"⟩) (b := prog_10_method_6_code) (n := 4) (r := (some FieldType.int)) rfl rfl rfl rfl rfl
set_option maxRecDepth 100000 in
theorem gi_cm100 : gi_cd_ok 100 := gi_cd_in (j := 719) (y := ⟨"GuardedInodesModel", "isWho", "(I)Z"⟩) (b := prog_10_method_3_code) (n := 1) (r := (some FieldType.boolean)) rfl rfl rfl rfl rfl
set_option maxRecDepth 100000 in
theorem gi_cm101 : gi_cd_ok 101 := gi_cd_in (j := 723) (y := ⟨"GuardedInodesModel", "member", "(IIZ)I"⟩) (b := prog_10_method_7_code) (n := 5) (r := (some FieldType.int)) rfl rfl rfl rfl rfl
set_option maxRecDepth 100000 in
theorem gi_cm102 : gi_cd_ok 102 := gi_cd_in (j := 727) (y := ⟨"GuardedInodesModel", "mask", "(II)I"⟩) (b := prog_10_method_8_code) (n := 4) (r := (some FieldType.int)) rfl rfl rfl rfl rfl
set_option maxRecDepth 100000 in
theorem gi_cm103 : gi_cd_ok 103 := gi_cd_in (j := 731) (y := ⟨"GuardedInodesModel", "create", "(IIII)I"⟩) (b := prog_10_method_23_code) (n := 11) (r := (some FieldType.int)) rfl rfl rfl rfl rfl
set_option maxRecDepth 100000 in
theorem gi_cm104 : gi_cd_ok 104 := gi_cd_in (j := 735) (y := ⟨"GuardedInodesModel", "has", "(I)Z"⟩) (b := prog_10_method_4_code) (n := 2) (r := (some FieldType.boolean)) rfl rfl rfl rfl rfl
set_option maxRecDepth 100000 in
theorem gi_cm105 : gi_cd_ok 105 := gi_cd_in (j := 739) (y := ⟨"GuardedInodesModel", "mayDo", "(III)Z"⟩) (b := prog_10_method_10_code) (n := 12) (r := (some FieldType.boolean)) rfl rfl rfl rfl rfl
set_option maxRecDepth 100000 in
theorem gi_cm106 : gi_cd_ok 106 := gi_cd_in (j := 743) (y := ⟨"GuardedInodesModel", "isInGroup", "(II)Z"⟩) (b := prog_10_method_9_code) (n := 3) (r := (some FieldType.boolean)) rfl rfl rfl rfl rfl
set_option maxRecDepth 100000 in
theorem gi_cm107 : gi_cd_ok 107 := gi_cd_in (j := 747) (y := ⟨"GuardedInodesModel", "startTrial", "()V"⟩) (b := prog_10_method_12_code) (n := 2) (r := (none)) rfl rfl rfl rfl rfl
set_option maxRecDepth 100000 in
theorem gi_cm108 : gi_cd_ok 108 := gi_cd_in (j := 751) (y := ⟨"GuardedInodesModel", "chargeBoth", "(II)Z"⟩) (b := prog_10_method_16_code) (n := 4) (r := (some FieldType.boolean)) rfl rfl rfl rfl rfl
set_option maxRecDepth 100000 in
theorem gi_cm109 : gi_cd_ok 109 := gi_cd_in (j := 755) (y := ⟨"GuardedInodesModel", "charge", "(III)Z"⟩) (b := prog_10_method_14_code) (n := 7) (r := (some FieldType.boolean)) rfl rfl rfl rfl rfl
set_option maxRecDepth 100000 in
theorem gi_cm110 : gi_cd_ok 110 := gi_cd_in (j := 758) (y := ⟨"GuardedInodesModel", "place", "(III)I"⟩) (b := prog_10_method_11_code) (n := 3) (r := (some FieldType.int)) rfl rfl rfl rfl rfl
set_option maxRecDepth 100000 in
theorem gi_cm111 : gi_cd_ok 111 := gi_cd_in (j := 762) (y := ⟨"GuardedInodesModel", "keepTrial", "()V"⟩) (b := prog_10_method_13_code) (n := 2) (r := (none)) rfl rfl rfl rfl rfl
set_option maxRecDepth 100000 in
theorem gi_cm112 : gi_cd_ok 112 := gi_cd_in (j := 766) (y := ⟨"GuardedInodesModel", "clearList", "(I)V"⟩) (b := prog_10_method_22_code) (n := 3) (r := (none)) rfl rfl rfl rfl rfl
set_option maxRecDepth 100000 in
theorem gi_cm113 : gi_cd_ok 113 := gi_cd_in (j := 770) (y := ⟨"GuardedInodesModel", "copyList", "(II)V"⟩) (b := prog_10_method_21_code) (n := 4) (r := (none)) rfl rfl rfl rfl rfl
set_option maxRecDepth 100000 in
theorem gi_cm114 : gi_cd_ok 114 := gi_cd_in (j := 774) (y := ⟨"GuardedInodesModel", "remove", "(II)I"⟩) (b := prog_10_method_25_code) (n := 5) (r := (some FieldType.int)) rfl rfl rfl rfl rfl
set_option maxRecDepth 100000 in
theorem gi_cm115 : gi_cd_ok 115 := gi_cd_in (j := 778) (y := ⟨"GuardedInodesModel", "lieIn", "(I)I"⟩) (b := prog_10_method_24_code) (n := 4) (r := (some FieldType.int)) rfl rfl rfl rfl rfl
set_option maxRecDepth 100000 in
theorem gi_cm116 : gi_cd_ok 116 := gi_cd_in (j := 782) (y := ⟨"GuardedInodesModel", "dischargeBoth", "(II)V"⟩) (b := prog_10_method_17_code) (n := 3) (r := (none)) rfl rfl rfl rfl rfl
set_option maxRecDepth 100000 in
theorem gi_cm117 : gi_cd_ok 117 := gi_cd_in (j := 786) (y := ⟨"GuardedInodesModel", "discharge", "(III)V"⟩) (b := prog_10_method_15_code) (n := 5) (r := (none)) rfl rfl rfl rfl rfl
set_option maxRecDepth 100000 in
theorem gi_cm118 : gi_cd_ok 118 := gi_cd_in (j := 790) (y := ⟨"GuardedInodesModel", "dropPart", "(II)V"⟩) (b := prog_10_method_26_code) (n := 4) (r := (none)) rfl rfl rfl rfl rfl
set_option maxRecDepth 100000 in
theorem gi_cm119 : gi_cd_ok 119 := gi_cd_in (j := 794) (y := ⟨"GuardedInodesModel", "write", "(IIIIJ)I"⟩) (b := prog_10_method_27_code) (n := 13) (r := (some FieldType.int)) rfl rfl rfl rfl rfl
set_option maxRecDepth 100000 in
theorem gi_cm120 : gi_cd_ok 120 := gi_cd_in (j := 798) (y := ⟨"GuardedInodesModel", "freeBlocks", "()I"⟩) (b := prog_10_method_18_code) (n := 3) (r := (some FieldType.int)) rfl rfl rfl rfl rfl
set_option maxRecDepth 100000 in
theorem gi_cm121 : gi_cd_ok 121 := gi_cd_in (j := 802) (y := ⟨"GuardedInodesModel", "newBlock", "()I"⟩) (b := prog_10_method_19_code) (n := 3) (r := (some FieldType.int)) rfl rfl rfl rfl rfl
set_option maxRecDepth 100000 in
theorem gi_cm122 : gi_cd_ok 122 := gi_cd_in (j := 807) (y := ⟨"GuardedInodesModel", "read", "(IIII)J"⟩) (b := prog_10_method_28_code) (n := 11) (r := (some FieldType.long)) rfl rfl rfl rfl rfl
set_option maxRecDepth 100000 in
theorem gi_cm123 : gi_cd_ok 123 := gi_cd_in (j := 813) (y := ⟨"GuardedInodesModel", "resize", "(III)I"⟩) (b := prog_10_method_29_code) (n := 7) (r := (some FieldType.int)) rfl rfl rfl rfl rfl
set_option maxRecDepth 100000 in
theorem gi_cm124 : gi_cd_ok 124 := gi_cd_in (j := 817) (y := ⟨"GuardedInodesModel", "chmod", "(III)I"⟩) (b := prog_10_method_30_code) (n := 5) (r := (some FieldType.int)) rfl rfl rfl rfl rfl
set_option maxRecDepth 100000 in
theorem gi_cm125 : gi_cd_ok 125 := gi_cd_in (j := 821) (y := ⟨"GuardedInodesModel", "chown", "(IIII)I"⟩) (b := prog_10_method_31_code) (n := 12) (r := (some FieldType.int)) rfl rfl rfl rfl rfl
set_option maxRecDepth 100000 in
theorem gi_cm126 : gi_cd_ok 126 := gi_cd_in (j := 825) (y := ⟨"GuardedInodesModel", "blocksOf", "(I)I"⟩) (b := prog_10_method_20_code) (n := 4) (r := (some FieldType.int)) rfl rfl rfl rfl rfl
set_option maxRecDepth 100000 in
theorem gi_cm127 : gi_cd_ok 127 := gi_cd_in (j := 829) (y := ⟨"GuardedInodesModel", "acl", "(IIZIII)I"⟩) (b := prog_10_method_33_code) (n := 9) (r := (some FieldType.int)) rfl rfl rfl rfl rfl
set_option maxRecDepth 100000 in
theorem gi_cm128 : gi_cd_ok 128 := gi_cd_in (j := 833) (y := ⟨"GuardedInodesModel", "unite", "(II)V"⟩) (b := prog_10_method_32_code) (n := 6) (r := (none)) rfl rfl rfl rfl rfl
set_option maxRecDepth 100000 in
theorem gi_cm129 : gi_cd_ok 129 := gi_cd_in (j := 837) (y := ⟨"GuardedInodesModel", "list", "(IZI)I"⟩) (b := prog_10_method_34_code) (n := 5) (r := (some FieldType.int)) rfl rfl rfl rfl rfl
set_option maxRecDepth 100000 in
theorem gi_cm130 : gi_cd_ok 130 := gi_cd_in (j := 841) (y := ⟨"GuardedInodesModel", "entry", "(III)I"⟩) (b := prog_10_method_35_code) (n := 6) (r := (some FieldType.int)) rfl rfl rfl rfl rfl
set_option maxRecDepth 100000 in
theorem gi_cm131 : gi_cd_ok 131 := gi_cd_in (j := 845) (y := ⟨"GuardedInodesModel", "may", "(III)I"⟩) (b := prog_10_method_36_code) (n := 4) (r := (some FieldType.int)) rfl rfl rfl rfl rfl
set_option maxRecDepth 100000 in
theorem gi_cm132 : gi_cd_ok 132 := gi_cd_in (j := 849) (y := ⟨"GuardedInodesModel", "feed", "(I)I"⟩) (b := prog_10_method_37_code) (n := 2) (r := (some FieldType.int)) rfl rfl rfl rfl rfl
set_option maxRecDepth 100000 in
theorem gi_cm133 : gi_cd_ok 133 := gi_cd_in (j := 853) (y := ⟨"GuardedInodesModel", "put", "(III)I"⟩) (b := prog_10_method_40_code) (n := 7) (r := (some FieldType.int)) rfl rfl rfl rfl rfl
set_option maxRecDepth 100000 in
theorem gi_cm134 : gi_cd_ok 134 := gi_cd_in (j := 857) (y := ⟨"GuardedInodesModel", "isGuarded", "(IIII)Z"⟩) (b := prog_10_method_39_code) (n := 5) (r := (some FieldType.boolean)) rfl rfl rfl rfl rfl
set_option maxRecDepth 100000 in
theorem gi_cm135 : gi_cd_ok 135 := gi_cd_in (j := 861) (y := ⟨"GuardedInodesModel", "layOut", "(IIII)I"⟩) (b := prog_10_method_38_code) (n := 9) (r := (some FieldType.int)) rfl rfl rfl rfl rfl
set_option maxRecDepth 100000 in
theorem gi_cm136 : gi_cd_ok 136 := gi_cd_in (j := 865) (y := ⟨"GuardedInodesModel", "dropSide", "(II)V"⟩) (b := prog_10_method_41_code) (n := 3) (r := (none)) rfl rfl rfl rfl rfl
set_option maxRecDepth 100000 in
theorem gi_cm137 : gi_cd_ok 137 := gi_cd_in (j := 869) (y := ⟨"GuardedInodesModel", "take", "(III)I"⟩) (b := prog_10_method_42_code) (n := 6) (r := (some FieldType.int)) rfl rfl rfl rfl rfl
set_option maxRecDepth 100000 in
theorem gi_cm138 : gi_cd_ok 138 := gi_cd_in (j := 873) (y := ⟨"GuardedInodesModel", "attribute", "(IIII)I"⟩) (b := prog_10_method_43_code) (n := 6) (r := (some FieldType.int)) rfl rfl rfl rfl rfl
set_option maxRecDepth 100000 in
theorem gi_cm139 : gi_cd_ok 139 := gi_cd_in (j := 877) (y := ⟨"GuardedInodesModel", "side", "(II)I"⟩) (b := prog_10_method_44_code) (n := 4) (r := (some FieldType.int)) rfl rfl rfl rfl rfl
set_option maxRecDepth 100000 in
theorem gi_cm140 : gi_cd_ok 140 := gi_cd_in (j := 881) (y := ⟨"GuardedInodesModel", "limit", "(IIIII)I"⟩) (b := prog_10_method_45_code) (n := 7) (r := (some FieldType.int)) rfl rfl rfl rfl rfl
set_option maxRecDepth 100000 in
theorem gi_cm141 : gi_cd_ok 141 := gi_cd_in (j := 885) (y := ⟨"GuardedInodesModel", "grace", "(III)I"⟩) (b := prog_10_method_46_code) (n := 5) (r := (some FieldType.int)) rfl rfl rfl rfl rfl
set_option maxRecDepth 100000 in
theorem gi_cm142 : gi_cd_ok 142 := gi_cd_in (j := 890) (y := ⟨"GuardedInodesModel", "charged", "(III)I"⟩) (b := prog_10_method_47_code) (n := 4) (r := (some FieldType.int)) rfl rfl rfl rfl rfl
set_option maxRecDepth 100000 in
theorem gi_cm143 : gi_cd_ok 143 := gi_cd_in (j := 894) (y := ⟨"GuardedInodesModel", "inode", "(II)I"⟩) (b := prog_10_method_48_code) (n := 3) (r := (some FieldType.int)) rfl rfl rfl rfl rfl
set_option maxRecDepth 100000 in
theorem gi_cm144 : gi_cd_ok 144 := gi_cd_in (j := 898) (y := ⟨"GuardedInodesModel", "count", "(I)I"⟩) (b := prog_10_method_49_code) (n := 4) (r := (some FieldType.int)) rfl rfl rfl rfl rfl
theorem gi_cm_Ss_0 : ∀ i ∈ ([6, 8, 10, 15, 19, 20, 22, 23, 42, 47, 48, 56, 66, 75, 78, 87, 98, 100, 110] : List Nat), gi_cd_ok i := List.forall_mem_cons.mpr ⟨gi_cm6, List.forall_mem_cons.mpr ⟨gi_cm8, List.forall_mem_cons.mpr ⟨gi_cm10, List.forall_mem_cons.mpr ⟨gi_cm15, List.forall_mem_cons.mpr ⟨gi_cm19, List.forall_mem_cons.mpr ⟨gi_cm20, List.forall_mem_cons.mpr ⟨gi_cm22, List.forall_mem_cons.mpr ⟨gi_cm23, List.forall_mem_cons.mpr ⟨gi_cm42, List.forall_mem_cons.mpr ⟨gi_cm47, List.forall_mem_cons.mpr ⟨gi_cm48, List.forall_mem_cons.mpr ⟨gi_cm56, List.forall_mem_cons.mpr ⟨gi_cm66, List.forall_mem_cons.mpr ⟨gi_cm75, List.forall_mem_cons.mpr ⟨gi_cm78, List.forall_mem_cons.mpr ⟨gi_cm87, List.forall_mem_cons.mpr ⟨gi_cm98, List.forall_mem_cons.mpr ⟨gi_cm100, List.forall_mem_cons.mpr ⟨gi_cm110, fun _ h => absurd h List.not_mem_nil⟩⟩⟩⟩⟩⟩⟩⟩⟩⟩⟩⟩⟩⟩⟩⟩⟩⟩⟩
theorem gi_cm_Ss : ∀ i ∈ gi_Ss, gi_cd_ok i := gi_cm_Ss_0
theorem gi_cm_Is_0 : ∀ i ∈ ([1, 2, 3, 4, 5, 36, 53, 77, 96] : List Nat), gi_cd_ok i := List.forall_mem_cons.mpr ⟨gi_cm1, List.forall_mem_cons.mpr ⟨gi_cm2, List.forall_mem_cons.mpr ⟨gi_cm3, List.forall_mem_cons.mpr ⟨gi_cm4, List.forall_mem_cons.mpr ⟨gi_cm5, List.forall_mem_cons.mpr ⟨gi_cm36, List.forall_mem_cons.mpr ⟨gi_cm53, List.forall_mem_cons.mpr ⟨gi_cm77, List.forall_mem_cons.mpr ⟨gi_cm96, fun _ h => absurd h List.not_mem_nil⟩⟩⟩⟩⟩⟩⟩⟩⟩
theorem gi_cm_Is : ∀ i ∈ gi_Is, gi_cd_ok i := gi_cm_Is_0
theorem gi_cm_Vs_0 : ∀ i ∈ ([7, 9, 11, 12, 13, 14, 16, 17, 18, 21, 24, 25, 26, 27, 28, 29, 30, 31, 32, 33, 34, 35, 37, 38, 39] : List Nat), gi_cd_ok i := List.forall_mem_cons.mpr ⟨gi_cm7, List.forall_mem_cons.mpr ⟨gi_cm9, List.forall_mem_cons.mpr ⟨gi_cm11, List.forall_mem_cons.mpr ⟨gi_cm12, List.forall_mem_cons.mpr ⟨gi_cm13, List.forall_mem_cons.mpr ⟨gi_cm14, List.forall_mem_cons.mpr ⟨gi_cm16, List.forall_mem_cons.mpr ⟨gi_cm17, List.forall_mem_cons.mpr ⟨gi_cm18, List.forall_mem_cons.mpr ⟨gi_cm21, List.forall_mem_cons.mpr ⟨gi_cm24, List.forall_mem_cons.mpr ⟨gi_cm25, List.forall_mem_cons.mpr ⟨gi_cm26, List.forall_mem_cons.mpr ⟨gi_cm27, List.forall_mem_cons.mpr ⟨gi_cm28, List.forall_mem_cons.mpr ⟨gi_cm29, List.forall_mem_cons.mpr ⟨gi_cm30, List.forall_mem_cons.mpr ⟨gi_cm31, List.forall_mem_cons.mpr ⟨gi_cm32, List.forall_mem_cons.mpr ⟨gi_cm33, List.forall_mem_cons.mpr ⟨gi_cm34, List.forall_mem_cons.mpr ⟨gi_cm35, List.forall_mem_cons.mpr ⟨gi_cm37, List.forall_mem_cons.mpr ⟨gi_cm38, List.forall_mem_cons.mpr ⟨gi_cm39, fun _ h => absurd h List.not_mem_nil⟩⟩⟩⟩⟩⟩⟩⟩⟩⟩⟩⟩⟩⟩⟩⟩⟩⟩⟩⟩⟩⟩⟩⟩⟩
theorem gi_cm_Vs_1 : ∀ i ∈ ([40, 41, 43, 44, 45, 46, 49, 50, 51, 52, 54, 55, 57, 58, 59, 60, 61, 62, 63, 64, 65, 67, 68, 69, 70] : List Nat), gi_cd_ok i := List.forall_mem_cons.mpr ⟨gi_cm40, List.forall_mem_cons.mpr ⟨gi_cm41, List.forall_mem_cons.mpr ⟨gi_cm43, List.forall_mem_cons.mpr ⟨gi_cm44, List.forall_mem_cons.mpr ⟨gi_cm45, List.forall_mem_cons.mpr ⟨gi_cm46, List.forall_mem_cons.mpr ⟨gi_cm49, List.forall_mem_cons.mpr ⟨gi_cm50, List.forall_mem_cons.mpr ⟨gi_cm51, List.forall_mem_cons.mpr ⟨gi_cm52, List.forall_mem_cons.mpr ⟨gi_cm54, List.forall_mem_cons.mpr ⟨gi_cm55, List.forall_mem_cons.mpr ⟨gi_cm57, List.forall_mem_cons.mpr ⟨gi_cm58, List.forall_mem_cons.mpr ⟨gi_cm59, List.forall_mem_cons.mpr ⟨gi_cm60, List.forall_mem_cons.mpr ⟨gi_cm61, List.forall_mem_cons.mpr ⟨gi_cm62, List.forall_mem_cons.mpr ⟨gi_cm63, List.forall_mem_cons.mpr ⟨gi_cm64, List.forall_mem_cons.mpr ⟨gi_cm65, List.forall_mem_cons.mpr ⟨gi_cm67, List.forall_mem_cons.mpr ⟨gi_cm68, List.forall_mem_cons.mpr ⟨gi_cm69, List.forall_mem_cons.mpr ⟨gi_cm70, fun _ h => absurd h List.not_mem_nil⟩⟩⟩⟩⟩⟩⟩⟩⟩⟩⟩⟩⟩⟩⟩⟩⟩⟩⟩⟩⟩⟩⟩⟩⟩
theorem gi_cm_Vs_2 : ∀ i ∈ ([71, 72, 73, 74, 76, 79, 80, 81, 82, 83, 84, 85, 86, 88, 89, 90, 91, 92, 93, 94, 95, 97, 99, 101, 102] : List Nat), gi_cd_ok i := List.forall_mem_cons.mpr ⟨gi_cm71, List.forall_mem_cons.mpr ⟨gi_cm72, List.forall_mem_cons.mpr ⟨gi_cm73, List.forall_mem_cons.mpr ⟨gi_cm74, List.forall_mem_cons.mpr ⟨gi_cm76, List.forall_mem_cons.mpr ⟨gi_cm79, List.forall_mem_cons.mpr ⟨gi_cm80, List.forall_mem_cons.mpr ⟨gi_cm81, List.forall_mem_cons.mpr ⟨gi_cm82, List.forall_mem_cons.mpr ⟨gi_cm83, List.forall_mem_cons.mpr ⟨gi_cm84, List.forall_mem_cons.mpr ⟨gi_cm85, List.forall_mem_cons.mpr ⟨gi_cm86, List.forall_mem_cons.mpr ⟨gi_cm88, List.forall_mem_cons.mpr ⟨gi_cm89, List.forall_mem_cons.mpr ⟨gi_cm90, List.forall_mem_cons.mpr ⟨gi_cm91, List.forall_mem_cons.mpr ⟨gi_cm92, List.forall_mem_cons.mpr ⟨gi_cm93, List.forall_mem_cons.mpr ⟨gi_cm94, List.forall_mem_cons.mpr ⟨gi_cm95, List.forall_mem_cons.mpr ⟨gi_cm97, List.forall_mem_cons.mpr ⟨gi_cm99, List.forall_mem_cons.mpr ⟨gi_cm101, List.forall_mem_cons.mpr ⟨gi_cm102, fun _ h => absurd h List.not_mem_nil⟩⟩⟩⟩⟩⟩⟩⟩⟩⟩⟩⟩⟩⟩⟩⟩⟩⟩⟩⟩⟩⟩⟩⟩⟩
theorem gi_cm_Vs_3 : ∀ i ∈ ([103, 104, 105, 106, 107, 108, 109, 111, 112, 113, 114, 115, 116, 117, 118, 119, 120, 121, 122, 123, 124, 125, 126, 127, 128] : List Nat), gi_cd_ok i := List.forall_mem_cons.mpr ⟨gi_cm103, List.forall_mem_cons.mpr ⟨gi_cm104, List.forall_mem_cons.mpr ⟨gi_cm105, List.forall_mem_cons.mpr ⟨gi_cm106, List.forall_mem_cons.mpr ⟨gi_cm107, List.forall_mem_cons.mpr ⟨gi_cm108, List.forall_mem_cons.mpr ⟨gi_cm109, List.forall_mem_cons.mpr ⟨gi_cm111, List.forall_mem_cons.mpr ⟨gi_cm112, List.forall_mem_cons.mpr ⟨gi_cm113, List.forall_mem_cons.mpr ⟨gi_cm114, List.forall_mem_cons.mpr ⟨gi_cm115, List.forall_mem_cons.mpr ⟨gi_cm116, List.forall_mem_cons.mpr ⟨gi_cm117, List.forall_mem_cons.mpr ⟨gi_cm118, List.forall_mem_cons.mpr ⟨gi_cm119, List.forall_mem_cons.mpr ⟨gi_cm120, List.forall_mem_cons.mpr ⟨gi_cm121, List.forall_mem_cons.mpr ⟨gi_cm122, List.forall_mem_cons.mpr ⟨gi_cm123, List.forall_mem_cons.mpr ⟨gi_cm124, List.forall_mem_cons.mpr ⟨gi_cm125, List.forall_mem_cons.mpr ⟨gi_cm126, List.forall_mem_cons.mpr ⟨gi_cm127, List.forall_mem_cons.mpr ⟨gi_cm128, fun _ h => absurd h List.not_mem_nil⟩⟩⟩⟩⟩⟩⟩⟩⟩⟩⟩⟩⟩⟩⟩⟩⟩⟩⟩⟩⟩⟩⟩⟩⟩
theorem gi_cm_Vs_4 : ∀ i ∈ ([129, 130, 131, 132, 133, 134, 135, 136, 137, 138, 139, 140, 141, 142, 143, 144] : List Nat), gi_cd_ok i := List.forall_mem_cons.mpr ⟨gi_cm129, List.forall_mem_cons.mpr ⟨gi_cm130, List.forall_mem_cons.mpr ⟨gi_cm131, List.forall_mem_cons.mpr ⟨gi_cm132, List.forall_mem_cons.mpr ⟨gi_cm133, List.forall_mem_cons.mpr ⟨gi_cm134, List.forall_mem_cons.mpr ⟨gi_cm135, List.forall_mem_cons.mpr ⟨gi_cm136, List.forall_mem_cons.mpr ⟨gi_cm137, List.forall_mem_cons.mpr ⟨gi_cm138, List.forall_mem_cons.mpr ⟨gi_cm139, List.forall_mem_cons.mpr ⟨gi_cm140, List.forall_mem_cons.mpr ⟨gi_cm141, List.forall_mem_cons.mpr ⟨gi_cm142, List.forall_mem_cons.mpr ⟨gi_cm143, List.forall_mem_cons.mpr ⟨gi_cm144, fun _ h => absurd h List.not_mem_nil⟩⟩⟩⟩⟩⟩⟩⟩⟩⟩⟩⟩⟩⟩⟩⟩
theorem gi_cm_Vs : ∀ i ∈ gi_Vs, gi_cd_ok i := List.forall_mem_append.mpr ⟨gi_cm_Vs_0, List.forall_mem_append.mpr ⟨gi_cm_Vs_1, List.forall_mem_append.mpr ⟨gi_cm_Vs_2, List.forall_mem_append.mpr ⟨gi_cm_Vs_3, gi_cm_Vs_4⟩⟩⟩⟩
theorem gi_ok_x : (gi_at 57 (.instanceMethod objectInit) && gi_at 58 (.code objectInit ⟨#[0xb1]⟩ 1 none) && gi_at 333 (.native arraycopyName) && gi_at 332 (.static arraycopyName) && gi_at 48 (.initialized "java/lang/System") && gi_at 73 (.arrayClass .int) && gi_at 166 (.arrayClass .byte) && gi_at 703 (.arrayClass .boolean)) = true := by decide +kernel
/-- the length of an instruction (a switch apart) -/
def gi_sz (i : Instr) : Nat := match i with
  | .bipush _ => 2
  | .sipush _ => 3
  | .ldc _ => 2
  | .ldc2_w _ => 3
  | .iload _ => 2
  | .lload _ => 2
  | .aload _ => 2
  | .istore _ => 2
  | .lstore _ => 2
  | .astore _ => 2
  | .iinc _ _ => 3
  | .ifCond _ _ => 3
  | .if_icmp _ _ => 3
  | .ifnull _ => 3
  | .ifnonnull _ => 3
  | .goto _ => 3
  | .getfield _ => 3
  | .putfield _ => 3
  | .new _ => 3
  | .newarray _ => 2
  | .anewarray _ => 3
  | .invokestatic _ => 3
  | .invokevirtual _ => 3
  | .invokespecial _ => 3
  | _ => 1
def gi_rm (mi a : Nat) : Bool := Nat.ble (gi_rf a + 1) (gi_rf mi) && Nat.ble (8 + (gi_nL a + 11) + gi_rl a) (gi_rl mi)
def gi_fin (mi ci f : Nat) : Bool := match gi_cl[ci]? with
  | some (C, T, _) => !(T (f / 2)).2.2.2 || (decide ((gi_y mi).name = "<init>") && decide ((gi_y mi).cls = C))
  | none => false
def gi_lk (mi p : Nat) (i : Instr) (l a1 a2 : Nat) : Bool := match i with
  | .tableswitch d lo hi offs => decide (0 ≤ (p : Int) + d) && offs.toList.all (fun o => decide (0 ≤ (p : Int) + o)) && decide (hi - lo + 1 = (offs.size : Int))
  | .ifCond _ o => Nat.beq l 3 && decide ((p : Int) + o = (a1 : Int))
  | .if_icmp _ o => Nat.beq l 3 && decide ((p : Int) + o = (a1 : Int))
  | .ifnull o => Nat.beq l 3 && decide ((p : Int) + o = (a1 : Int))
  | .ifnonnull o => Nat.beq l 3 && decide ((p : Int) + o = (a1 : Int))
  | .goto o => Nat.beq l 3 && decide ((p : Int) + o = (a1 : Int))
  | .getfield x => Nat.beq l 3 && decide ((gi_oc mi, x, a1, a2) ∈ gi_F)
  | .putfield x => Nat.beq l 3 && decide ((gi_oc mi, x, a1, a2) ∈ gi_F) && gi_fin mi a1 a2
  | .ldc x => Nat.beq l 2 && decide ((gi_oc mi, x, a1, a2) ∈ gi_Ki)
  | .ldc2_w x => Nat.beq l 3 && decide ((gi_oc mi, x, a1, a2) ∈ gi_Kj)
  | .new x => Nat.beq l 3 && decide ((gi_oc mi, x, a1, a2) ∈ gi_Cl)
  | .newarray t => Nat.beq l 2 && decide (gi_ar[a1]? = some (newarray.typeOf t)) && Nat.blt a1 3
  | .anewarray x => Nat.beq l 3 && decide ((gi_oc mi, x, a1) ∈ gi_Al)
  | .invokestatic x => Nat.beq l 3 && (bif Nat.beq a1 998 then decide ((gi_oc mi, x) ∈ gi_Ac) && Nat.ble 1 (gi_rf mi) && Nat.ble 32 (gi_rl mi) else (decide ((gi_oc mi, x, a1) ∈ gi_Ml) || decide ((gi_oc mi, x, a1) ∈ gi_Mn)) && decide (a1 ∈ gi_Ss) && Nat.beq a2 (gi_na a1) && gi_rm mi a1)
  | .invokevirtual x => Nat.beq l 3 && decide ((gi_oc mi, x, a1) ∈ gi_Ml) && decide (a1 ∈ gi_Vs) && Nat.beq a2 (gi_na a1 + 1) && gi_rm mi a1
  | .invokespecial x => Nat.beq l 3 && (bif Nat.beq a1 999 then decide ((gi_oc mi, x) ∈ gi_Ob) && Nat.ble 1 (gi_rf mi) && Nat.ble 20 (gi_rl mi) else (decide ((gi_oc mi, x, a1) ∈ gi_Ml) || decide ((gi_oc mi, x, a1) ∈ gi_Mn)) && decide (a1 ∈ gi_Is) && Nat.beq a2 (gi_na a1 + 1) && gi_rm mi a1)
  | .ireturn => Nat.beq l 1 && (match gi_ret mi with
    | some .int => true
    | some .boolean => true
    | _ => false)
  | .lreturn => Nat.beq l 1 && decide (gi_ret mi = some .long)
  | .areturn => Nat.beq l 1 && gi_isr (gi_ret mi)
  | .return_ => Nat.beq l 1 && decide (gi_ret mi = none)
  | i => Nat.beq l (gi_sz i)
def gi_okp (mi p : Nat) : Bool := match gi_code mi p with
  | none => true
  | some (i, l, a1, a2) => decide (decode (gi_b mi) p = .ok (i, l)) && gi_lk mi p i l a1 a2

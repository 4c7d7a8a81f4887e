/-! an entry of the tables is what the bytes say -/
theorem gi_dall : ∀ i, i < 145 → ∀ p, p < gi_cn i → gi_okp i p = true := by
  intro i h
  match i, h with
  | 0, _ => exact gi_d0
  | 1, _ => exact gi_d1
  | 2, _ => exact gi_d2
  | 3, _ => exact gi_d3
  | 4, _ => exact gi_d4
  | 5, _ => exact gi_d5
  | 6, _ => exact gi_d6
  | 7, _ => exact gi_d7
  | 8, _ => exact gi_d8
  | 9, _ => exact gi_d9
  | 10, _ => exact gi_d10
  | 11, _ => exact gi_d11
  | 12, _ => exact gi_d12
  | 13, _ => exact gi_d13
  | 14, _ => exact gi_d14
  | 15, _ => exact gi_d15
  | 16, _ => exact gi_d16
  | 17, _ => exact gi_d17
  | 18, _ => exact gi_d18
  | 19, _ => exact gi_d19
  | 20, _ => exact gi_d20
  | 21, _ => exact gi_d21
  | 22, _ => exact gi_d22
  | 23, _ => exact gi_d23
  | 24, _ => exact gi_d24
  | 25, _ => exact gi_d25
  | 26, _ => exact gi_d26
  | 27, _ => exact gi_d27
  | 28, _ => exact gi_d28
  | 29, _ => exact gi_d29
  | 30, _ => exact gi_d30
  | 31, _ => exact gi_d31
  | 32, _ => exact gi_d32
  | 33, _ => exact gi_d33
  | 34, _ => exact gi_d34
  | 35, _ => exact gi_d35
  | 36, _ => exact gi_d36
  | 37, _ => exact gi_d37
  | 38, _ => exact gi_d38
  | 39, _ => exact gi_d39
  | 40, _ => exact gi_d40
  | 41, _ => exact gi_d41
  | 42, _ => exact gi_d42
  | 43, _ => exact gi_d43
  | 44, _ => exact gi_d44
  | 45, _ => exact gi_d45
  | 46, _ => exact gi_d46
  | 47, _ => exact gi_d47
  | 48, _ => exact gi_d48
  | 49, _ => exact gi_d49
  | 50, _ => exact gi_d50
  | 51, _ => exact gi_d51
  | 52, _ => exact gi_d52
  | 53, _ => exact gi_d53
  | 54, _ => exact gi_d54
  | 55, _ => exact gi_d55
  | 56, _ => exact gi_d56
  | 57, _ => exact gi_d57
  | 58, _ => exact gi_d58
  | 59, _ => exact gi_d59
  | 60, _ => exact gi_d60
  | 61, _ => exact gi_d61
  | 62, _ => exact gi_d62
  | 63, _ => exact gi_d63
  | 64, _ => exact gi_d64
  | 65, _ => exact gi_d65
  | 66, _ => exact gi_d66
  | 67, _ => exact gi_d67
  | 68, _ => exact gi_d68
  | 69, _ => exact gi_d69
  | 70, _ => exact gi_d70
  | 71, _ => exact gi_d71
  | 72, _ => exact gi_d72
  | 73, _ => exact gi_d73
  | 74, _ => exact gi_d74
  | 75, _ => exact gi_d75
  | 76, _ => exact gi_d76
  | 77, _ => exact gi_d77
  | 78, _ => exact fun p hp => absurd hp (Nat.not_lt_zero p)
  | 79, _ => exact gi_d79
  | 80, _ => exact gi_d80
  | 81, _ => exact gi_d81
  | 82, _ => exact gi_d82
  | 83, _ => exact gi_d83
  | 84, _ => exact gi_d84
  | 85, _ => exact gi_d85
  | 86, _ => exact gi_d86
  | 87, _ => exact gi_d87
  | 88, _ => exact gi_d88
  | 89, _ => exact gi_d89
  | 90, _ => exact gi_d90
  | 91, _ => exact gi_d91
  | 92, _ => exact gi_d92
  | 93, _ => exact gi_d93
  | 94, _ => exact gi_d94
  | 95, _ => exact gi_d95
  | 96, _ => exact gi_d96
  | 97, _ => exact gi_d97
  | 98, _ => exact gi_d98
  | 99, _ => exact gi_d99
  | 100, _ => exact gi_d100
  | 101, _ => exact gi_d101
  | 102, _ => exact gi_d102
  | 103, _ => exact gi_d103
  | 104, _ => exact gi_d104
  | 105, _ => exact gi_d105
  | 106, _ => exact gi_d106
  | 107, _ => exact gi_d107
  | 108, _ => exact gi_d108
  | 109, _ => exact gi_d109
  | 110, _ => exact gi_d110
  | 111, _ => exact gi_d111
  | 112, _ => exact gi_d112
  | 113, _ => exact gi_d113
  | 114, _ => exact gi_d114
  | 115, _ => exact gi_d115
  | 116, _ => exact gi_d116
  | 117, _ => exact gi_d117
  | 118, _ => exact gi_d118
  | 119, _ => exact gi_d119
  | 120, _ => exact gi_d120
  | 121, _ => exact gi_d121
  | 122, _ => exact gi_d122
  | 123, _ => exact gi_d123
  | 124, _ => exact gi_d124
  | 125, _ => exact gi_d125
  | 126, _ => exact gi_d126
  | 127, _ => exact gi_d127
  | 128, _ => exact gi_d128
  | 129, _ => exact gi_d129
  | 130, _ => exact gi_d130
  | 131, _ => exact gi_d131
  | 132, _ => exact gi_d132
  | 133, _ => exact gi_d133
  | 134, _ => exact gi_d134
  | 135, _ => exact gi_d135
  | 136, _ => exact gi_d136
  | 137, _ => exact gi_d137
  | 138, _ => exact gi_d138
  | 139, _ => exact gi_d139
  | 140, _ => exact gi_d140
  | 141, _ => exact gi_d141
  | 142, _ => exact gi_d142
  | 143, _ => exact gi_d143
  | 144, _ => exact gi_d144
  | n + 145, h => exact absurd h (by omega)
theorem gi_cn_0 {i : Nat} (h : ¬ i < 145) : gi_cn i = 0 := by
  have e : Nat.blt i 145 = false := by
    cases q : Nat.blt i 145 with
    | false => rfl
    | true => simp only [Nat.blt, Nat.ble_eq] at q; omega
  unfold gi_cn
  rw [e]
  rfl
theorem gi_code_ok {i p : Nat} {x : Instr} {l a1 a2 : Nat} (h : gi_code i p = some (x, l, a1, a2)) : decode (gi_b i) p = .ok (x, l) ∧ gi_lk i p x l a1 a2 = true := by
  have hp : p < gi_cn i := by
    cases q : Nat.blt p (gi_cn i) with
    | true => simp only [Nat.blt, Nat.ble_eq] at q; omega
    | false => unfold gi_code at h; rw [q] at h; cases h
  have hi : i < 145 := by
    rcases Nat.lt_or_ge i 145 with q | q
    · exact q
    · rw [gi_cn_0 (by omega)] at hp; omega
  have h1 := gi_dall i hi p hp
  unfold gi_okp at h1
  rw [h] at h1
  simp only [Bool.and_eq_true, decide_eq_true_eq] at h1
  exact h1

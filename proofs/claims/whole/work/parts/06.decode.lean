/-! the tables are what the bytes say (printed by wip/whole/mk5.py) -/
set_option maxRecDepth 100000 in
theorem gi_d0 : ∀ p, p < 1267 → gi_okp 0 p = true := by
  have h0 : ∀ q, q < 190 → gi_okp 0 (0 + q) = true := by decide +kernel
  have h190 : ∀ q, q < 78 → gi_okp 0 (190 + q) = true := by decide +kernel
  have h268 : ∀ q, q < 68 → gi_okp 0 (268 + q) = true := by decide +kernel
  have h336 : ∀ q, q < 71 → gi_okp 0 (336 + q) = true := by decide +kernel
  have h407 : ∀ q, q < 73 → gi_okp 0 (407 + q) = true := by decide +kernel
  have h480 : ∀ q, q < 68 → gi_okp 0 (480 + q) = true := by decide +kernel
  have h548 : ∀ q, q < 70 → gi_okp 0 (548 + q) = true := by decide +kernel
  have h618 : ∀ q, q < 68 → gi_okp 0 (618 + q) = true := by decide +kernel
  have h686 : ∀ q, q < 74 → gi_okp 0 (686 + q) = true := by decide +kernel
  have h760 : ∀ q, q < 76 → gi_okp 0 (760 + q) = true := by decide +kernel
  have h836 : ∀ q, q < 72 → gi_okp 0 (836 + q) = true := by decide +kernel
  have h908 : ∀ q, q < 70 → gi_okp 0 (908 + q) = true := by decide +kernel
  have h978 : ∀ q, q < 68 → gi_okp 0 (978 + q) = true := by decide +kernel
  have h1046 : ∀ q, q < 70 → gi_okp 0 (1046 + q) = true := by decide +kernel
  have h1116 : ∀ q, q < 68 → gi_okp 0 (1116 + q) = true := by decide +kernel
  have h1184 : ∀ q, q < 78 → gi_okp 0 (1184 + q) = true := by decide +kernel
  have h1262 : ∀ q, q < 5 → gi_okp 0 (1262 + q) = true := by decide +kernel
  intro p hp
  by_cases c190 : p < 190
  · have e := h0 (p - 0) (by omega); rwa [show 0 + (p - 0) = p from by omega] at e
  by_cases c268 : p < 268
  · have e := h190 (p - 190) (by omega); rwa [show 190 + (p - 190) = p from by omega] at e
  by_cases c336 : p < 336
  · have e := h268 (p - 268) (by omega); rwa [show 268 + (p - 268) = p from by omega] at e
  by_cases c407 : p < 407
  · have e := h336 (p - 336) (by omega); rwa [show 336 + (p - 336) = p from by omega] at e
  by_cases c480 : p < 480
  · have e := h407 (p - 407) (by omega); rwa [show 407 + (p - 407) = p from by omega] at e
  by_cases c548 : p < 548
  · have e := h480 (p - 480) (by omega); rwa [show 480 + (p - 480) = p from by omega] at e
  by_cases c618 : p < 618
  · have e := h548 (p - 548) (by omega); rwa [show 548 + (p - 548) = p from by omega] at e
  by_cases c686 : p < 686
  · have e := h618 (p - 618) (by omega); rwa [show 618 + (p - 618) = p from by omega] at e
  by_cases c760 : p < 760
  · have e := h686 (p - 686) (by omega); rwa [show 686 + (p - 686) = p from by omega] at e
  by_cases c836 : p < 836
  · have e := h760 (p - 760) (by omega); rwa [show 760 + (p - 760) = p from by omega] at e
  by_cases c908 : p < 908
  · have e := h836 (p - 836) (by omega); rwa [show 836 + (p - 836) = p from by omega] at e
  by_cases c978 : p < 978
  · have e := h908 (p - 908) (by omega); rwa [show 908 + (p - 908) = p from by omega] at e
  by_cases c1046 : p < 1046
  · have e := h978 (p - 978) (by omega); rwa [show 978 + (p - 978) = p from by omega] at e
  by_cases c1116 : p < 1116
  · have e := h1046 (p - 1046) (by omega); rwa [show 1046 + (p - 1046) = p from by omega] at e
  by_cases c1184 : p < 1184
  · have e := h1116 (p - 1116) (by omega); rwa [show 1116 + (p - 1116) = p from by omega] at e
  by_cases c1262 : p < 1262
  · have e := h1184 (p - 1184) (by omega); rwa [show 1184 + (p - 1184) = p from by omega] at e
  have e := h1262 (p - 1262) (by omega); rwa [show 1262 + (p - 1262) = p from by omega] at e
set_option maxRecDepth 100000 in
theorem gi_d1 : ∀ p, p < 109 → gi_okp 1 p = true := by decide +kernel
set_option maxRecDepth 100000 in
theorem gi_d2 : ∀ p, p < 15 → gi_okp 2 p = true := by decide +kernel
set_option maxRecDepth 100000 in
theorem gi_d3 : ∀ p, p < 51 → gi_okp 3 p = true := by decide +kernel
set_option maxRecDepth 100000 in
theorem gi_d4 : ∀ p, p < 20 → gi_okp 4 p = true := by decide +kernel
set_option maxRecDepth 100000 in
theorem gi_d5 : ∀ p, p < 62 → gi_okp 5 p = true := by decide +kernel
set_option maxRecDepth 100000 in
theorem gi_d6 : ∀ p, p < 21 → gi_okp 6 p = true := by decide +kernel
set_option maxRecDepth 100000 in
theorem gi_d7 : ∀ p, p < 44 → gi_okp 7 p = true := by decide +kernel
set_option maxRecDepth 100000 in
theorem gi_d8 : ∀ p, p < 11 → gi_okp 8 p = true := by decide +kernel
set_option maxRecDepth 100000 in
theorem gi_d9 : ∀ p, p < 33 → gi_okp 9 p = true := by decide +kernel
set_option maxRecDepth 100000 in
theorem gi_d10 : ∀ p, p < 16 → gi_okp 10 p = true := by decide +kernel
set_option maxRecDepth 100000 in
theorem gi_d11 : ∀ p, p < 70 → gi_okp 11 p = true := by decide +kernel
set_option maxRecDepth 100000 in
theorem gi_d12 : ∀ p, p < 37 → gi_okp 12 p = true := by decide +kernel
set_option maxRecDepth 100000 in
theorem gi_d13 : ∀ p, p < 183 → gi_okp 13 p = true := by
  have h0 : ∀ q, q < 118 → gi_okp 13 (0 + q) = true := by decide +kernel
  have h118 : ∀ q, q < 65 → gi_okp 13 (118 + q) = true := by decide +kernel
  intro p hp
  by_cases c118 : p < 118
  · have e := h0 (p - 0) (by omega); rwa [show 0 + (p - 0) = p from by omega] at e
  have e := h118 (p - 118) (by omega); rwa [show 118 + (p - 118) = p from by omega] at e
set_option maxRecDepth 100000 in
theorem gi_d14 : ∀ p, p < 21 → gi_okp 14 p = true := by decide +kernel
set_option maxRecDepth 100000 in
theorem gi_d15 : ∀ p, p < 26 → gi_okp 15 p = true := by decide +kernel
set_option maxRecDepth 100000 in
theorem gi_d16 : ∀ p, p < 104 → gi_okp 16 p = true := by decide +kernel
set_option maxRecDepth 100000 in
theorem gi_d17 : ∀ p, p < 35 → gi_okp 17 p = true := by decide +kernel
set_option maxRecDepth 100000 in
theorem gi_d18 : ∀ p, p < 43 → gi_okp 18 p = true := by decide +kernel
set_option maxRecDepth 100000 in
theorem gi_d19 : ∀ p, p < 8 → gi_okp 19 p = true := by decide +kernel
set_option maxRecDepth 100000 in
theorem gi_d20 : ∀ p, p < 13 → gi_okp 20 p = true := by decide +kernel
set_option maxRecDepth 100000 in
theorem gi_d21 : ∀ p, p < 29 → gi_okp 21 p = true := by decide +kernel
set_option maxRecDepth 100000 in
theorem gi_d22 : ∀ p, p < 7 → gi_okp 22 p = true := by decide +kernel
set_option maxRecDepth 100000 in
theorem gi_d23 : ∀ p, p < 5 → gi_okp 23 p = true := by decide +kernel
set_option maxRecDepth 100000 in
theorem gi_d24 : ∀ p, p < 183 → gi_okp 24 p = true := by
  have h0 : ∀ q, q < 117 → gi_okp 24 (0 + q) = true := by decide +kernel
  have h117 : ∀ q, q < 66 → gi_okp 24 (117 + q) = true := by decide +kernel
  intro p hp
  by_cases c117 : p < 117
  · have e := h0 (p - 0) (by omega); rwa [show 0 + (p - 0) = p from by omega] at e
  have e := h117 (p - 117) (by omega); rwa [show 117 + (p - 117) = p from by omega] at e
set_option maxRecDepth 100000 in
theorem gi_d25 : ∀ p, p < 12 → gi_okp 25 p = true := by decide +kernel
set_option maxRecDepth 100000 in
theorem gi_d26 : ∀ p, p < 27 → gi_okp 26 p = true := by decide +kernel
set_option maxRecDepth 100000 in
theorem gi_d27 : ∀ p, p < 54 → gi_okp 27 p = true := by decide +kernel
set_option maxRecDepth 100000 in
theorem gi_d28 : ∀ p, p < 23 → gi_okp 28 p = true := by decide +kernel
set_option maxRecDepth 100000 in
theorem gi_d29 : ∀ p, p < 16 → gi_okp 29 p = true := by decide +kernel
set_option maxRecDepth 100000 in
theorem gi_d30 : ∀ p, p < 11 → gi_okp 30 p = true := by decide +kernel
set_option maxRecDepth 100000 in
theorem gi_d31 : ∀ p, p < 91 → gi_okp 31 p = true := by decide +kernel
set_option maxRecDepth 100000 in
theorem gi_d32 : ∀ p, p < 22 → gi_okp 32 p = true := by decide +kernel
set_option maxRecDepth 100000 in
theorem gi_d33 : ∀ p, p < 99 → gi_okp 33 p = true := by decide +kernel
set_option maxRecDepth 100000 in
theorem gi_d34 : ∀ p, p < 20 → gi_okp 34 p = true := by decide +kernel
set_option maxRecDepth 100000 in
theorem gi_d35 : ∀ p, p < 48 → gi_okp 35 p = true := by decide +kernel
set_option maxRecDepth 100000 in
theorem gi_d36 : ∀ p, p < 36 → gi_okp 36 p = true := by decide +kernel
set_option maxRecDepth 100000 in
theorem gi_d37 : ∀ p, p < 35 → gi_okp 37 p = true := by decide +kernel
set_option maxRecDepth 100000 in
theorem gi_d38 : ∀ p, p < 23 → gi_okp 38 p = true := by decide +kernel
set_option maxRecDepth 100000 in
theorem gi_d39 : ∀ p, p < 17 → gi_okp 39 p = true := by decide +kernel
set_option maxRecDepth 100000 in
theorem gi_d40 : ∀ p, p < 35 → gi_okp 40 p = true := by decide +kernel
set_option maxRecDepth 100000 in
theorem gi_d41 : ∀ p, p < 166 → gi_okp 41 p = true := by
  have h0 : ∀ q, q < 111 → gi_okp 41 (0 + q) = true := by decide +kernel
  have h111 : ∀ q, q < 55 → gi_okp 41 (111 + q) = true := by decide +kernel
  intro p hp
  by_cases c111 : p < 111
  · have e := h0 (p - 0) (by omega); rwa [show 0 + (p - 0) = p from by omega] at e
  have e := h111 (p - 111) (by omega); rwa [show 111 + (p - 111) = p from by omega] at e
set_option maxRecDepth 100000 in
theorem gi_d42 : ∀ p, p < 18 → gi_okp 42 p = true := by decide +kernel
set_option maxRecDepth 100000 in
theorem gi_d43 : ∀ p, p < 43 → gi_okp 43 p = true := by decide +kernel
set_option maxRecDepth 100000 in
theorem gi_d44 : ∀ p, p < 43 → gi_okp 44 p = true := by decide +kernel
set_option maxRecDepth 100000 in
theorem gi_d45 : ∀ p, p < 19 → gi_okp 45 p = true := by decide +kernel
set_option maxRecDepth 100000 in
theorem gi_d46 : ∀ p, p < 163 → gi_okp 46 p = true := by
  have h0 : ∀ q, q < 114 → gi_okp 46 (0 + q) = true := by decide +kernel
  have h114 : ∀ q, q < 49 → gi_okp 46 (114 + q) = true := by decide +kernel
  intro p hp
  by_cases c114 : p < 114
  · have e := h0 (p - 0) (by omega); rwa [show 0 + (p - 0) = p from by omega] at e
  have e := h114 (p - 114) (by omega); rwa [show 114 + (p - 114) = p from by omega] at e
set_option maxRecDepth 100000 in
theorem gi_d47 : ∀ p, p < 18 → gi_okp 47 p = true := by decide +kernel
set_option maxRecDepth 100000 in
theorem gi_d48 : ∀ p, p < 30 → gi_okp 48 p = true := by decide +kernel
set_option maxRecDepth 100000 in
theorem gi_d49 : ∀ p, p < 43 → gi_okp 49 p = true := by decide +kernel
set_option maxRecDepth 100000 in
theorem gi_d50 : ∀ p, p < 31 → gi_okp 50 p = true := by decide +kernel
set_option maxRecDepth 100000 in
theorem gi_d51 : ∀ p, p < 51 → gi_okp 51 p = true := by decide +kernel
set_option maxRecDepth 100000 in
theorem gi_d52 : ∀ p, p < 41 → gi_okp 52 p = true := by decide +kernel
set_option maxRecDepth 100000 in
theorem gi_d53 : ∀ p, p < 13 → gi_okp 53 p = true := by decide +kernel
set_option maxRecDepth 100000 in
theorem gi_d54 : ∀ p, p < 22 → gi_okp 54 p = true := by decide +kernel
set_option maxRecDepth 100000 in
theorem gi_d55 : ∀ p, p < 22 → gi_okp 55 p = true := by decide +kernel
set_option maxRecDepth 100000 in
theorem gi_d56 : ∀ p, p < 11 → gi_okp 56 p = true := by decide +kernel
set_option maxRecDepth 100000 in
theorem gi_d57 : ∀ p, p < 106 → gi_okp 57 p = true := by decide +kernel
set_option maxRecDepth 100000 in
theorem gi_d58 : ∀ p, p < 25 → gi_okp 58 p = true := by decide +kernel
set_option maxRecDepth 100000 in
theorem gi_d59 : ∀ p, p < 80 → gi_okp 59 p = true := by decide +kernel
set_option maxRecDepth 100000 in
theorem gi_d60 : ∀ p, p < 120 → gi_okp 60 p = true := by
  have h0 : ∀ q, q < 111 → gi_okp 60 (0 + q) = true := by decide +kernel
  have h111 : ∀ q, q < 9 → gi_okp 60 (111 + q) = true := by decide +kernel
  intro p hp
  by_cases c111 : p < 111
  · have e := h0 (p - 0) (by omega); rwa [show 0 + (p - 0) = p from by omega] at e
  have e := h111 (p - 111) (by omega); rwa [show 111 + (p - 111) = p from by omega] at e
set_option maxRecDepth 100000 in
theorem gi_d61 : ∀ p, p < 65 → gi_okp 61 p = true := by decide +kernel
set_option maxRecDepth 100000 in
theorem gi_d62 : ∀ p, p < 201 → gi_okp 62 p = true := by
  have h0 : ∀ q, q < 126 → gi_okp 62 (0 + q) = true := by decide +kernel
  have h126 : ∀ q, q < 75 → gi_okp 62 (126 + q) = true := by decide +kernel
  intro p hp
  by_cases c126 : p < 126
  · have e := h0 (p - 0) (by omega); rwa [show 0 + (p - 0) = p from by omega] at e
  have e := h126 (p - 126) (by omega); rwa [show 126 + (p - 126) = p from by omega] at e
set_option maxRecDepth 100000 in
theorem gi_d63 : ∀ p, p < 34 → gi_okp 63 p = true := by decide +kernel
set_option maxRecDepth 100000 in
theorem gi_d64 : ∀ p, p < 41 → gi_okp 64 p = true := by decide +kernel
set_option maxRecDepth 100000 in
theorem gi_d65 : ∀ p, p < 162 → gi_okp 65 p = true := by
  have h0 : ∀ q, q < 126 → gi_okp 65 (0 + q) = true := by decide +kernel
  have h126 : ∀ q, q < 36 → gi_okp 65 (126 + q) = true := by decide +kernel
  intro p hp
  by_cases c126 : p < 126
  · have e := h0 (p - 0) (by omega); rwa [show 0 + (p - 0) = p from by omega] at e
  have e := h126 (p - 126) (by omega); rwa [show 126 + (p - 126) = p from by omega] at e
set_option maxRecDepth 100000 in
theorem gi_d66 : ∀ p, p < 15 → gi_okp 66 p = true := by decide +kernel
set_option maxRecDepth 100000 in
theorem gi_d67 : ∀ p, p < 16 → gi_okp 67 p = true := by decide +kernel
set_option maxRecDepth 100000 in
theorem gi_d68 : ∀ p, p < 111 → gi_okp 68 p = true := by decide +kernel
set_option maxRecDepth 100000 in
theorem gi_d69 : ∀ p, p < 53 → gi_okp 69 p = true := by decide +kernel
set_option maxRecDepth 100000 in
theorem gi_d70 : ∀ p, p < 167 → gi_okp 70 p = true := by
  have h0 : ∀ q, q < 155 → gi_okp 70 (0 + q) = true := by decide +kernel
  have h155 : ∀ q, q < 12 → gi_okp 70 (155 + q) = true := by decide +kernel
  intro p hp
  by_cases c155 : p < 155
  · have e := h0 (p - 0) (by omega); rwa [show 0 + (p - 0) = p from by omega] at e
  have e := h155 (p - 155) (by omega); rwa [show 155 + (p - 155) = p from by omega] at e
set_option maxRecDepth 100000 in
theorem gi_d71 : ∀ p, p < 78 → gi_okp 71 p = true := by decide +kernel
set_option maxRecDepth 100000 in
theorem gi_d72 : ∀ p, p < 49 → gi_okp 72 p = true := by decide +kernel
set_option maxRecDepth 100000 in
theorem gi_d73 : ∀ p, p < 52 → gi_okp 73 p = true := by decide +kernel
set_option maxRecDepth 100000 in
theorem gi_d74 : ∀ p, p < 177 → gi_okp 74 p = true := by
  have h0 : ∀ q, q < 120 → gi_okp 74 (0 + q) = true := by decide +kernel
  have h120 : ∀ q, q < 57 → gi_okp 74 (120 + q) = true := by decide +kernel
  intro p hp
  by_cases c120 : p < 120
  · have e := h0 (p - 0) (by omega); rwa [show 0 + (p - 0) = p from by omega] at e
  have e := h120 (p - 120) (by omega); rwa [show 120 + (p - 120) = p from by omega] at e
set_option maxRecDepth 100000 in
theorem gi_d75 : ∀ p, p < 16 → gi_okp 75 p = true := by decide +kernel
set_option maxRecDepth 100000 in
theorem gi_d76 : ∀ p, p < 27 → gi_okp 76 p = true := by decide +kernel
set_option maxRecDepth 100000 in
theorem gi_d77 : ∀ p, p < 14 → gi_okp 77 p = true := by decide +kernel
set_option maxRecDepth 100000 in
theorem gi_d79 : ∀ p, p < 114 → gi_okp 79 p = true := by
  have h0 : ∀ q, q < 112 → gi_okp 79 (0 + q) = true := by decide +kernel
  have h112 : ∀ q, q < 2 → gi_okp 79 (112 + q) = true := by decide +kernel
  intro p hp
  by_cases c112 : p < 112
  · have e := h0 (p - 0) (by omega); rwa [show 0 + (p - 0) = p from by omega] at e
  have e := h112 (p - 112) (by omega); rwa [show 112 + (p - 112) = p from by omega] at e
set_option maxRecDepth 100000 in
theorem gi_d80 : ∀ p, p < 6 → gi_okp 80 p = true := by decide +kernel
set_option maxRecDepth 100000 in
theorem gi_d81 : ∀ p, p < 71 → gi_okp 81 p = true := by decide +kernel
set_option maxRecDepth 100000 in
theorem gi_d82 : ∀ p, p < 115 → gi_okp 82 p = true := by
  have h0 : ∀ q, q < 111 → gi_okp 82 (0 + q) = true := by decide +kernel
  have h111 : ∀ q, q < 4 → gi_okp 82 (111 + q) = true := by decide +kernel
  intro p hp
  by_cases c111 : p < 111
  · have e := h0 (p - 0) (by omega); rwa [show 0 + (p - 0) = p from by omega] at e
  have e := h111 (p - 111) (by omega); rwa [show 111 + (p - 111) = p from by omega] at e
set_option maxRecDepth 100000 in
theorem gi_d83 : ∀ p, p < 89 → gi_okp 83 p = true := by decide +kernel
set_option maxRecDepth 100000 in
theorem gi_d84 : ∀ p, p < 28 → gi_okp 84 p = true := by decide +kernel
set_option maxRecDepth 100000 in
theorem gi_d85 : ∀ p, p < 49 → gi_okp 85 p = true := by decide +kernel
set_option maxRecDepth 100000 in
theorem gi_d86 : ∀ p, p < 56 → gi_okp 86 p = true := by decide +kernel
set_option maxRecDepth 100000 in
theorem gi_d87 : ∀ p, p < 18 → gi_okp 87 p = true := by decide +kernel
set_option maxRecDepth 100000 in
theorem gi_d88 : ∀ p, p < 25 → gi_okp 88 p = true := by decide +kernel
set_option maxRecDepth 100000 in
theorem gi_d89 : ∀ p, p < 18 → gi_okp 89 p = true := by decide +kernel
set_option maxRecDepth 100000 in
theorem gi_d90 : ∀ p, p < 38 → gi_okp 90 p = true := by decide +kernel
set_option maxRecDepth 100000 in
theorem gi_d91 : ∀ p, p < 22 → gi_okp 91 p = true := by decide +kernel
set_option maxRecDepth 100000 in
theorem gi_d92 : ∀ p, p < 59 → gi_okp 92 p = true := by decide +kernel
set_option maxRecDepth 100000 in
theorem gi_d93 : ∀ p, p < 137 → gi_okp 93 p = true := by decide +kernel
set_option maxRecDepth 100000 in
theorem gi_d94 : ∀ p, p < 52 → gi_okp 94 p = true := by decide +kernel
set_option maxRecDepth 100000 in
theorem gi_d95 : ∀ p, p < 30 → gi_okp 95 p = true := by decide +kernel
set_option maxRecDepth 100000 in
theorem gi_d96 : ∀ p, p < 391 → gi_okp 96 p = true := by
  have h0 : ∀ q, q < 124 → gi_okp 96 (0 + q) = true := by decide +kernel
  have h124 : ∀ q, q < 123 → gi_okp 96 (124 + q) = true := by decide +kernel
  have h247 : ∀ q, q < 102 → gi_okp 96 (247 + q) = true := by decide +kernel
  have h349 : ∀ q, q < 42 → gi_okp 96 (349 + q) = true := by decide +kernel
  intro p hp
  by_cases c124 : p < 124
  · have e := h0 (p - 0) (by omega); rwa [show 0 + (p - 0) = p from by omega] at e
  by_cases c247 : p < 247
  · have e := h124 (p - 124) (by omega); rwa [show 124 + (p - 124) = p from by omega] at e
  by_cases c349 : p < 349
  · have e := h247 (p - 247) (by omega); rwa [show 247 + (p - 247) = p from by omega] at e
  have e := h349 (p - 349) (by omega); rwa [show 349 + (p - 349) = p from by omega] at e
set_option maxRecDepth 100000 in
theorem gi_d97 : ∀ p, p < 34 → gi_okp 97 p = true := by decide +kernel
set_option maxRecDepth 100000 in
theorem gi_d98 : ∀ p, p < 16 → gi_okp 98 p = true := by decide +kernel
set_option maxRecDepth 100000 in
theorem gi_d99 : ∀ p, p < 33 → gi_okp 99 p = true := by decide +kernel
set_option maxRecDepth 100000 in
theorem gi_d100 : ∀ p, p < 8 → gi_okp 100 p = true := by decide +kernel
set_option maxRecDepth 100000 in
theorem gi_d101 : ∀ p, p < 67 → gi_okp 101 p = true := by decide +kernel
set_option maxRecDepth 100000 in
theorem gi_d102 : ∀ p, p < 37 → gi_okp 102 p = true := by decide +kernel
set_option maxRecDepth 100000 in
theorem gi_d103 : ∀ p, p < 425 → gi_okp 103 p = true := by
  have h0 : ∀ q, q < 117 → gi_okp 103 (0 + q) = true := by decide +kernel
  have h117 : ∀ q, q < 108 → gi_okp 103 (117 + q) = true := by decide +kernel
  have h225 : ∀ q, q < 99 → gi_okp 103 (225 + q) = true := by decide +kernel
  have h324 : ∀ q, q < 95 → gi_okp 103 (324 + q) = true := by decide +kernel
  have h419 : ∀ q, q < 6 → gi_okp 103 (419 + q) = true := by decide +kernel
  intro p hp
  by_cases c117 : p < 117
  · have e := h0 (p - 0) (by omega); rwa [show 0 + (p - 0) = p from by omega] at e
  by_cases c225 : p < 225
  · have e := h117 (p - 117) (by omega); rwa [show 117 + (p - 117) = p from by omega] at e
  by_cases c324 : p < 324
  · have e := h225 (p - 225) (by omega); rwa [show 225 + (p - 225) = p from by omega] at e
  by_cases c419 : p < 419
  · have e := h324 (p - 324) (by omega); rwa [show 324 + (p - 324) = p from by omega] at e
  have e := h419 (p - 419) (by omega); rwa [show 419 + (p - 419) = p from by omega] at e
set_option maxRecDepth 100000 in
theorem gi_d104 : ∀ p, p < 25 → gi_okp 104 p = true := by decide +kernel
set_option maxRecDepth 100000 in
theorem gi_d105 : ∀ p, p < 411 → gi_okp 105 p = true := by
  have h0 : ∀ q, q < 106 → gi_okp 105 (0 + q) = true := by decide +kernel
  have h106 : ∀ q, q < 109 → gi_okp 105 (106 + q) = true := by decide +kernel
  have h215 : ∀ q, q < 99 → gi_okp 105 (215 + q) = true := by decide +kernel
  have h314 : ∀ q, q < 97 → gi_okp 105 (314 + q) = true := by decide +kernel
  intro p hp
  by_cases c106 : p < 106
  · have e := h0 (p - 0) (by omega); rwa [show 0 + (p - 0) = p from by omega] at e
  by_cases c215 : p < 215
  · have e := h106 (p - 106) (by omega); rwa [show 106 + (p - 106) = p from by omega] at e
  by_cases c314 : p < 314
  · have e := h215 (p - 215) (by omega); rwa [show 215 + (p - 215) = p from by omega] at e
  have e := h314 (p - 314) (by omega); rwa [show 314 + (p - 314) = p from by omega] at e
set_option maxRecDepth 100000 in
theorem gi_d106 : ∀ p, p < 30 → gi_okp 106 p = true := by decide +kernel
set_option maxRecDepth 100000 in
theorem gi_d107 : ∀ p, p < 39 → gi_okp 107 p = true := by decide +kernel
set_option maxRecDepth 100000 in
theorem gi_d108 : ∀ p, p < 44 → gi_okp 108 p = true := by decide +kernel
set_option maxRecDepth 100000 in
theorem gi_d109 : ∀ p, p < 160 → gi_okp 109 p = true := by
  have h0 : ∀ q, q < 113 → gi_okp 109 (0 + q) = true := by decide +kernel
  have h113 : ∀ q, q < 47 → gi_okp 109 (113 + q) = true := by decide +kernel
  intro p hp
  by_cases c113 : p < 113
  · have e := h0 (p - 0) (by omega); rwa [show 0 + (p - 0) = p from by omega] at e
  have e := h113 (p - 113) (by omega); rwa [show 113 + (p - 113) = p from by omega] at e
set_option maxRecDepth 100000 in
theorem gi_d110 : ∀ p, p < 11 → gi_okp 110 p = true := by decide +kernel
set_option maxRecDepth 100000 in
theorem gi_d111 : ∀ p, p < 39 → gi_okp 111 p = true := by decide +kernel
set_option maxRecDepth 100000 in
theorem gi_d112 : ∀ p, p < 34 → gi_okp 112 p = true := by decide +kernel
set_option maxRecDepth 100000 in
theorem gi_d113 : ∀ p, p < 97 → gi_okp 113 p = true := by
  have h0 : ∀ q, q < 89 → gi_okp 113 (0 + q) = true := by decide +kernel
  have h89 : ∀ q, q < 8 → gi_okp 113 (89 + q) = true := by decide +kernel
  intro p hp
  by_cases c89 : p < 89
  · have e := h0 (p - 0) (by omega); rwa [show 0 + (p - 0) = p from by omega] at e
  have e := h89 (p - 89) (by omega); rwa [show 89 + (p - 89) = p from by omega] at e
set_option maxRecDepth 100000 in
theorem gi_d114 : ∀ p, p < 199 → gi_okp 114 p = true := by
  have h0 : ∀ q, q < 105 → gi_okp 114 (0 + q) = true := by decide +kernel
  have h105 : ∀ q, q < 94 → gi_okp 114 (105 + q) = true := by decide +kernel
  intro p hp
  by_cases c105 : p < 105
  · have e := h0 (p - 0) (by omega); rwa [show 0 + (p - 0) = p from by omega] at e
  have e := h105 (p - 105) (by omega); rwa [show 105 + (p - 105) = p from by omega] at e
set_option maxRecDepth 100000 in
theorem gi_d115 : ∀ p, p < 45 → gi_okp 115 p = true := by decide +kernel
set_option maxRecDepth 100000 in
theorem gi_d116 : ∀ p, p < 29 → gi_okp 116 p = true := by decide +kernel
set_option maxRecDepth 100000 in
theorem gi_d117 : ∀ p, p < 55 → gi_okp 117 p = true := by decide +kernel
set_option maxRecDepth 100000 in
theorem gi_d118 : ∀ p, p < 42 → gi_okp 118 p = true := by decide +kernel
set_option maxRecDepth 100000 in
theorem gi_d119 : ∀ p, p < 345 → gi_okp 119 p = true := by
  have h0 : ∀ q, q < 105 → gi_okp 119 (0 + q) = true := by decide +kernel
  have h105 : ∀ q, q < 117 → gi_okp 119 (105 + q) = true := by decide +kernel
  have h222 : ∀ q, q < 98 → gi_okp 119 (222 + q) = true := by decide +kernel
  have h320 : ∀ q, q < 25 → gi_okp 119 (320 + q) = true := by decide +kernel
  intro p hp
  by_cases c105 : p < 105
  · have e := h0 (p - 0) (by omega); rwa [show 0 + (p - 0) = p from by omega] at e
  by_cases c222 : p < 222
  · have e := h105 (p - 105) (by omega); rwa [show 105 + (p - 105) = p from by omega] at e
  by_cases c320 : p < 320
  · have e := h222 (p - 222) (by omega); rwa [show 222 + (p - 222) = p from by omega] at e
  have e := h320 (p - 320) (by omega); rwa [show 320 + (p - 320) = p from by omega] at e
set_option maxRecDepth 100000 in
theorem gi_d120 : ∀ p, p < 36 → gi_okp 120 p = true := by decide +kernel
set_option maxRecDepth 100000 in
theorem gi_d121 : ∀ p, p < 52 → gi_okp 121 p = true := by decide +kernel
set_option maxRecDepth 100000 in
theorem gi_d122 : ∀ p, p < 166 → gi_okp 122 p = true := by
  have h0 : ∀ q, q < 110 → gi_okp 122 (0 + q) = true := by decide +kernel
  have h110 : ∀ q, q < 56 → gi_okp 122 (110 + q) = true := by decide +kernel
  intro p hp
  by_cases c110 : p < 110
  · have e := h0 (p - 0) (by omega); rwa [show 0 + (p - 0) = p from by omega] at e
  have e := h110 (p - 110) (by omega); rwa [show 110 + (p - 110) = p from by omega] at e
set_option maxRecDepth 100000 in
theorem gi_d123 : ∀ p, p < 181 → gi_okp 123 p = true := by
  have h0 : ∀ q, q < 113 → gi_okp 123 (0 + q) = true := by decide +kernel
  have h113 : ∀ q, q < 68 → gi_okp 123 (113 + q) = true := by decide +kernel
  intro p hp
  by_cases c113 : p < 113
  · have e := h0 (p - 0) (by omega); rwa [show 0 + (p - 0) = p from by omega] at e
  have e := h113 (p - 113) (by omega); rwa [show 113 + (p - 113) = p from by omega] at e
set_option maxRecDepth 100000 in
theorem gi_d124 : ∀ p, p < 117 → gi_okp 124 p = true := by
  have h0 : ∀ q, q < 102 → gi_okp 124 (0 + q) = true := by decide +kernel
  have h102 : ∀ q, q < 15 → gi_okp 124 (102 + q) = true := by decide +kernel
  intro p hp
  by_cases c102 : p < 102
  · have e := h0 (p - 0) (by omega); rwa [show 0 + (p - 0) = p from by omega] at e
  have e := h102 (p - 102) (by omega); rwa [show 102 + (p - 102) = p from by omega] at e
set_option maxRecDepth 100000 in
theorem gi_d125 : ∀ p, p < 345 → gi_okp 125 p = true := by
  have h0 : ∀ q, q < 115 → gi_okp 125 (0 + q) = true := by decide +kernel
  have h115 : ∀ q, q < 123 → gi_okp 125 (115 + q) = true := by decide +kernel
  have h238 : ∀ q, q < 107 → gi_okp 125 (238 + q) = true := by decide +kernel
  intro p hp
  by_cases c115 : p < 115
  · have e := h0 (p - 0) (by omega); rwa [show 0 + (p - 0) = p from by omega] at e
  by_cases c238 : p < 238
  · have e := h115 (p - 115) (by omega); rwa [show 115 + (p - 115) = p from by omega] at e
  have e := h238 (p - 238) (by omega); rwa [show 238 + (p - 238) = p from by omega] at e
set_option maxRecDepth 100000 in
theorem gi_d126 : ∀ p, p < 53 → gi_okp 126 p = true := by decide +kernel
set_option maxRecDepth 100000 in
theorem gi_d127 : ∀ p, p < 353 → gi_okp 127 p = true := by
  have h0 : ∀ q, q < 108 → gi_okp 127 (0 + q) = true := by decide +kernel
  have h108 : ∀ q, q < 101 → gi_okp 127 (108 + q) = true := by decide +kernel
  have h209 : ∀ q, q < 104 → gi_okp 127 (209 + q) = true := by decide +kernel
  have h313 : ∀ q, q < 40 → gi_okp 127 (313 + q) = true := by decide +kernel
  intro p hp
  by_cases c108 : p < 108
  · have e := h0 (p - 0) (by omega); rwa [show 0 + (p - 0) = p from by omega] at e
  by_cases c209 : p < 209
  · have e := h108 (p - 108) (by omega); rwa [show 108 + (p - 108) = p from by omega] at e
  by_cases c313 : p < 313
  · have e := h209 (p - 209) (by omega); rwa [show 209 + (p - 209) = p from by omega] at e
  have e := h313 (p - 313) (by omega); rwa [show 313 + (p - 313) = p from by omega] at e
set_option maxRecDepth 100000 in
theorem gi_d128 : ∀ p, p < 85 → gi_okp 128 p = true := by decide +kernel
set_option maxRecDepth 100000 in
theorem gi_d129 : ∀ p, p < 172 → gi_okp 129 p = true := by
  have h0 : ∀ q, q < 129 → gi_okp 129 (0 + q) = true := by decide +kernel
  have h129 : ∀ q, q < 43 → gi_okp 129 (129 + q) = true := by decide +kernel
  intro p hp
  by_cases c129 : p < 129
  · have e := h0 (p - 0) (by omega); rwa [show 0 + (p - 0) = p from by omega] at e
  have e := h129 (p - 129) (by omega); rwa [show 129 + (p - 129) = p from by omega] at e
set_option maxRecDepth 100000 in
theorem gi_d130 : ∀ p, p < 83 → gi_okp 130 p = true := by decide +kernel
set_option maxRecDepth 100000 in
theorem gi_d131 : ∀ p, p < 44 → gi_okp 131 p = true := by decide +kernel
set_option maxRecDepth 100000 in
theorem gi_d132 : ∀ p, p < 52 → gi_okp 132 p = true := by decide +kernel
set_option maxRecDepth 100000 in
theorem gi_d133 : ∀ p, p < 214 → gi_okp 133 p = true := by
  have h0 : ∀ q, q < 112 → gi_okp 133 (0 + q) = true := by decide +kernel
  have h112 : ∀ q, q < 102 → gi_okp 133 (112 + q) = true := by decide +kernel
  intro p hp
  by_cases c112 : p < 112
  · have e := h0 (p - 0) (by omega); rwa [show 0 + (p - 0) = p from by omega] at e
  have e := h112 (p - 112) (by omega); rwa [show 112 + (p - 112) = p from by omega] at e
set_option maxRecDepth 100000 in
theorem gi_d134 : ∀ p, p < 35 → gi_okp 134 p = true := by decide +kernel
set_option maxRecDepth 100000 in
theorem gi_d135 : ∀ p, p < 142 → gi_okp 135 p = true := by
  have h0 : ∀ q, q < 107 → gi_okp 135 (0 + q) = true := by decide +kernel
  have h107 : ∀ q, q < 35 → gi_okp 135 (107 + q) = true := by decide +kernel
  intro p hp
  by_cases c107 : p < 107
  · have e := h0 (p - 0) (by omega); rwa [show 0 + (p - 0) = p from by omega] at e
  have e := h107 (p - 107) (by omega); rwa [show 107 + (p - 107) = p from by omega] at e
set_option maxRecDepth 100000 in
theorem gi_d136 : ∀ p, p < 47 → gi_okp 136 p = true := by decide +kernel
set_option maxRecDepth 100000 in
theorem gi_d137 : ∀ p, p < 103 → gi_okp 137 p = true := by
  have h0 : ∀ q, q < 100 → gi_okp 137 (0 + q) = true := by decide +kernel
  have h100 : ∀ q, q < 3 → gi_okp 137 (100 + q) = true := by decide +kernel
  intro p hp
  by_cases c100 : p < 100
  · have e := h0 (p - 0) (by omega); rwa [show 0 + (p - 0) = p from by omega] at e
  have e := h100 (p - 100) (by omega); rwa [show 100 + (p - 100) = p from by omega] at e
set_option maxRecDepth 100000 in
theorem gi_d138 : ∀ p, p < 118 → gi_okp 138 p = true := by
  have h0 : ∀ q, q < 109 → gi_okp 138 (0 + q) = true := by decide +kernel
  have h109 : ∀ q, q < 9 → gi_okp 138 (109 + q) = true := by decide +kernel
  intro p hp
  by_cases c109 : p < 109
  · have e := h0 (p - 0) (by omega); rwa [show 0 + (p - 0) = p from by omega] at e
  have e := h109 (p - 109) (by omega); rwa [show 109 + (p - 109) = p from by omega] at e
set_option maxRecDepth 100000 in
theorem gi_d139 : ∀ p, p < 60 → gi_okp 139 p = true := by decide +kernel
set_option maxRecDepth 100000 in
theorem gi_d140 : ∀ p, p < 140 → gi_okp 140 p = true := by
  have h0 : ∀ q, q < 117 → gi_okp 140 (0 + q) = true := by decide +kernel
  have h117 : ∀ q, q < 23 → gi_okp 140 (117 + q) = true := by decide +kernel
  intro p hp
  by_cases c117 : p < 117
  · have e := h0 (p - 0) (by omega); rwa [show 0 + (p - 0) = p from by omega] at e
  have e := h117 (p - 117) (by omega); rwa [show 117 + (p - 117) = p from by omega] at e
set_option maxRecDepth 100000 in
theorem gi_d141 : ∀ p, p < 57 → gi_okp 141 p = true := by decide +kernel
set_option maxRecDepth 100000 in
theorem gi_d142 : ∀ p, p < 61 → gi_okp 142 p = true := by decide +kernel
set_option maxRecDepth 100000 in
theorem gi_d143 : ∀ p, p < 148 → gi_okp 143 p = true := by
  have h0 : ∀ q, q < 140 → gi_okp 143 (0 + q) = true := by decide +kernel
  have h140 : ∀ q, q < 8 → gi_okp 143 (140 + q) = true := by decide +kernel
  intro p hp
  by_cases c140 : p < 140
  · have e := h0 (p - 0) (by omega); rwa [show 0 + (p - 0) = p from by omega] at e
  have e := h140 (p - 140) (by omega); rwa [show 140 + (p - 140) = p from by omega] at e
set_option maxRecDepth 100000 in
theorem gi_d144 : ∀ p, p < 66 → gi_okp 144 p = true := by decide +kernel

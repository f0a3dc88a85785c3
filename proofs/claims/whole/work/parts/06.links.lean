theorem L0 : zlay[0]? = some (.inl (7, [some (some 1), some (some 4), some (some 5), some (some 23), some (some 27), some (some 30), none, some none, some none, none])) := rfl
theorem L1 : zlay[1]? = some (.inl (6, [some (some 2), some (some 3), none, none])) := rfl
theorem L2 : zlay[2]? = some (.inr (.inl (1, 300))) := rfl
theorem L3 : zlay[3]? = some (.inr (.inl (0, 3))) := rfl
theorem L4 : zlay[4]? = some (.inl (5, [some (some 5), some (some 21), some (some 22), none, none, none, none, none])) := rfl
theorem L5 : zlay[5]? = some (.inl (1, [some (some 6), some (some 7), some (some 8), some (some 9), some (some 10), some (some 11), some none, none, none, none, none, none, none, none, none, none])) := rfl
theorem L6 : zlay[6]? = some (.inr (.inl (0, 10))) := rfl
theorem L7 : zlay[7]? = some (.inr (.inl (0, 10))) := rfl
theorem L8 : zlay[8]? = some (.inr (.inl (3, 10))) := rfl
theorem L9 : zlay[9]? = some (.inr (.inl (0, 10))) := rfl
theorem L10 : zlay[10]? = some (.inr (.inl (0, 2))) := rfl
theorem L11 : zlay[11]? = some (.inr (.inl (0, 2))) := rfl
theorem L12 : zlay[12]? = some (.inl (4, [some (some 13), some (some 14), some (some 15), some (some 16), some (some 17), none, none, none, none, none, none])) := rfl
theorem L13 : zlay[13]? = some (.inr (.inl (0, 10))) := rfl
theorem L14 : zlay[14]? = some (.inr (.inl (0, 10))) := rfl
theorem L15 : zlay[15]? = some (.inr (.inl (0, 10))) := rfl
theorem L16 : zlay[16]? = some (.inr (.inl (0, 10))) := rfl
theorem L17 : zlay[17]? = some (.inl (0, [some (some 18), some (some 19), some (some 20), none])) := rfl
theorem L18 : zlay[18]? = some (.inr (.inl (0, 8))) := rfl
theorem L19 : zlay[19]? = some (.inr (.inl (0, 8))) := rfl
theorem L20 : zlay[20]? = some (.inr (.inl (0, 100))) := rfl
theorem L21 : zlay[21]? = some (.inr (.inl (0, 144))) := rfl
theorem L22 : zlay[22]? = some (.inr (.inl (0, 144))) := rfl
theorem L23 : zlay[23]? = some (.inl (3, [some (some 24), some (some 25), some (some 26)])) := rfl
theorem L24 : zlay[24]? = some (.inr (.inl (2, 9))) := rfl
theorem L25 : zlay[25]? = some (.inr (.inl (2, 9))) := rfl
theorem L26 : zlay[26]? = some (.inr (.inl (2, 9))) := rfl
theorem L27 : zlay[27]? = some (.inl (2, [some (some 28), some (some 29), none, none, none, none])) := rfl
theorem L28 : zlay[28]? = some (.inr (.inl (0, 9))) := rfl
theorem L29 : zlay[29]? = some (.inr (.inl (0, 9))) := rfl
theorem L30 : zlay[30]? = some (.inr (.inr [31, 35])) := rfl
theorem L31 : zlay[31]? = some (.inl (0, [some (some 32), some (some 33), some (some 34), none])) := rfl
theorem L32 : zlay[32]? = some (.inr (.inl (0, 8))) := rfl
theorem L33 : zlay[33]? = some (.inr (.inl (0, 8))) := rfl
theorem L34 : zlay[34]? = some (.inr (.inl (0, 100))) := rfl
theorem L35 : zlay[35]? = some (.inl (0, [some (some 36), some (some 37), some (some 38), none])) := rfl
theorem L36 : zlay[36]? = some (.inr (.inl (0, 8))) := rfl
theorem L37 : zlay[37]? = some (.inr (.inl (0, 8))) := rfl
theorem L38 : zlay[38]? = some (.inr (.inl (0, 100))) := rfl
theorem L39 : zlay[39]? = some (.inl (4, [some (some 40), some (some 41), some (some 42), some (some 43), some (some 44), none, none, none, none, none, none])) := rfl
theorem L40 : zlay[40]? = some (.inr (.inl (0, 10))) := rfl
theorem L41 : zlay[41]? = some (.inr (.inl (0, 10))) := rfl
theorem L42 : zlay[42]? = some (.inr (.inl (0, 10))) := rfl
theorem L43 : zlay[43]? = some (.inr (.inl (0, 10))) := rfl
theorem L44 : zlay[44]? = some (.inl (0, [some (some 45), some (some 46), some (some 47), none])) := rfl
theorem L45 : zlay[45]? = some (.inr (.inl (0, 8))) := rfl
theorem L46 : zlay[46]? = some (.inr (.inl (0, 8))) := rfl
theorem L47 : zlay[47]? = some (.inr (.inl (0, 100))) := rfl
theorem L48 : zlay[48]? = some (.inl (4, [some (some 49), some (some 50), some (some 51), some (some 52), some (some 53), none, none, none, none, none, none])) := rfl
theorem L49 : zlay[49]? = some (.inr (.inl (0, 10))) := rfl
theorem L50 : zlay[50]? = some (.inr (.inl (0, 10))) := rfl
theorem L51 : zlay[51]? = some (.inr (.inl (0, 10))) := rfl
theorem L52 : zlay[52]? = some (.inr (.inl (0, 10))) := rfl
theorem L53 : zlay[53]? = some (.inl (0, [some (some 54), some (some 55), some (some 56), none])) := rfl
theorem L54 : zlay[54]? = some (.inr (.inl (0, 8))) := rfl
theorem L55 : zlay[55]? = some (.inr (.inl (0, 8))) := rfl
theorem L56 : zlay[56]? = some (.inr (.inl (0, 100))) := rfl
theorem L57 : zlay[57]? = some (.inl (8, [none, some (some 58), some (some 59), some (some 60), some (some 61), some (some 62), some (some 63), some (some 64), some (some 65), some (some 66), some (some 67), some (some 68), some (some 69), some (some 70), none, none, some (some 71), some (some 72), none, some (some 73), none, none, none, none, none, none, none, some (some 74), none, some (some 75), some (some 76), none, some (some 77), some (some 78), some (some 79)])) := rfl
theorem L58 : zlay[58]? = some (.inr (.inl (0, 300))) := rfl
theorem L59 : zlay[59]? = some (.inr (.inl (0, 2))) := rfl
theorem L60 : zlay[60]? = some (.inr (.inl (0, 20))) := rfl
theorem L61 : zlay[61]? = some (.inr (.inl (0, 20))) := rfl
theorem L62 : zlay[62]? = some (.inr (.inl (0, 20))) := rfl
theorem L63 : zlay[63]? = some (.inr (.inl (0, 2))) := rfl
theorem L64 : zlay[64]? = some (.inr (.inl (0, 2))) := rfl
theorem L65 : zlay[65]? = some (.inr (.inl (0, 2))) := rfl
theorem L66 : zlay[66]? = some (.inr (.inl (0, 2))) := rfl
theorem L67 : zlay[67]? = some (.inr (.inl (0, 2))) := rfl
theorem L68 : zlay[68]? = some (.inr (.inl (0, 4))) := rfl
theorem L69 : zlay[69]? = some (.inr (.inl (0, 32))) := rfl
theorem L70 : zlay[70]? = some (.inr (.inl (0, 32))) := rfl
theorem L71 : zlay[71]? = some (.inr (.inl (0, 2))) := rfl
theorem L72 : zlay[72]? = some (.inr (.inl (0, 18))) := rfl
theorem L73 : zlay[73]? = some (.inr (.inl (0, 3))) := rfl
theorem L74 : zlay[74]? = some (.inr (.inl (0, 10))) := rfl
theorem L75 : zlay[75]? = some (.inr (.inl (0, 10))) := rfl
theorem L76 : zlay[76]? = some (.inr (.inl (0, 10))) := rfl
theorem L77 : zlay[77]? = some (.inr (.inl (0, 144))) := rfl
theorem L78 : zlay[78]? = some (.inr (.inl (0, 144))) := rfl
theorem L79 : zlay[79]? = some (.inr (.inl (2, 100))) := rfl
def zPl (p : Nat) : Prop := p = 39 ∨ p = 48
def zCy (p : Nat) : Prop := p = 31 ∨ p = 35 ∨ p = 44 ∨ p = 53
theorem zPl_o {p : Nat} (h : zPl p) : zlay[p]? = some (.inl (4, [some (some (p + 1)), some (some (p + 2)), some (some (p + 3)), some (some (p + 4)), some (some (p + 5)), none, none, none, none, none, none])) := by rcases h with rfl | rfl <;> rfl
theorem zPl_1 {p : Nat} (h : zPl p) : zlay[p + 1]? = some (.inr (.inl (0, 10))) := by rcases h with rfl | rfl <;> rfl
theorem zPl_2 {p : Nat} (h : zPl p) : zlay[p + 2]? = some (.inr (.inl (0, 10))) := by rcases h with rfl | rfl <;> rfl
theorem zPl_3 {p : Nat} (h : zPl p) : zlay[p + 3]? = some (.inr (.inl (0, 10))) := by rcases h with rfl | rfl <;> rfl
theorem zPl_4 {p : Nat} (h : zPl p) : zlay[p + 4]? = some (.inr (.inl (0, 10))) := by rcases h with rfl | rfl <;> rfl
theorem zPl_c {p : Nat} (h : zPl p) : zCy (p + 5) := by rcases h with rfl | rfl <;> simp [zCy]
theorem zCy_o {p : Nat} (h : zCy p) : zlay[p]? = some (.inl (0, [some (some (p + 1)), some (some (p + 2)), some (some (p + 3)), none])) := by rcases h with rfl | rfl | rfl | rfl <;> rfl
theorem zCy_1 {p : Nat} (h : zCy p) : zlay[p + 1]? = some (.inr (.inl (0, 8))) := by rcases h with rfl | rfl | rfl | rfl <;> rfl
theorem zCy_2 {p : Nat} (h : zCy p) : zlay[p + 2]? = some (.inr (.inl (0, 8))) := by rcases h with rfl | rfl | rfl | rfl <;> rfl
theorem zCy_3 {p : Nat} (h : zCy p) : zlay[p + 3]? = some (.inr (.inl (0, 100))) := by rcases h with rfl | rfl | rfl | rfl <;> rfl
set_option maxRecDepth 100000 in
theorem fX0_9 : zFl RX0 9 0 0 := ⟨RX0, TX0, 4, rfl, by decide, rfl, zAL_of 93 (by rfl) rfl, inX0⟩
set_option maxRecDepth 100000 in
theorem fX0_15 : zFl RX0 15 0 1 := ⟨RX0, TX0, 4, rfl, by decide, rfl, zAL_of 97 (by rfl) rfl, inX0⟩
set_option maxRecDepth 100000 in
theorem fX0_18 : zFl RX0 18 0 2 := ⟨RX0, TX0, 4, rfl, by decide, rfl, zAL_of 99 (by rfl) rfl, inX0⟩
set_option maxRecDepth 100000 in
theorem fX0_21 : zFl RX0 21 0 3 := ⟨RX0, TX0, 4, rfl, by decide, rfl, zAL_of 101 (by rfl) rfl, inX0⟩
set_option maxRecDepth 100000 in
theorem fX1_9 : zFl RX1 9 1 0 := ⟨RX1, TX1, 16, rfl, by decide, rfl, zAL_of 179 (by rfl) rfl, inX1⟩
set_option maxRecDepth 100000 in
theorem fX1_15 : zFl RX1 15 1 1 := ⟨RX1, TX1, 16, rfl, by decide, rfl, zAL_of 182 (by rfl) rfl, inX1⟩
set_option maxRecDepth 100000 in
theorem fX1_18 : zFl RX1 18 1 2 := ⟨RX1, TX1, 16, rfl, by decide, rfl, zAL_of 184 (by rfl) rfl, inX1⟩
set_option maxRecDepth 100000 in
theorem fX1_22 : zFl RX1 22 1 3 := ⟨RX1, TX1, 16, rfl, by decide, rfl, zAL_of 185 (by rfl) rfl, inX1⟩
set_option maxRecDepth 100000 in
theorem fX1_25 : zFl RX1 25 1 4 := ⟨RX1, TX1, 16, rfl, by decide, rfl, zAL_of 186 (by rfl) rfl, inX1⟩
set_option maxRecDepth 100000 in
theorem fX1_28 : zFl RX1 28 1 5 := ⟨RX1, TX1, 16, rfl, by decide, rfl, zAL_of 187 (by rfl) rfl, inX1⟩
set_option maxRecDepth 100000 in
theorem fX1_34 : zFl RX1 34 1 6 := ⟨RX1, TX1, 16, rfl, by decide, rfl, zAL_of 188 (by rfl) rfl, inX1⟩
set_option maxRecDepth 100000 in
theorem fX1_38 : zFl RX1 38 4 10 := ⟨RX4, TX4, 11, rfl, by decide, rfl, zAL_of 153 (by rfl) rfl, inX4⟩
set_option maxRecDepth 100000 in
theorem fX1_42 : zFl RX1 42 1 7 := ⟨RX1, TX1, 16, rfl, by decide, rfl, zAL_of 189 (by rfl) rfl, inX1⟩
set_option maxRecDepth 100000 in
theorem fX1_43 : zFl RX1 43 1 8 := ⟨RX1, TX1, 16, rfl, by decide, rfl, zAL_of 192 (by rfl) rfl, inX1⟩
set_option maxRecDepth 100000 in
theorem fX1_46 : zFl RX1 46 1 9 := ⟨RX1, TX1, 16, rfl, by decide, rfl, zAL_of 193 (by rfl) rfl, inX1⟩
set_option maxRecDepth 100000 in
theorem fX1_56 : zFl RX1 56 1 12 := ⟨RX1, TX1, 16, rfl, by decide, rfl, zAL_of 198 (by rfl) rfl, inX1⟩
set_option maxRecDepth 100000 in
theorem fX1_59 : zFl RX1 59 4 5 := ⟨RX4, TX4, 11, rfl, by decide, rfl, zAL_of 143 (by rfl) rfl, inX4⟩
set_option maxRecDepth 100000 in
theorem fX1_81 : zFl RX1 81 4 8 := ⟨RX4, TX4, 11, rfl, by decide, rfl, zAL_of 150 (by rfl) rfl, inX4⟩
set_option maxRecDepth 100000 in
theorem fX1_87 : zFl RX1 87 1 13 := ⟨RX1, TX1, 16, rfl, by decide, rfl, zAL_of 199 (by rfl) rfl, inX1⟩
set_option maxRecDepth 100000 in
theorem fX1_93 : zFl RX1 93 1 10 := ⟨RX1, TX1, 16, rfl, by decide, rfl, zAL_of 195 (by rfl) rfl, inX1⟩
set_option maxRecDepth 100000 in
theorem fX1_96 : zFl RX1 96 1 11 := ⟨RX1, TX1, 16, rfl, by decide, rfl, zAL_of 197 (by rfl) rfl, inX1⟩
set_option maxRecDepth 100000 in
theorem fX1_99 : zFl RX1 99 4 9 := ⟨RX4, TX4, 11, rfl, by decide, rfl, zAL_of 152 (by rfl) rfl, inX4⟩
set_option maxRecDepth 100000 in
theorem fX1_100 : zFl RX1 100 1 14 := ⟨RX1, TX1, 16, rfl, by decide, rfl, zAL_of 200 (by rfl) rfl, inX1⟩
set_option maxRecDepth 100000 in
theorem fX1_103 : zFl RX1 103 1 15 := ⟨RX1, TX1, 16, rfl, by decide, rfl, zAL_of 202 (by rfl) rfl, inX1⟩
set_option maxRecDepth 100000 in
theorem fX1_106 : zFl RX1 106 4 0 := ⟨RX4, TX4, 11, rfl, by decide, rfl, zAL_of 128 (by rfl) rfl, inX4⟩
set_option maxRecDepth 100000 in
theorem fX1_109 : zFl RX1 109 4 2 := ⟨RX4, TX4, 11, rfl, by decide, rfl, zAL_of 134 (by rfl) rfl, inX4⟩
set_option maxRecDepth 100000 in
theorem fX1_116 : zFl RX1 116 4 4 := ⟨RX4, TX4, 11, rfl, by decide, rfl, zAL_of 141 (by rfl) rfl, inX4⟩
set_option maxRecDepth 100000 in
theorem fX1_120 : zFl RX1 120 0 2 := ⟨RX0, TX0, 4, rfl, by decide, rfl, zAL_of 100 (by rfl) rfl, inX0⟩
set_option maxRecDepth 100000 in
theorem fX1_125 : zFl RX1 125 0 3 := ⟨RX0, TX0, 4, rfl, by decide, rfl, zAL_of 104 (by rfl) rfl, inX0⟩
set_option maxRecDepth 100000 in
theorem fX1_126 : zFl RX1 126 0 0 := ⟨RX0, TX0, 4, rfl, by decide, rfl, zAL_of 95 (by rfl) rfl, inX0⟩
set_option maxRecDepth 100000 in
theorem fX1_129 : zFl RX1 129 4 1 := ⟨RX4, TX4, 11, rfl, by decide, rfl, zAL_of 132 (by rfl) rfl, inX4⟩
set_option maxRecDepth 100000 in
theorem kX1_136 : Cond.constantLong RX1 136 (7919) ∈ zAL := zAL_of 472 (by rfl) rfl
set_option maxRecDepth 100000 in
theorem kX1_138 : Cond.constantLong RX1 138 (6151) ∈ zAL := zAL_of 473 (by rfl) rfl
set_option maxRecDepth 100000 in
theorem kX1_140 : Cond.constantLong RX1 140 (3571) ∈ zAL := zAL_of 474 (by rfl) rfl
set_option maxRecDepth 100000 in
theorem kX1_142 : Cond.constantLong RX1 142 (65521) ∈ zAL := zAL_of 475 (by rfl) rfl
set_option maxRecDepth 100000 in
theorem kX1_144 : Cond.constantLong RX1 144 (20) ∈ zAL := zAL_of 476 (by rfl) rfl
set_option maxRecDepth 100000 in
theorem fX1_146 : zFl RX1 146 4 6 := ⟨RX4, TX4, 11, rfl, by decide, rfl, zAL_of 146 (by rfl) rfl, inX4⟩
set_option maxRecDepth 100000 in
theorem fX1_149 : zFl RX1 149 4 3 := ⟨RX4, TX4, 11, rfl, by decide, rfl, zAL_of 137 (by rfl) rfl, inX4⟩
set_option maxRecDepth 100000 in
theorem fX1_155 : zFl RX1 155 4 7 := ⟨RX4, TX4, 11, rfl, by decide, rfl, zAL_of 148 (by rfl) rfl, inX4⟩
set_option maxRecDepth 100000 in
theorem fX2_9 : zFl RX2 9 2 0 := ⟨RX2, TX2, 6, rfl, by decide, rfl, zAL_of 290 (by rfl) rfl, inX2⟩
set_option maxRecDepth 100000 in
theorem fX2_15 : zFl RX2 15 2 1 := ⟨RX2, TX2, 6, rfl, by decide, rfl, zAL_of 291 (by rfl) rfl, inX2⟩
set_option maxRecDepth 100000 in
theorem fX2_18 : zFl RX2 18 2 2 := ⟨RX2, TX2, 6, rfl, by decide, rfl, zAL_of 292 (by rfl) rfl, inX2⟩
set_option maxRecDepth 100000 in
theorem fX2_22 : zFl RX2 22 2 3 := ⟨RX2, TX2, 6, rfl, by decide, rfl, zAL_of 294 (by rfl) rfl, inX2⟩
set_option maxRecDepth 100000 in
theorem fX2_29 : zFl RX2 29 2 4 := ⟨RX2, TX2, 6, rfl, by decide, rfl, zAL_of 296 (by rfl) rfl, inX2⟩
set_option maxRecDepth 100000 in
theorem fX2_32 : zFl RX2 32 2 5 := ⟨RX2, TX2, 6, rfl, by decide, rfl, zAL_of 298 (by rfl) rfl, inX2⟩
set_option maxRecDepth 100000 in
theorem fX3_9 : zFl RX3 9 3 0 := ⟨RX3, TX3, 3, rfl, by decide, rfl, zAL_of 273 (by rfl) rfl, inX3⟩
set_option maxRecDepth 100000 in
theorem fX3_15 : zFl RX3 15 3 1 := ⟨RX3, TX3, 3, rfl, by decide, rfl, zAL_of 274 (by rfl) rfl, inX3⟩
set_option maxRecDepth 100000 in
theorem fX3_18 : zFl RX3 18 3 2 := ⟨RX3, TX3, 3, rfl, by decide, rfl, zAL_of 275 (by rfl) rfl, inX3⟩
set_option maxRecDepth 100000 in
theorem kX3_21 : Cond.constantLong RX3 21 (1000000000) ∈ zAL := zAL_of 645 (by rfl) rfl
set_option maxRecDepth 100000 in
theorem kX3_23 : Cond.constantLong RX3 23 (10) ∈ zAL := zAL_of 646 (by rfl) rfl
set_option maxRecDepth 100000 in
theorem fX4_9 : zFl RX4 9 4 0 := ⟨RX4, TX4, 11, rfl, by decide, rfl, zAL_of 127 (by rfl) rfl, inX4⟩
set_option maxRecDepth 100000 in
theorem fX4_15 : zFl RX4 15 4 1 := ⟨RX4, TX4, 11, rfl, by decide, rfl, zAL_of 130 (by rfl) rfl, inX4⟩
set_option maxRecDepth 100000 in
theorem fX4_18 : zFl RX4 18 4 2 := ⟨RX4, TX4, 11, rfl, by decide, rfl, zAL_of 133 (by rfl) rfl, inX4⟩
set_option maxRecDepth 100000 in
theorem fX4_21 : zFl RX4 21 4 3 := ⟨RX4, TX4, 11, rfl, by decide, rfl, zAL_of 136 (by rfl) rfl, inX4⟩
set_option maxRecDepth 100000 in
theorem fX4_27 : zFl RX4 27 4 4 := ⟨RX4, TX4, 11, rfl, by decide, rfl, zAL_of 138 (by rfl) rfl, inX4⟩
set_option maxRecDepth 100000 in
theorem fX4_34 : zFl RX4 34 4 5 := ⟨RX4, TX4, 11, rfl, by decide, rfl, zAL_of 142 (by rfl) rfl, inX4⟩
set_option maxRecDepth 100000 in
theorem fX4_39 : zFl RX4 39 4 6 := ⟨RX4, TX4, 11, rfl, by decide, rfl, zAL_of 145 (by rfl) rfl, inX4⟩
set_option maxRecDepth 100000 in
theorem fX4_42 : zFl RX4 42 4 7 := ⟨RX4, TX4, 11, rfl, by decide, rfl, zAL_of 147 (by rfl) rfl, inX4⟩
set_option maxRecDepth 100000 in
theorem fX4_45 : zFl RX4 45 4 8 := ⟨RX4, TX4, 11, rfl, by decide, rfl, zAL_of 149 (by rfl) rfl, inX4⟩
set_option maxRecDepth 100000 in
theorem fX4_48 : zFl RX4 48 4 9 := ⟨RX4, TX4, 11, rfl, by decide, rfl, zAL_of 151 (by rfl) rfl, inX4⟩
set_option maxRecDepth 100000 in
theorem fX4_51 : zFl RX4 51 4 10 := ⟨RX4, TX4, 11, rfl, by decide, rfl, zAL_of 154 (by rfl) rfl, inX4⟩
set_option maxRecDepth 100000 in
theorem fX5_12 : zFl RX5 12 5 0 := ⟨RX5, TX5, 8, rfl, by decide, rfl, zAL_of 236 (by rfl) rfl, inX5⟩
set_option maxRecDepth 100000 in
theorem fX5_18 : zFl RX5 18 5 1 := ⟨RX5, TX5, 8, rfl, by decide, rfl, zAL_of 238 (by rfl) rfl, inX5⟩
set_option maxRecDepth 100000 in
theorem fX5_22 : zFl RX5 22 5 2 := ⟨RX5, TX5, 8, rfl, by decide, rfl, zAL_of 239 (by rfl) rfl, inX5⟩
set_option maxRecDepth 100000 in
theorem fX5_29 : zFl RX5 29 1 8 := ⟨RX1, TX1, 16, rfl, by decide, rfl, zAL_of 191 (by rfl) rfl, inX1⟩
set_option maxRecDepth 100000 in
theorem fX5_41 : zFl RX5 41 4 4 := ⟨RX4, TX4, 11, rfl, by decide, rfl, zAL_of 140 (by rfl) rfl, inX4⟩
set_option maxRecDepth 100000 in
theorem fX5_47 : zFl RX5 47 0 0 := ⟨RX0, TX0, 4, rfl, by decide, rfl, zAL_of 94 (by rfl) rfl, inX0⟩
set_option maxRecDepth 100000 in
theorem fX5_56 : zFl RX5 56 0 3 := ⟨RX0, TX0, 4, rfl, by decide, rfl, zAL_of 103 (by rfl) rfl, inX0⟩
set_option maxRecDepth 100000 in
theorem fX5_72 : zFl RX5 72 1 0 := ⟨RX1, TX1, 16, rfl, by decide, rfl, zAL_of 180 (by rfl) rfl, inX1⟩
set_option maxRecDepth 100000 in
theorem fX5_75 : zFl RX5 75 5 3 := ⟨RX5, TX5, 8, rfl, by decide, rfl, zAL_of 240 (by rfl) rfl, inX5⟩
set_option maxRecDepth 100000 in
theorem fX5_82 : zFl RX5 82 5 4 := ⟨RX5, TX5, 8, rfl, by decide, rfl, zAL_of 242 (by rfl) rfl, inX5⟩
set_option maxRecDepth 100000 in
theorem fX5_85 : zFl RX5 85 5 5 := ⟨RX5, TX5, 8, rfl, by decide, rfl, zAL_of 244 (by rfl) rfl, inX5⟩
set_option maxRecDepth 100000 in
theorem fX5_92 : zFl RX5 92 5 6 := ⟨RX5, TX5, 8, rfl, by decide, rfl, zAL_of 246 (by rfl) rfl, inX5⟩
set_option maxRecDepth 100000 in
theorem fX5_95 : zFl RX5 95 5 7 := ⟨RX5, TX5, 8, rfl, by decide, rfl, zAL_of 248 (by rfl) rfl, inX5⟩
set_option maxRecDepth 100000 in
theorem fX5_98 : zFl RX5 98 1 7 := ⟨RX1, TX1, 16, rfl, by decide, rfl, zAL_of 190 (by rfl) rfl, inX1⟩
set_option maxRecDepth 100000 in
theorem fX6_9 : zFl RX6 9 6 0 := ⟨RX6, TX6, 4, rfl, by decide, rfl, zAL_of 53 (by rfl) rfl, inX6⟩
set_option maxRecDepth 100000 in
theorem fX6_15 : zFl RX6 15 6 1 := ⟨RX6, TX6, 4, rfl, by decide, rfl, zAL_of 54 (by rfl) rfl, inX6⟩
set_option maxRecDepth 100000 in
theorem fX6_19 : zFl RX6 19 6 2 := ⟨RX6, TX6, 4, rfl, by decide, rfl, zAL_of 55 (by rfl) rfl, inX6⟩
set_option maxRecDepth 100000 in
theorem fX6_23 : zFl RX6 23 6 3 := ⟨RX6, TX6, 4, rfl, by decide, rfl, zAL_of 57 (by rfl) rfl, inX6⟩
set_option maxRecDepth 100000 in
theorem fX7_10 : zFl RX7 10 7 0 := ⟨RX7, TX7, 10, rfl, by decide, rfl, zAL_of 330 (by rfl) rfl, inX7⟩
set_option maxRecDepth 100000 in
theorem fX7_19 : zFl RX7 19 7 1 := ⟨RX7, TX7, 10, rfl, by decide, rfl, zAL_of 331 (by rfl) rfl, inX7⟩
set_option maxRecDepth 100000 in
theorem fX7_23 : zFl RX7 23 5 0 := ⟨RX5, TX5, 8, rfl, by decide, rfl, zAL_of 237 (by rfl) rfl, inX5⟩
set_option maxRecDepth 100000 in
theorem fX7_27 : zFl RX7 27 7 2 := ⟨RX7, TX7, 10, rfl, by decide, rfl, zAL_of 332 (by rfl) rfl, inX7⟩
set_option maxRecDepth 100000 in
theorem fX7_31 : zFl RX7 31 7 3 := ⟨RX7, TX7, 10, rfl, by decide, rfl, zAL_of 333 (by rfl) rfl, inX7⟩
set_option maxRecDepth 100000 in
theorem fX7_38 : zFl RX7 38 7 4 := ⟨RX7, TX7, 10, rfl, by decide, rfl, zAL_of 334 (by rfl) rfl, inX7⟩
set_option maxRecDepth 100000 in
theorem fX7_45 : zFl RX7 45 7 5 := ⟨RX7, TX7, 10, rfl, by decide, rfl, zAL_of 335 (by rfl) rfl, inX7⟩
set_option maxRecDepth 100000 in
theorem fX7_49 : zFl RX7 49 7 6 := ⟨RX7, TX7, 10, rfl, by decide, rfl, zAL_of 336 (by rfl) rfl, inX7⟩
set_option maxRecDepth 100000 in
theorem fX7_56 : zFl RX7 56 7 7 := ⟨RX7, TX7, 10, rfl, by decide, rfl, zAL_of 337 (by rfl) rfl, inX7⟩
set_option maxRecDepth 100000 in
theorem fX7_60 : zFl RX7 60 7 8 := ⟨RX7, TX7, 10, rfl, by decide, rfl, zAL_of 338 (by rfl) rfl, inX7⟩
set_option maxRecDepth 100000 in
theorem fX7_71 : zFl RX7 71 4 4 := ⟨RX4, TX4, 11, rfl, by decide, rfl, zAL_of 139 (by rfl) rfl, inX4⟩
set_option maxRecDepth 100000 in
theorem fX7_75 : zFl RX7 75 0 3 := ⟨RX0, TX0, 4, rfl, by decide, rfl, zAL_of 102 (by rfl) rfl, inX0⟩
set_option maxRecDepth 100000 in
theorem fX7_78 : zFl RX7 78 7 9 := ⟨RX7, TX7, 10, rfl, by decide, rfl, zAL_of 339 (by rfl) rfl, inX7⟩
set_option maxRecDepth 100000 in
theorem fX7_81 : zFl RX7 81 6 2 := ⟨RX6, TX6, 4, rfl, by decide, rfl, zAL_of 56 (by rfl) rfl, inX6⟩
set_option maxRecDepth 100000 in
theorem fX7_92 : zFl RX7 92 4 5 := ⟨RX4, TX4, 11, rfl, by decide, rfl, zAL_of 144 (by rfl) rfl, inX4⟩
set_option maxRecDepth 100000 in
theorem fX7_102 : zFl RX7 102 4 0 := ⟨RX4, TX4, 11, rfl, by decide, rfl, zAL_of 129 (by rfl) rfl, inX4⟩
set_option maxRecDepth 100000 in
theorem fX7_106 : zFl RX7 106 4 1 := ⟨RX4, TX4, 11, rfl, by decide, rfl, zAL_of 131 (by rfl) rfl, inX4⟩
set_option maxRecDepth 100000 in
theorem fX7_109 : zFl RX7 109 4 2 := ⟨RX4, TX4, 11, rfl, by decide, rfl, zAL_of 135 (by rfl) rfl, inX4⟩
set_option maxRecDepth 100000 in
theorem fX7_115 : zFl RX7 115 1 0 := ⟨RX1, TX1, 16, rfl, by decide, rfl, zAL_of 181 (by rfl) rfl, inX1⟩
set_option maxRecDepth 100000 in
theorem fX7_120 : zFl RX7 120 1 1 := ⟨RX1, TX1, 16, rfl, by decide, rfl, zAL_of 183 (by rfl) rfl, inX1⟩
set_option maxRecDepth 100000 in
theorem fX7_138 : zFl RX7 138 1 10 := ⟨RX1, TX1, 16, rfl, by decide, rfl, zAL_of 196 (by rfl) rfl, inX1⟩
set_option maxRecDepth 100000 in
theorem fX7_139 : zFl RX7 139 1 14 := ⟨RX1, TX1, 16, rfl, by decide, rfl, zAL_of 201 (by rfl) rfl, inX1⟩
set_option maxRecDepth 100000 in
theorem fX7_149 : zFl RX7 149 0 0 := ⟨RX0, TX0, 4, rfl, by decide, rfl, zAL_of 96 (by rfl) rfl, inX0⟩
set_option maxRecDepth 100000 in
theorem fX7_152 : zFl RX7 152 0 1 := ⟨RX0, TX0, 4, rfl, by decide, rfl, zAL_of 98 (by rfl) rfl, inX0⟩
set_option maxRecDepth 100000 in
theorem fX7_176 : zFl RX7 176 5 4 := ⟨RX5, TX5, 8, rfl, by decide, rfl, zAL_of 243 (by rfl) rfl, inX5⟩
set_option maxRecDepth 100000 in
theorem fX7_179 : zFl RX7 179 5 3 := ⟨RX5, TX5, 8, rfl, by decide, rfl, zAL_of 241 (by rfl) rfl, inX5⟩
set_option maxRecDepth 100000 in
theorem fX7_186 : zFl RX7 186 5 5 := ⟨RX5, TX5, 8, rfl, by decide, rfl, zAL_of 245 (by rfl) rfl, inX5⟩
set_option maxRecDepth 100000 in
theorem fX7_189 : zFl RX7 189 5 6 := ⟨RX5, TX5, 8, rfl, by decide, rfl, zAL_of 247 (by rfl) rfl, inX5⟩
set_option maxRecDepth 100000 in
theorem fX7_192 : zFl RX7 192 5 7 := ⟨RX5, TX5, 8, rfl, by decide, rfl, zAL_of 249 (by rfl) rfl, inX5⟩
set_option maxRecDepth 100000 in
theorem kX7_204 : Cond.constantLong RX7 204 (-1) ∈ zAL := zAL_of 636 (by rfl) rfl
set_option maxRecDepth 100000 in
theorem fX7_235 : zFl RX7 235 2 2 := ⟨RX2, TX2, 6, rfl, by decide, rfl, zAL_of 293 (by rfl) rfl, inX2⟩
set_option maxRecDepth 100000 in
theorem fX7_238 : zFl RX7 238 2 3 := ⟨RX2, TX2, 6, rfl, by decide, rfl, zAL_of 295 (by rfl) rfl, inX2⟩
set_option maxRecDepth 100000 in
theorem fX7_244 : zFl RX7 244 2 4 := ⟨RX2, TX2, 6, rfl, by decide, rfl, zAL_of 297 (by rfl) rfl, inX2⟩
set_option maxRecDepth 100000 in
theorem fX7_247 : zFl RX7 247 2 5 := ⟨RX2, TX2, 6, rfl, by decide, rfl, zAL_of 299 (by rfl) rfl, inX2⟩
set_option maxRecDepth 100000 in
theorem fX7_250 : zFl RX7 250 1 9 := ⟨RX1, TX1, 16, rfl, by decide, rfl, zAL_of 194 (by rfl) rfl, inX1⟩
set_option maxRecDepth 100000 in
theorem fX7_257 : zFl RX7 257 4 10 := ⟨RX4, TX4, 11, rfl, by decide, rfl, zAL_of 155 (by rfl) rfl, inX4⟩
set_option maxRecDepth 100000 in
theorem fX8_7 : zFl RX8 7 8 1 := ⟨RX8, TX8, 35, rfl, by decide, rfl, zAL_of 738 (by rfl) rfl, inX8⟩
set_option maxRecDepth 100000 in
theorem fX8_13 : zFl RX8 13 8 2 := ⟨RX8, TX8, 35, rfl, by decide, rfl, zAL_of 739 (by rfl) rfl, inX8⟩
set_option maxRecDepth 100000 in
theorem fX8_16 : zFl RX8 16 8 3 := ⟨RX8, TX8, 35, rfl, by decide, rfl, zAL_of 740 (by rfl) rfl, inX8⟩
set_option maxRecDepth 100000 in
theorem fX8_19 : zFl RX8 19 8 4 := ⟨RX8, TX8, 35, rfl, by decide, rfl, zAL_of 741 (by rfl) rfl, inX8⟩
set_option maxRecDepth 100000 in
theorem fX8_22 : zFl RX8 22 8 5 := ⟨RX8, TX8, 35, rfl, by decide, rfl, zAL_of 742 (by rfl) rfl, inX8⟩
set_option maxRecDepth 100000 in
theorem fX8_25 : zFl RX8 25 8 6 := ⟨RX8, TX8, 35, rfl, by decide, rfl, zAL_of 743 (by rfl) rfl, inX8⟩
set_option maxRecDepth 100000 in
theorem fX8_28 : zFl RX8 28 8 7 := ⟨RX8, TX8, 35, rfl, by decide, rfl, zAL_of 744 (by rfl) rfl, inX8⟩
set_option maxRecDepth 100000 in
theorem fX8_31 : zFl RX8 31 8 8 := ⟨RX8, TX8, 35, rfl, by decide, rfl, zAL_of 745 (by rfl) rfl, inX8⟩
set_option maxRecDepth 100000 in
theorem fX8_34 : zFl RX8 34 8 9 := ⟨RX8, TX8, 35, rfl, by decide, rfl, zAL_of 746 (by rfl) rfl, inX8⟩
set_option maxRecDepth 100000 in
theorem fX8_37 : zFl RX8 37 8 10 := ⟨RX8, TX8, 35, rfl, by decide, rfl, zAL_of 747 (by rfl) rfl, inX8⟩
set_option maxRecDepth 100000 in
theorem fX8_40 : zFl RX8 40 8 11 := ⟨RX8, TX8, 35, rfl, by decide, rfl, zAL_of 748 (by rfl) rfl, inX8⟩
set_option maxRecDepth 100000 in
theorem fX8_43 : zFl RX8 43 8 12 := ⟨RX8, TX8, 35, rfl, by decide, rfl, zAL_of 749 (by rfl) rfl, inX8⟩
set_option maxRecDepth 100000 in
theorem fX8_46 : zFl RX8 46 8 13 := ⟨RX8, TX8, 35, rfl, by decide, rfl, zAL_of 750 (by rfl) rfl, inX8⟩
set_option maxRecDepth 100000 in
theorem fX8_49 : zFl RX8 49 8 16 := ⟨RX8, TX8, 35, rfl, by decide, rfl, zAL_of 753 (by rfl) rfl, inX8⟩
set_option maxRecDepth 100000 in
theorem fX8_52 : zFl RX8 52 8 17 := ⟨RX8, TX8, 35, rfl, by decide, rfl, zAL_of 754 (by rfl) rfl, inX8⟩
set_option maxRecDepth 100000 in
theorem fX8_55 : zFl RX8 55 8 19 := ⟨RX8, TX8, 35, rfl, by decide, rfl, zAL_of 756 (by rfl) rfl, inX8⟩
set_option maxRecDepth 100000 in
theorem fX8_58 : zFl RX8 58 8 27 := ⟨RX8, TX8, 35, rfl, by decide, rfl, zAL_of 764 (by rfl) rfl, inX8⟩
set_option maxRecDepth 100000 in
theorem fX8_61 : zFl RX8 61 8 29 := ⟨RX8, TX8, 35, rfl, by decide, rfl, zAL_of 766 (by rfl) rfl, inX8⟩
set_option maxRecDepth 100000 in
theorem fX8_64 : zFl RX8 64 8 30 := ⟨RX8, TX8, 35, rfl, by decide, rfl, zAL_of 767 (by rfl) rfl, inX8⟩
set_option maxRecDepth 100000 in
theorem fX8_67 : zFl RX8 67 8 32 := ⟨RX8, TX8, 35, rfl, by decide, rfl, zAL_of 769 (by rfl) rfl, inX8⟩
set_option maxRecDepth 100000 in
theorem fX8_70 : zFl RX8 70 8 33 := ⟨RX8, TX8, 35, rfl, by decide, rfl, zAL_of 770 (by rfl) rfl, inX8⟩
set_option maxRecDepth 100000 in
theorem fX8_73 : zFl RX8 73 8 34 := ⟨RX8, TX8, 35, rfl, by decide, rfl, zAL_of 771 (by rfl) rfl, inX8⟩
set_option maxRecDepth 100000 in
theorem kX8_81 : Cond.constantLong RX8 81 (8) ∈ zAL := zAL_of 847 (by rfl) rfl
set_option maxRecDepth 100000 in
theorem fX8_87 : zFl RX8 87 8 0 := ⟨RX8, TX8, 35, rfl, by decide, rfl, zAL_of 737 (by rfl) rfl, inX8⟩
set_option maxRecDepth 100000 in
theorem kX8_91 : Cond.constantLong RX8 91 (255) ∈ zAL := zAL_of 851 (by rfl) rfl
set_option maxRecDepth 100000 in
theorem fX8_93 : zFl RX8 93 8 18 := ⟨RX8, TX8, 35, rfl, by decide, rfl, zAL_of 755 (by rfl) rfl, inX8⟩
set_option maxRecDepth 100000 in
theorem kX8_100 : Cond.constantLong RX8 100 (48) ∈ zAL := zAL_of 876 (by rfl) rfl
set_option maxRecDepth 100000 in
theorem kX8_102 : Cond.constantLong RX8 102 (57) ∈ zAL := zAL_of 877 (by rfl) rfl
set_option maxRecDepth 100000 in
theorem kX8_104 : Cond.constantLong RX8 104 (2) ∈ zAL := zAL_of 878 (by rfl) rfl
set_option maxRecDepth 100000 in
theorem kX8_110 : Cond.constantLong RX8 110 (9) ∈ zAL := zAL_of 879 (by rfl) rfl
set_option maxRecDepth 100000 in
theorem fX8_124 : zFl RX8 124 8 14 := ⟨RX8, TX8, 35, rfl, by decide, rfl, zAL_of 751 (by rfl) rfl, inX8⟩
set_option maxRecDepth 100000 in
theorem fX8_127 : zFl RX8 127 8 15 := ⟨RX8, TX8, 35, rfl, by decide, rfl, zAL_of 752 (by rfl) rfl, inX8⟩
set_option maxRecDepth 100000 in
theorem fX8_130 : zFl RX8 130 8 20 := ⟨RX8, TX8, 35, rfl, by decide, rfl, zAL_of 757 (by rfl) rfl, inX8⟩
set_option maxRecDepth 100000 in
theorem fX8_133 : zFl RX8 133 8 21 := ⟨RX8, TX8, 35, rfl, by decide, rfl, zAL_of 758 (by rfl) rfl, inX8⟩
set_option maxRecDepth 100000 in
theorem fX8_136 : zFl RX8 136 8 23 := ⟨RX8, TX8, 35, rfl, by decide, rfl, zAL_of 760 (by rfl) rfl, inX8⟩
set_option maxRecDepth 100000 in
theorem fX8_139 : zFl RX8 139 8 25 := ⟨RX8, TX8, 35, rfl, by decide, rfl, zAL_of 762 (by rfl) rfl, inX8⟩
set_option maxRecDepth 100000 in
theorem fX8_142 : zFl RX8 142 8 26 := ⟨RX8, TX8, 35, rfl, by decide, rfl, zAL_of 763 (by rfl) rfl, inX8⟩
set_option maxRecDepth 100000 in
theorem fX8_145 : zFl RX8 145 8 28 := ⟨RX8, TX8, 35, rfl, by decide, rfl, zAL_of 765 (by rfl) rfl, inX8⟩
set_option maxRecDepth 100000 in
theorem kX8_148 : Cond.constantLong RX8 148 (7919) ∈ zAL := zAL_of 921 (by rfl) rfl
set_option maxRecDepth 100000 in
theorem kX8_150 : Cond.constantLong RX8 150 (6151) ∈ zAL := zAL_of 922 (by rfl) rfl
set_option maxRecDepth 100000 in
theorem kX8_152 : Cond.constantLong RX8 152 (3571) ∈ zAL := zAL_of 923 (by rfl) rfl
set_option maxRecDepth 100000 in
theorem kX8_154 : Cond.constantLong RX8 154 (65521) ∈ zAL := zAL_of 924 (by rfl) rfl
set_option maxRecDepth 100000 in
theorem kX8_156 : Cond.constantLong RX8 156 (20) ∈ zAL := zAL_of 925 (by rfl) rfl
set_option maxRecDepth 100000 in
theorem fX8_161 : zFl RX8 161 8 22 := ⟨RX8, TX8, 35, rfl, by decide, rfl, zAL_of 759 (by rfl) rfl, inX8⟩
set_option maxRecDepth 100000 in
theorem fX8_164 : zFl RX8 164 8 24 := ⟨RX8, TX8, 35, rfl, by decide, rfl, zAL_of 761 (by rfl) rfl, inX8⟩
set_option maxRecDepth 100000 in
theorem fX8_171 : zFl RX8 171 8 31 := ⟨RX8, TX8, 35, rfl, by decide, rfl, zAL_of 768 (by rfl) rfl, inX8⟩
set_option maxRecDepth 100000 in
theorem kX8_199 : Cond.constantLong RX8 199 (4) ∈ zAL := zAL_of 896 (by rfl) rfl
set_option maxRecDepth 100000 in
theorem kX8_204 : Cond.constantLong RX8 204 (199) ∈ zAL := zAL_of 945 (by rfl) rfl
set_option maxRecDepth 100000 in
theorem kX8_206 : Cond.constantLong RX8 206 (5) ∈ zAL := zAL_of 954 (by rfl) rfl
set_option maxRecDepth 100000 in
theorem kX8_220 : Cond.constantLong RX8 220 (99) ∈ zAL := zAL_of 983 (by rfl) rfl
set_option maxRecDepth 100000 in
theorem kX8_225 : Cond.constantLong RX8 225 (-1) ∈ zAL := zAL_of 1007 (by rfl) rfl
set_option maxRecDepth 100000 in
theorem kX8_227 : Cond.constantLong RX8 227 (3) ∈ zAL := zAL_of 1008 (by rfl) rfl
set_option maxRecDepth 100000 in
theorem kX8_232 : Cond.constantLong RX8 232 (10) ∈ zAL := zAL_of 1020 (by rfl) rfl
set_option maxRecDepth 100000 in
theorem kX8_258 : Cond.constantLong RX8 258 (9999) ∈ zAL := zAL_of 1067 (by rfl) rfl
set_option maxRecDepth 100000 in
theorem kJ6_265 : Cond.constant RJ6 265 (1431655765) ∈ zAL := zAL_of 583 (by rfl) rfl
set_option maxRecDepth 100000 in
theorem kJ6_266 : Cond.constant RJ6 266 (858993459) ∈ zAL := zAL_of 584 (by rfl) rfl
set_option maxRecDepth 100000 in
theorem kJ6_267 : Cond.constant RJ6 267 (252645135) ∈ zAL := zAL_of 585 (by rfl) rfl
set_option maxRecDepth 100000 in
theorem kL_13 : Cond.constantLong RL 13 (4294967295) ∈ zAL := zAL_of 1080 (by rfl) rfl
theorem pX0_3 : zFp 0 3 .int := ⟨RX0, TX0, 4, tyX0, rfl, rfl, tyX0_ok, nmX0, by decide +kernel⟩
theorem pX1_6 : zFp 1 6 (.object "QueueTurns$Plan") := ⟨RX1, TX1, 16, tyX1, rfl, rfl, tyX1_ok, nmX1, by decide +kernel⟩
theorem pX1_7 : zFp 1 7 .int := ⟨RX1, TX1, 16, tyX1, rfl, rfl, tyX1_ok, nmX1, by decide +kernel⟩
theorem pX1_8 : zFp 1 8 .int := ⟨RX1, TX1, 16, tyX1, rfl, rfl, tyX1_ok, nmX1, by decide +kernel⟩
theorem pX1_9 : zFp 1 9 .int := ⟨RX1, TX1, 16, tyX1, rfl, rfl, tyX1_ok, nmX1, by decide +kernel⟩
theorem pX1_10 : zFp 1 10 .int := ⟨RX1, TX1, 16, tyX1, rfl, rfl, tyX1_ok, nmX1, by decide +kernel⟩
theorem pX1_11 : zFp 1 11 .int := ⟨RX1, TX1, 16, tyX1, rfl, rfl, tyX1_ok, nmX1, by decide +kernel⟩
theorem pX1_12 : zFp 1 12 .int := ⟨RX1, TX1, 16, tyX1, rfl, rfl, tyX1_ok, nmX1, by decide +kernel⟩
theorem pX1_13 : zFp 1 13 .int := ⟨RX1, TX1, 16, tyX1, rfl, rfl, tyX1_ok, nmX1, by decide +kernel⟩
theorem pX1_14 : zFp 1 14 .int := ⟨RX1, TX1, 16, tyX1, rfl, rfl, tyX1_ok, nmX1, by decide +kernel⟩
theorem pX1_15 : zFp 1 15 .int := ⟨RX1, TX1, 16, tyX1, rfl, rfl, tyX1_ok, nmX1, by decide +kernel⟩
theorem pX2_2 : zFp 2 2 .int := ⟨RX2, TX2, 6, tyX2, rfl, rfl, tyX2_ok, nmX2, by decide +kernel⟩
theorem pX2_3 : zFp 2 3 .int := ⟨RX2, TX2, 6, tyX2, rfl, rfl, tyX2_ok, nmX2, by decide +kernel⟩
theorem pX2_4 : zFp 2 4 .int := ⟨RX2, TX2, 6, tyX2, rfl, rfl, tyX2_ok, nmX2, by decide +kernel⟩
theorem pX2_5 : zFp 2 5 .int := ⟨RX2, TX2, 6, tyX2, rfl, rfl, tyX2_ok, nmX2, by decide +kernel⟩
theorem pX4_5 : zFp 4 5 .int := ⟨RX4, TX4, 11, tyX4, rfl, rfl, tyX4_ok, nmX4, by decide +kernel⟩
theorem pX4_6 : zFp 4 6 .int := ⟨RX4, TX4, 11, tyX4, rfl, rfl, tyX4_ok, nmX4, by decide +kernel⟩
theorem pX4_7 : zFp 4 7 .int := ⟨RX4, TX4, 11, tyX4, rfl, rfl, tyX4_ok, nmX4, by decide +kernel⟩
theorem pX4_8 : zFp 4 8 .int := ⟨RX4, TX4, 11, tyX4, rfl, rfl, tyX4_ok, nmX4, by decide +kernel⟩
theorem pX4_9 : zFp 4 9 .int := ⟨RX4, TX4, 11, tyX4, rfl, rfl, tyX4_ok, nmX4, by decide +kernel⟩
theorem pX4_10 : zFp 4 10 .int := ⟨RX4, TX4, 11, tyX4, rfl, rfl, tyX4_ok, nmX4, by decide +kernel⟩
theorem pX5_3 : zFp 5 3 .int := ⟨RX5, TX5, 8, tyX5, rfl, rfl, tyX5_ok, nmX5, by decide +kernel⟩
theorem pX5_4 : zFp 5 4 .int := ⟨RX5, TX5, 8, tyX5, rfl, rfl, tyX5_ok, nmX5, by decide +kernel⟩
theorem pX5_5 : zFp 5 5 .int := ⟨RX5, TX5, 8, tyX5, rfl, rfl, tyX5_ok, nmX5, by decide +kernel⟩
theorem pX5_6 : zFp 5 6 .int := ⟨RX5, TX5, 8, tyX5, rfl, rfl, tyX5_ok, nmX5, by decide +kernel⟩
theorem pX5_7 : zFp 5 7 .int := ⟨RX5, TX5, 8, tyX5, rfl, rfl, tyX5_ok, nmX5, by decide +kernel⟩
theorem pX6_2 : zFp 6 2 .int := ⟨RX6, TX6, 4, tyX6, rfl, rfl, tyX6_ok, nmX6, by decide +kernel⟩
theorem pX6_3 : zFp 6 3 .int := ⟨RX6, TX6, 4, tyX6, rfl, rfl, tyX6_ok, nmX6, by decide +kernel⟩
theorem pX7_6 : zFp 7 6 .int := ⟨RX7, TX7, 10, tyX7, rfl, rfl, tyX7_ok, nmX7, by decide +kernel⟩
theorem pX7_7 : zFp 7 7 (.object "QueueTurns$Plan") := ⟨RX7, TX7, 10, tyX7, rfl, rfl, tyX7_ok, nmX7, by decide +kernel⟩
theorem pX7_8 : zFp 7 8 (.object "QueueTurns$Plan") := ⟨RX7, TX7, 10, tyX7, rfl, rfl, tyX7_ok, nmX7, by decide +kernel⟩
theorem pX7_9 : zFp 7 9 .int := ⟨RX7, TX7, 10, tyX7, rfl, rfl, tyX7_ok, nmX7, by decide +kernel⟩
theorem pX8_0 : zFp 8 0 .int := ⟨RX8, TX8, 35, tyX8, rfl, rfl, tyX8_ok, nmX8, by decide +kernel⟩
theorem pX8_14 : zFp 8 14 .int := ⟨RX8, TX8, 35, tyX8, rfl, rfl, tyX8_ok, nmX8, by decide +kernel⟩
theorem pX8_15 : zFp 8 15 .int := ⟨RX8, TX8, 35, tyX8, rfl, rfl, tyX8_ok, nmX8, by decide +kernel⟩
theorem pX8_18 : zFp 8 18 .int := ⟨RX8, TX8, 35, tyX8, rfl, rfl, tyX8_ok, nmX8, by decide +kernel⟩
theorem pX8_20 : zFp 8 20 .int := ⟨RX8, TX8, 35, tyX8, rfl, rfl, tyX8_ok, nmX8, by decide +kernel⟩
theorem pX8_21 : zFp 8 21 .int := ⟨RX8, TX8, 35, tyX8, rfl, rfl, tyX8_ok, nmX8, by decide +kernel⟩
theorem pX8_22 : zFp 8 22 .int := ⟨RX8, TX8, 35, tyX8, rfl, rfl, tyX8_ok, nmX8, by decide +kernel⟩
theorem pX8_23 : zFp 8 23 .int := ⟨RX8, TX8, 35, tyX8, rfl, rfl, tyX8_ok, nmX8, by decide +kernel⟩
theorem pX8_24 : zFp 8 24 .int := ⟨RX8, TX8, 35, tyX8, rfl, rfl, tyX8_ok, nmX8, by decide +kernel⟩
theorem pX8_25 : zFp 8 25 .int := ⟨RX8, TX8, 35, tyX8, rfl, rfl, tyX8_ok, nmX8, by decide +kernel⟩
theorem pX8_26 : zFp 8 26 .int := ⟨RX8, TX8, 35, tyX8, rfl, rfl, tyX8_ok, nmX8, by decide +kernel⟩
theorem pX8_28 : zFp 8 28 .int := ⟨RX8, TX8, 35, tyX8, rfl, rfl, tyX8_ok, nmX8, by decide +kernel⟩
theorem pX8_31 : zFp 8 31 .int := ⟨RX8, TX8, 35, tyX8, rfl, rfl, tyX8_ok, nmX8, by decide +kernel⟩
abbrev mX0_init : zQ6 := (yX0_init, cX0_init, 1, none, 1)
abbrev mX0_add : zQ6 := (yX0_add, cX0_add, 3, some .boolean, 0)
abbrev mX0_dropLast : zQ6 := (yX0_dropLast, cX0_dropLast, 1, none, 0)
abbrev mX0_clear : zQ6 := (yX0_clear, cX0_clear, 2, none, 1)
abbrev mX0_copyFrom : zQ6 := (yX0_copyFrom, cX0_copyFrom, 3, none, 2)
abbrev mX1_init : zQ6 := (yX1_init, cX1_init, 1, none, 4)
abbrev mX1_asTold : zQ6 := (yX1_asTold, cX1_asTold, 3, none, 0)
abbrev mX1_addExtra : zQ6 := (yX1_addExtra, cX1_addExtra, 4, none, 1)
abbrev mX1_runTo : zQ6 := (yX1_runTo, cX1_runTo, 3, none, 2)
abbrev mX1_begin : zQ6 := (yX1_begin, cX1_begin, 2, none, 0)
abbrev mX1_letGoAway : zQ6 := (yX1_letGoAway, cX1_letGoAway, 5, none, 1)
abbrev mX1_isToldCry : zQ6 := (yX1_isToldCry, cX1_isToldCry, 4, some .boolean, 0)
abbrev mX1_isExtraCry : zQ6 := (yX1_isExtraCry, cX1_isExtraCry, 3, some .boolean, 0)
abbrev mX1_isDrawnCry : zQ6 := (yX1_isDrawnCry, cX1_isDrawnCry, 4, some .boolean, 1)
abbrev mX1_isDrawn : zQ6 := (yX1_isDrawn, cX1_isDrawn, 5, some .boolean, 0)
abbrev mX1_turn : zQ6 := (yX1_turn, cX1_turn, 5, none, 0)
abbrev mX1_letCome : zQ6 := (yX1_letCome, cX1_letCome, 2, none, 1)
abbrev mX1_join : zQ6 := (yX1_join, cX1_join, 4, none, 0)
abbrev mX1_serve : zQ6 := (yX1_serve, cX1_serve, 4, none, 1)
abbrev mX1_sendHome : zQ6 := (yX1_sendHome, cX1_sendHome, 3, none, 1)
abbrev mX1_end : zQ6 := (yX1_end, cX1_end, 4, none, 0)
abbrev mX1_placeOf : zQ6 := (yX1_placeOf, cX1_placeOf, 3, some .int, 0)
abbrev mX1_manyOf : zQ6 := (yX1_manyOf, cX1_manyOf, 4, some .int, 0)
abbrev mX1_timeOf : zQ6 := (yX1_timeOf, cX1_timeOf, 2, some .int, 0)
abbrev mX1_unfair : zQ6 := (yX1_unfair, cX1_unfair, 6, some .int, 0)
abbrev mX2_init : zQ6 := (yX2_init, cX2_init, 1, none, 1)
abbrev mX2_manyIn : zQ6 := (yX2_manyIn, cX2_manyIn, 2, some .int, 0)
abbrev mX2_isIn : zQ6 := (yX2_isIn, cX2_isIn, 4, some .boolean, 1)
abbrev mX2_add : zQ6 := (yX2_add, cX2_add, 3, none, 0)
abbrev mX2_forget : zQ6 := (yX2_forget, cX2_forget, 1, none, 0)
abbrev mX2_findTurns : zQ6 := (yX2_findTurns, cX2_findTurns, 3, none, 1)
abbrev mX2_isFitting : zQ6 := (yX2_isFitting, cX2_isFitting, 7, some .boolean, 0)
abbrev mX3_init : zQ6 := (yX3_init, cX3_init, 1, none, 1)
abbrev mX3_findChances : zQ6 := (yX3_findChances, cX3_findChances, 9, none, 0)
abbrev mX3_meanAbove : zQ6 := (yX3_meanAbove, cX3_meanAbove, 7, some .long, 1)
abbrev mX3_chanceAbove : zQ6 := (yX3_chanceAbove, cX3_chanceAbove, 8, some .long, 1)
abbrev mX3_lowest : zQ6 := (yX3_lowest, cX3_lowest, 11, some .long, 0)
abbrev mX3_bestPlace : zQ6 := (yX3_bestPlace, cX3_bestPlace, 9, some .int, 2)
abbrev mX3_bestEnd : zQ6 := (yX3_bestEnd, cX3_bestEnd, 3, some .int, 2)
abbrev mX4_init : zQ6 := (yX4_init, cX4_init, 1, none, 3)
abbrev mX4_clear : zQ6 := (yX4_clear, cX4_clear, 1, none, 2)
abbrev mX4_isTold : zQ6 := (yX4_isTold, cX4_isTold, 2, some .boolean, 0)
abbrev mX4_hasChild : zQ6 := (yX4_hasChild, cX4_hasChild, 2, some .boolean, 1)
abbrev mX4_take : zQ6 := (yX4_take, cX4_take, 5, some .boolean, 2)
abbrev mX4_addPerson : zQ6 := (yX4_addPerson, cX4_addPerson, 5, some .boolean, 0)
abbrev mX4_addCry : zQ6 := (yX4_addCry, cX4_addCry, 3, some .boolean, 1)
abbrev mX4_setService : zQ6 := (yX4_setService, cX4_setService, 3, some .boolean, 0)
abbrev mX5_init : zQ6 := (yX5_init, cX5_init, 1, none, 5)
abbrev mX5_timeWithout : zQ6 := (yX5_timeWithout, cX5_timeWithout, 4, some .int, 3)
abbrev mX5_gainedBy : zQ6 := (yX5_gainedBy, cX5_gainedBy, 4, some .int, 4)
abbrev mX5_mostGained : zQ6 := (yX5_mostGained, cX5_mostGained, 6, some .int, 5)
abbrev mX5_fewestHushed : zQ6 := (yX5_fewestHushed, cX5_fewestHushed, 7, some .int, 4)
abbrev mX5_isServedBy : zQ6 := (yX5_isServedBy, cX5_isServedBy, 5, some .boolean, 3)
abbrev mX5_cryOnceMore : zQ6 := (yX5_cryOnceMore, cX5_cryOnceMore, 6, none, 4)
abbrev mX5_play : zQ6 := (yX5_play, cX5_play, 6, none, 3)
abbrev mX5_isRest : zQ6 := (yX5_isRest, cX5_isRest, 6, some .boolean, 0)
abbrev mX5_unfairBy : zQ6 := (yX5_unfairBy, cX5_unfairBy, 3, some .int, 3)
abbrev mX5_bestLaw : zQ6 := (yX5_bestLaw, cX5_bestLaw, 6, some .int, 4)
abbrev mX6_init : zQ6 := (yX6_init, cX6_init, 1, none, 1)
abbrev mX6_append : zQ6 := (yX6_append, cX6_append, 2, none, 0)
abbrev mX6_readInto : zQ6 := (yX6_readInto, cX6_readInto, 4, some .int, 4)
abbrev mX6_readItem : zQ6 := (yX6_readItem, cX6_readItem, 4, some .boolean, 3)
abbrev mX6_numbersOf : zQ6 := (yX6_numbersOf, cX6_numbersOf, 1, some .int, 0)
abbrev mX6_readNumbers : zQ6 := (yX6_readNumbers, cX6_readNumbers, 3, some .boolean, 2)
abbrev mX6_readNumber : zQ6 := (yX6_readNumber, cX6_readNumber, 3, some .int, 1)
abbrev mX6_figureAt : zQ6 := (yX6_figureAt, cX6_figureAt, 1, some .int, 0)
abbrev mX6_nextByte : zQ6 := (yX6_nextByte, cX6_nextByte, 2, some .int, 0)
abbrev mX7_init : zQ6 := (yX7_init, cX7_init, 1, none, 6)
abbrev mX7_write : zQ6 := (yX7_write, cX7_write, 5, some .int, 1)
abbrev mX7_wipe : zQ6 := (yX7_wipe, cX7_wipe, 2, some .int, 0)
abbrev mX7_fault : zQ6 := (yX7_fault, cX7_fault, 1, some .int, 5)
abbrev mX7_lay : zQ6 := (yX7_lay, cX7_lay, 2, some .int, 5)
abbrev mX7_person : zQ6 := (yX7_person, cX7_person, 3, some .int, 4)
abbrev mX7_place : zQ6 := (yX7_place, cX7_place, 3, some .int, 3)
abbrev mX7_row : zQ6 := (yX7_row, cX7_row, 2, some .int, 3)
abbrev mX7_all : zQ6 := (yX7_all, cX7_all, 2, some .int, 4)
abbrev mX7_cry : zQ6 := (yX7_cry, cX7_cry, 3, some .int, 5)
abbrev mX7_suspect : zQ6 := (yX7_suspect, cX7_suspect, 1, some .int, 6)
abbrev mX7_tell : zQ6 := (yX7_tell, cX7_tell, 3, some .int, 2)
abbrev mX7_takeBack : zQ6 := (yX7_takeBack, cX7_takeBack, 1, some .int, 1)
abbrev mX7_hush : zQ6 := (yX7_hush, cX7_hush, 3, some .int, 5)
abbrev mX7_again : zQ6 := (yX7_again, cX7_again, 3, some .int, 5)
abbrev mX7_game : zQ6 := (yX7_game, cX7_game, 4, some .int, 4)
abbrev mX7_laws : zQ6 := (yX7_laws, cX7_laws, 2, some .int, 5)
abbrev mX7_mean : zQ6 := (yX7_mean, cX7_mean, 5, some .long, 2)
abbrev mX7_by : zQ6 := (yX7_by, cX7_by, 6, some .long, 2)
abbrev mX7_best : zQ6 := (yX7_best, cX7_best, 4, some .int, 3)
abbrev mX7_name : zQ6 := (yX7_name, cX7_name, 3, some .int, 2)
abbrev mX7_noNames : zQ6 := (yX7_noNames, cX7_noNames, 2, some .int, 1)
abbrev mX7_fits : zQ6 := (yX7_fits, cX7_fits, 2, some .int, 2)
abbrev mX7_drawn : zQ6 := (yX7_drawn, cX7_drawn, 3, some .int, 3)
abbrev mX7_keep : zQ6 := (yX7_keep, cX7_keep, 1, some .int, 3)
abbrev mX7_back : zQ6 := (yX7_back, cX7_back, 1, some .int, 3)
abbrev mX7_count : zQ6 := (yX7_count, cX7_count, 2, some .int, 0)
abbrev mX7_isPerson : zQ6 := (yX7_isPerson, cX7_isPerson, 2, some .boolean, 1)
abbrev mX7_isMinute : zQ6 := (yX7_isMinute, cX7_isMinute, 1, some .boolean, 0)
abbrev mX7_areOdds : zQ6 := (yX7_areOdds, cX7_areOdds, 2, some .boolean, 0)
abbrev mX7_runAsTold : zQ6 := (yX7_runAsTold, cX7_runAsTold, 1, none, 3)
abbrev mX8_init : zQ6 := (yX8_init, cX8_init, 2, none, 1)
abbrev mX8_in : zQ6 := (yX8_in, cX8_in, 6, some .boolean, 0)
abbrev mX8_has : zQ6 := (yX8_has, cX8_has, 2, some .boolean, 0)
abbrev mX8_noMorning : zQ6 := (yX8_noMorning, cX8_noMorning, 2, none, 0)
abbrev mX8_write : zQ6 := (yX8_write, cX8_write, 5, some .int, 1)
abbrev mX8_wipe : zQ6 := (yX8_wipe, cX8_wipe, 2, some .int, 0)
abbrev mX8_byteAt : zQ6 := (yX8_byteAt, cX8_byteAt, 2, some .int, 0)
abbrev mX8_figures : zQ6 := (yX8_figures, cX8_figures, 5, some .boolean, 1)
abbrev mX8_item : zQ6 := (yX8_item, cX8_item, 2, some .boolean, 2)
abbrev mX8_readAll : zQ6 := (yX8_readAll, cX8_readAll, 2, some .int, 3)
abbrev mX8_fault : zQ6 := (yX8_fault, cX8_fault, 1, some .int, 4)
abbrev mX8_copyCries : zQ6 := (yX8_copyCries, cX8_copyCries, 4, none, 0)
abbrev mX8_lay : zQ6 := (yX8_lay, cX8_lay, 2, some .int, 4)
abbrev mX8_isPerson : zQ6 := (yX8_isPerson, cX8_isPerson, 2, some .boolean, 1)
abbrev mX8_asItIs : zQ6 := (yX8_asItIs, cX8_asItIs, 1, none, 0)
abbrev mX8_isInLine : zQ6 := (yX8_isInLine, cX8_isInLine, 4, some .boolean, 0)
abbrev mX8_takeOut : zQ6 := (yX8_takeOut, cX8_takeOut, 3, none, 0)
abbrev mX8_putIn : zQ6 := (yX8_putIn, cX8_putIn, 4, none, 0)
abbrev mX8_doesCry : zQ6 := (yX8_doesCry, cX8_doesCry, 7, some .boolean, 1)
abbrev mX8_turnLine : zQ6 := (yX8_turnLine, cX8_turnLine, 4, none, 0)
abbrev mX8_end : zQ6 := (yX8_end, cX8_end, 4, none, 0)
abbrev mX8_go : zQ6 := (yX8_go, cX8_go, 6, none, 2)
abbrev mX8_goAsItIs : zQ6 := (yX8_goAsItIs, cX8_goAsItIs, 1, none, 3)
abbrev mX8_timeOf : zQ6 := (yX8_timeOf, cX8_timeOf, 2, some .int, 0)
abbrev mX8_unfair : zQ6 := (yX8_unfair, cX8_unfair, 5, some .int, 0)
abbrev mX8_howMany : zQ6 := (yX8_howMany, cX8_howMany, 4, some .int, 0)
abbrev mX8_person : zQ6 := (yX8_person, cX8_person, 3, some .int, 4)
abbrev mX8_place : zQ6 := (yX8_place, cX8_place, 4, some .int, 3)
abbrev mX8_row : zQ6 := (yX8_row, cX8_row, 2, some .int, 3)
abbrev mX8_all : zQ6 := (yX8_all, cX8_all, 2, some .int, 4)
abbrev mX8_gainedOf : zQ6 := (yX8_gainedOf, cX8_gainedOf, 3, some .int, 4)
abbrev mX8_cry : zQ6 := (yX8_cry, cX8_cry, 3, some .int, 5)
abbrev mX8_suspect : zQ6 := (yX8_suspect, cX8_suspect, 5, some .int, 5)
abbrev mX8_tell : zQ6 := (yX8_tell, cX8_tell, 3, some .int, 2)
abbrev mX8_takeBack : zQ6 := (yX8_takeBack, cX8_takeBack, 1, some .int, 0)
abbrev mX8_ones : zQ6 := (yX8_ones, cX8_ones, 3, some .int, 0)
abbrev mX8_hush : zQ6 := (yX8_hush, cX8_hush, 6, some .int, 3)
abbrev mX8_again : zQ6 := (yX8_again, cX8_again, 7, some .int, 4)
abbrev mX8_game : zQ6 := (yX8_game, cX8_game, 9, some .int, 3)
abbrev mX8_unfairBy : zQ6 := (yX8_unfairBy, cX8_unfairBy, 2, some .int, 3)
abbrev mX8_laws : zQ6 := (yX8_laws, cX8_laws, 6, some .int, 4)
abbrev mX8_tens : zQ6 := (yX8_tens, cX8_tens, 4, some .long, 0)
abbrev mX8_behindOf : zQ6 := (yX8_behindOf, cX8_behindOf, 4, some .long, 1)
abbrev mX8_layMeans : zQ6 := (yX8_layMeans, cX8_layMeans, 5, none, 2)
abbrev mX8_layBy : zQ6 := (yX8_layBy, cX8_layBy, 7, none, 2)
abbrev mX8_lowest : zQ6 := (yX8_lowest, cX8_lowest, 11, some .long, 0)
abbrev mX8_areOf : zQ6 := (yX8_areOf, cX8_areOf, 2, some .boolean, 1)
abbrev mX8_mean : zQ6 := (yX8_mean, cX8_mean, 5, some .long, 3)
abbrev mX8_by : zQ6 := (yX8_by, cX8_by, 6, some .long, 3)
abbrev mX8_best : zQ6 := (yX8_best, cX8_best, 6, some .int, 3)
abbrev mX8_name : zQ6 := (yX8_name, cX8_name, 4, some .int, 1)
abbrev mX8_noNames : zQ6 := (yX8_noNames, cX8_noNames, 2, some .int, 0)
abbrev mX8_isFit : zQ6 := (yX8_isFit, cX8_isFit, 9, some .boolean, 1)
abbrev mX8_fits : zQ6 := (yX8_fits, cX8_fits, 6, some .int, 2)
abbrev mX8_drawn : zQ6 := (yX8_drawn, cX8_drawn, 3, some .int, 3)
abbrev mX8_keep : zQ6 := (yX8_keep, cX8_keep, 1, some .int, 1)
abbrev mX8_back : zQ6 := (yX8_back, cX8_back, 1, some .int, 1)
abbrev mX8_count : zQ6 := (yX8_count, cX8_count, 2, some .int, 0)
abbrev mJ6_bitCount_0f7a4 : zQ6 := (yJ6_bitCount_0f7a4, cJ6_bitCount_0f7a4, 1, some .int, 0)
abbrev mJ9_min_7cf53 : zQ6 := (yJ9_min_7cf53, cJ9_min_7cf53, 2, some .int, 0)
set_option maxRecDepth 100000 in
theorem lX0_25 : zMl RX0 25 mX0_dropLast 0 := ⟨zAL_of 123 (by rfl) rfl, zAL_of 33 (by rfl) rfl, zAL_of 126 (by rfl) rfl, ⟨by decide, by decide, by decide +kernel⟩, by decide⟩
set_option maxRecDepth 100000 in
theorem vX0_dropLast : zMv mX0_dropLast := ⟨zAL_of 124 (by rfl) rfl, zAL_of 125 (by rfl) rfl⟩
set_option maxRecDepth 100000 in
theorem lX0_28 : zMl RX0 28 mX0_clear 0 := ⟨zAL_of 717 (by rfl) rfl, zAL_of 33 (by rfl) rfl, zAL_of 122 (by rfl) rfl, ⟨by decide, by decide, by decide +kernel⟩, by decide⟩
set_option maxRecDepth 100000 in
theorem vX0_clear : zMv mX0_clear := ⟨zAL_of 120 (by rfl) rfl, zAL_of 121 (by rfl) rfl⟩
set_option maxRecDepth 100000 in
theorem lX0_31 : zMl RX0 31 mX0_add 2 := ⟨zAL_of 718 (by rfl) rfl, zAL_of 33 (by rfl) rfl, zAL_of 329 (by rfl) rfl, ⟨by decide, by decide, by decide +kernel⟩, by decide⟩
set_option maxRecDepth 100000 in
theorem vX0_add : zMv mX0_add := ⟨zAL_of 327 (by rfl) rfl, zAL_of 328 (by rfl) rfl⟩
set_option maxRecDepth 100000 in
theorem lX1_49 : zMl RX1 49 mX4_isTold 1 := ⟨zAL_of 602 (by rfl) rfl, zAL_of 32 (by rfl) rfl, zAL_of 417 (by rfl) rfl, ⟨by decide, by decide, by decide +kernel⟩, by decide⟩
set_option maxRecDepth 100000 in
theorem vX4_isTold : zMv mX4_isTold := ⟨zAL_of 415 (by rfl) rfl, zAL_of 416 (by rfl) rfl⟩
set_option maxRecDepth 100000 in
theorem lX1_53 : zMl RX1 53 mX1_begin 0 := ⟨zAL_of 452 (by rfl) rfl, zAL_of 31 (by rfl) rfl, zAL_of 455 (by rfl) rfl, ⟨by decide, by decide, by decide +kernel⟩, by decide⟩
set_option maxRecDepth 100000 in
theorem vX1_begin : zMv mX1_begin := ⟨zAL_of 453 (by rfl) rfl, zAL_of 454 (by rfl) rfl⟩
set_option maxRecDepth 100000 in
theorem lX1_62 : zMl RX1 62 mX1_letGoAway 1 := ⟨zAL_of 456 (by rfl) rfl, zAL_of 31 (by rfl) rfl, zAL_of 459 (by rfl) rfl, ⟨by decide, by decide, by decide +kernel⟩, by decide⟩
set_option maxRecDepth 100000 in
theorem vX1_letGoAway : zMv mX1_letGoAway := ⟨zAL_of 457 (by rfl) rfl, zAL_of 458 (by rfl) rfl⟩
set_option maxRecDepth 100000 in
theorem lX1_66 : zMl RX1 66 mX1_isDrawnCry 1 := ⟨zAL_of 464 (by rfl) rfl, zAL_of 31 (by rfl) rfl, zAL_of 467 (by rfl) rfl, ⟨by decide, by decide, by decide +kernel⟩, by decide⟩
set_option maxRecDepth 100000 in
theorem vX1_isDrawnCry : zMv mX1_isDrawnCry := ⟨zAL_of 465 (by rfl) rfl, zAL_of 466 (by rfl) rfl⟩
set_option maxRecDepth 100000 in
theorem lX1_69 : zMl RX1 69 mX1_isToldCry 1 := ⟨zAL_of 477 (by rfl) rfl, zAL_of 31 (by rfl) rfl, zAL_of 480 (by rfl) rfl, ⟨by decide, by decide, by decide +kernel⟩, by decide⟩
set_option maxRecDepth 100000 in
theorem vX1_isToldCry : zMv mX1_isToldCry := ⟨zAL_of 478 (by rfl) rfl, zAL_of 479 (by rfl) rfl⟩
set_option maxRecDepth 100000 in
theorem lX1_72 : zMl RX1 72 mX1_isExtraCry 1 := ⟨zAL_of 481 (by rfl) rfl, zAL_of 31 (by rfl) rfl, zAL_of 484 (by rfl) rfl, ⟨by decide, by decide, by decide +kernel⟩, by decide⟩
set_option maxRecDepth 100000 in
theorem vX1_isExtraCry : zMv mX1_isExtraCry := ⟨zAL_of 482 (by rfl) rfl, zAL_of 483 (by rfl) rfl⟩
set_option maxRecDepth 100000 in
theorem lX1_75 : zMl RX1 75 mX1_turn 1 := ⟨zAL_of 485 (by rfl) rfl, zAL_of 31 (by rfl) rfl, zAL_of 488 (by rfl) rfl, ⟨by decide, by decide, by decide +kernel⟩, by decide⟩
set_option maxRecDepth 100000 in
theorem vX1_turn : zMv mX1_turn := ⟨zAL_of 486 (by rfl) rfl, zAL_of 487 (by rfl) rfl⟩
set_option maxRecDepth 100000 in
theorem lX1_78 : zMl RX1 78 mX1_letCome 1 := ⟨zAL_of 489 (by rfl) rfl, zAL_of 31 (by rfl) rfl, zAL_of 492 (by rfl) rfl, ⟨by decide, by decide, by decide +kernel⟩, by decide⟩
set_option maxRecDepth 100000 in
theorem vX1_letCome : zMv mX1_letCome := ⟨zAL_of 490 (by rfl) rfl, zAL_of 491 (by rfl) rfl⟩
set_option maxRecDepth 100000 in
theorem lX1_84 : zMl RX1 84 mX1_serve 1 := ⟨zAL_of 497 (by rfl) rfl, zAL_of 31 (by rfl) rfl, zAL_of 500 (by rfl) rfl, ⟨by decide, by decide, by decide +kernel⟩, by decide⟩
set_option maxRecDepth 100000 in
theorem vX1_serve : zMv mX1_serve := ⟨zAL_of 498 (by rfl) rfl, zAL_of 499 (by rfl) rfl⟩
set_option maxRecDepth 100000 in
theorem lX1_90 : zMl RX1 90 mX1_sendHome 1 := ⟨zAL_of 504 (by rfl) rfl, zAL_of 31 (by rfl) rfl, zAL_of 507 (by rfl) rfl, ⟨by decide, by decide, by decide +kernel⟩, by decide⟩
set_option maxRecDepth 100000 in
theorem vX1_sendHome : zMv mX1_sendHome := ⟨zAL_of 505 (by rfl) rfl, zAL_of 506 (by rfl) rfl⟩
set_option maxRecDepth 100000 in
theorem lX1_112 : zMl RX1 112 mX1_end 3 := ⟨zAL_of 460 (by rfl) rfl, zAL_of 31 (by rfl) rfl, zAL_of 463 (by rfl) rfl, ⟨by decide, by decide, by decide +kernel⟩, by decide⟩
set_option maxRecDepth 100000 in
theorem vX1_end : zMv mX1_end := ⟨zAL_of 461 (by rfl) rfl, zAL_of 462 (by rfl) rfl⟩
set_option maxRecDepth 100000 in
theorem lX1_132 : zMl RX1 132 mX1_isDrawn 2 := ⟨zAL_of 468 (by rfl) rfl, zAL_of 31 (by rfl) rfl, zAL_of 471 (by rfl) rfl, ⟨by decide, by decide, by decide +kernel⟩, by decide⟩
set_option maxRecDepth 100000 in
theorem vX1_isDrawn : zMv mX1_isDrawn := ⟨zAL_of 469 (by rfl) rfl, zAL_of 470 (by rfl) rfl⟩
set_option maxRecDepth 100000 in
theorem lX1_152 : zMl RX1 152 mX1_join 1 := ⟨zAL_of 493 (by rfl) rfl, zAL_of 31 (by rfl) rfl, zAL_of 496 (by rfl) rfl, ⟨by decide, by decide, by decide +kernel⟩, by decide⟩
set_option maxRecDepth 100000 in
theorem vX1_join : zMv mX1_join := ⟨zAL_of 494 (by rfl) rfl, zAL_of 495 (by rfl) rfl⟩
set_option maxRecDepth 100000 in
theorem lX2_25 : zMl RX2 25 mX2_manyIn 1 := ⟨zAL_of 680 (by rfl) rfl, zAL_of 35 (by rfl) rfl, zAL_of 683 (by rfl) rfl, ⟨by decide, by decide, by decide +kernel⟩, by decide⟩
set_option maxRecDepth 100000 in
theorem vX2_manyIn : zMv mX2_manyIn := ⟨zAL_of 681 (by rfl) rfl, zAL_of 682 (by rfl) rfl⟩
set_option maxRecDepth 100000 in
theorem lX2_35 : zMl RX2 35 mX2_isFitting 1 := ⟨zAL_of 701 (by rfl) rfl, zAL_of 35 (by rfl) rfl, zAL_of 704 (by rfl) rfl, ⟨by decide, by decide, by decide +kernel⟩, by decide⟩
set_option maxRecDepth 100000 in
theorem vX2_isFitting : zMv mX2_isFitting := ⟨zAL_of 702 (by rfl) rfl, zAL_of 703 (by rfl) rfl⟩
set_option maxRecDepth 100000 in
theorem lX3_25 : zMl RX3 25 mX3_findChances 3 := ⟨zAL_of 641 (by rfl) rfl, zAL_of 34 (by rfl) rfl, zAL_of 644 (by rfl) rfl, ⟨by decide, by decide, by decide +kernel⟩, by decide⟩
set_option maxRecDepth 100000 in
theorem vX3_findChances : zMv mX3_findChances := ⟨zAL_of 642 (by rfl) rfl, zAL_of 643 (by rfl) rfl⟩
set_option maxRecDepth 100000 in
theorem lX3_29 : zMl RX3 29 mX3_meanAbove 3 := ⟨zAL_of 667 (by rfl) rfl, zAL_of 34 (by rfl) rfl, zAL_of 640 (by rfl) rfl, ⟨by decide, by decide, by decide +kernel⟩, by decide⟩
set_option maxRecDepth 100000 in
theorem vX3_meanAbove : zMv mX3_meanAbove := ⟨zAL_of 638 (by rfl) rfl, zAL_of 639 (by rfl) rfl⟩
set_option maxRecDepth 100000 in
theorem lX4_31 : zMl RX4 31 mX4_clear 0 := ⟨zAL_of 115 (by rfl) rfl, zAL_of 32 (by rfl) rfl, zAL_of 118 (by rfl) rfl, ⟨by decide, by decide, by decide +kernel⟩, by decide⟩
set_option maxRecDepth 100000 in
theorem vX4_clear : zMv mX4_clear := ⟨zAL_of 116 (by rfl) rfl, zAL_of 117 (by rfl) rfl⟩
set_option maxRecDepth 100000 in
theorem lX4_38 : zMl RX4 38 mX0_clear 0 := ⟨zAL_of 119 (by rfl) rfl, zAL_of 33 (by rfl) rfl, zAL_of 122 (by rfl) rfl, ⟨by decide, by decide, by decide +kernel⟩, by decide⟩
set_option maxRecDepth 100000 in
theorem lX4_54 : zMl RX4 54 mX4_isTold 1 := ⟨zAL_of 414 (by rfl) rfl, zAL_of 32 (by rfl) rfl, zAL_of 417 (by rfl) rfl, ⟨by decide, by decide, by decide +kernel⟩, by decide⟩
set_option maxRecDepth 100000 in
theorem lX4_58 : zMl RX4 58 mX4_addPerson 3 := ⟨zAL_of 409 (by rfl) rfl, zAL_of 32 (by rfl) rfl, zAL_of 321 (by rfl) rfl, ⟨by decide, by decide, by decide +kernel⟩, by decide⟩
set_option maxRecDepth 100000 in
theorem vX4_addPerson : zMv mX4_addPerson := ⟨zAL_of 319 (by rfl) rfl, zAL_of 320 (by rfl) rfl⟩
set_option maxRecDepth 100000 in
theorem lX4_62 : zMl RX4 62 mX4_hasChild 1 := ⟨zAL_of 410 (by rfl) rfl, zAL_of 32 (by rfl) rfl, zAL_of 413 (by rfl) rfl, ⟨by decide, by decide, by decide +kernel⟩, by decide⟩
set_option maxRecDepth 100000 in
theorem vX4_hasChild : zMv mX4_hasChild := ⟨zAL_of 411 (by rfl) rfl, zAL_of 412 (by rfl) rfl⟩
set_option maxRecDepth 100000 in
theorem lX4_65 : zMl RX4 65 mX4_addCry 2 := ⟨zAL_of 418 (by rfl) rfl, zAL_of 32 (by rfl) rfl, zAL_of 325 (by rfl) rfl, ⟨by decide, by decide, by decide +kernel⟩, by decide⟩
set_option maxRecDepth 100000 in
theorem vX4_addCry : zMv mX4_addCry := ⟨zAL_of 323 (by rfl) rfl, zAL_of 324 (by rfl) rfl⟩
set_option maxRecDepth 100000 in
theorem lX4_69 : zMl RX4 69 mX4_setService 2 := ⟨zAL_of 419 (by rfl) rfl, zAL_of 32 (by rfl) rfl, zAL_of 422 (by rfl) rfl, ⟨by decide, by decide, by decide +kernel⟩, by decide⟩
set_option maxRecDepth 100000 in
theorem vX4_setService : zMv mX4_setService := ⟨zAL_of 420 (by rfl) rfl, zAL_of 421 (by rfl) rfl⟩
set_option maxRecDepth 100000 in
theorem lX4_72 : zMl RX4 72 mX0_add 2 := ⟨zAL_of 326 (by rfl) rfl, zAL_of 33 (by rfl) rfl, zAL_of 329 (by rfl) rfl, ⟨by decide, by decide, by decide +kernel⟩, by decide⟩
set_option maxRecDepth 100000 in
theorem lX5_25 : zMl RX5 25 mX1_asTold 1 := ⟨zAL_of 547 (by rfl) rfl, zAL_of 31 (by rfl) rfl, zAL_of 447 (by rfl) rfl, ⟨by decide, by decide, by decide +kernel⟩, by decide⟩
set_option maxRecDepth 100000 in
theorem vX1_asTold : zMv mX1_asTold := ⟨zAL_of 445 (by rfl) rfl, zAL_of 446 (by rfl) rfl⟩
set_option maxRecDepth 100000 in
theorem lX5_33 : zMl RX5 33 mX1_runTo 1 := ⟨zAL_of 548 (by rfl) rfl, zAL_of 31 (by rfl) rfl, zAL_of 451 (by rfl) rfl, ⟨by decide, by decide, by decide +kernel⟩, by decide⟩
set_option maxRecDepth 100000 in
theorem vX1_runTo : zMv mX1_runTo := ⟨zAL_of 449 (by rfl) rfl, zAL_of 450 (by rfl) rfl⟩
set_option maxRecDepth 100000 in
theorem lX5_37 : zMl RX5 37 mX1_timeOf 1 := ⟨zAL_of 549 (by rfl) rfl, zAL_of 31 (by rfl) rfl, zAL_of 552 (by rfl) rfl, ⟨by decide, by decide, by decide +kernel⟩, by decide⟩
set_option maxRecDepth 100000 in
theorem vX1_timeOf : zMv mX1_timeOf := ⟨zAL_of 550 (by rfl) rfl, zAL_of 551 (by rfl) rfl⟩
set_option maxRecDepth 100000 in
theorem lX5_52 : zMl RX5 52 mX5_timeWithout 3 := ⟨zAL_of 543 (by rfl) rfl, zAL_of 30 (by rfl) rfl, zAL_of 546 (by rfl) rfl, ⟨by decide, by decide, by decide +kernel⟩, by decide⟩
set_option maxRecDepth 100000 in
theorem vX5_timeWithout : zMv mX5_timeWithout := ⟨zAL_of 544 (by rfl) rfl, zAL_of 545 (by rfl) rfl⟩
set_option maxRecDepth 100000 in
theorem lX5_59 : zMl RX5 59 mX5_gainedBy 2 := ⟨zAL_of 561 (by rfl) rfl, zAL_of 30 (by rfl) rfl, zAL_of 542 (by rfl) rfl, ⟨by decide, by decide, by decide +kernel⟩, by decide⟩
set_option maxRecDepth 100000 in
theorem vX5_gainedBy : zMv mX5_gainedBy := ⟨zAL_of 540 (by rfl) rfl, zAL_of 541 (by rfl) rfl⟩
set_option maxRecDepth 100000 in
theorem lX5_63 : zMl RX5 63 mJ6_bitCount_0f7a4 1 := ⟨zAL_of 580 (by rfl) rfl, zAL_of 38 (by rfl) rfl, zAL_of 582 (by rfl) rfl, ⟨by decide, by decide, by decide +kernel⟩, by decide⟩
set_option maxRecDepth 100000 in
theorem vJ6_bitCount_0f7a4 : Cond.static mJ6_bitCount_0f7a4.1 ∈ zAL := zAL_of 581 (by rfl) rfl
set_option maxRecDepth 100000 in
theorem lX5_68 : zMl RX5 68 mX5_isServedBy 4 := ⟨zAL_of 586 (by rfl) rfl, zAL_of 30 (by rfl) rfl, zAL_of 589 (by rfl) rfl, ⟨by decide, by decide, by decide +kernel⟩, by decide⟩
set_option maxRecDepth 100000 in
theorem vX5_isServedBy : zMv mX5_isServedBy := ⟨zAL_of 587 (by rfl) rfl, zAL_of 588 (by rfl) rfl⟩
set_option maxRecDepth 100000 in
theorem lX5_78 : zMl RX5 78 mX1_addExtra 3 := ⟨zAL_of 598 (by rfl) rfl, zAL_of 31 (by rfl) rfl, zAL_of 601 (by rfl) rfl, ⟨by decide, by decide, by decide +kernel⟩, by decide⟩
set_option maxRecDepth 100000 in
theorem vX1_addExtra : zMv mX1_addExtra := ⟨zAL_of 599 (by rfl) rfl, zAL_of 600 (by rfl) rfl⟩
set_option maxRecDepth 100000 in
theorem lX5_88 : zMl RX5 88 mX5_isRest 2 := ⟨zAL_of 611 (by rfl) rfl, zAL_of 30 (by rfl) rfl, zAL_of 614 (by rfl) rfl, ⟨by decide, by decide, by decide +kernel⟩, by decide⟩
set_option maxRecDepth 100000 in
theorem vX5_isRest : zMv mX5_isRest := ⟨zAL_of 612 (by rfl) rfl, zAL_of 613 (by rfl) rfl⟩
set_option maxRecDepth 100000 in
theorem lX5_101 : zMl RX5 101 mX1_unfair 0 := ⟨zAL_of 627 (by rfl) rfl, zAL_of 31 (by rfl) rfl, zAL_of 530 (by rfl) rfl, ⟨by decide, by decide, by decide +kernel⟩, by decide⟩
set_option maxRecDepth 100000 in
theorem vX1_unfair : zMv mX1_unfair := ⟨zAL_of 528 (by rfl) rfl, zAL_of 529 (by rfl) rfl⟩
set_option maxRecDepth 100000 in
theorem lX5_105 : zMl RX5 105 mX5_unfairBy 2 := ⟨zAL_of 623 (by rfl) rfl, zAL_of 30 (by rfl) rfl, zAL_of 626 (by rfl) rfl, ⟨by decide, by decide, by decide +kernel⟩, by decide⟩
set_option maxRecDepth 100000 in
theorem vX5_unfairBy : zMv mX5_unfairBy := ⟨zAL_of 624 (by rfl) rfl, zAL_of 625 (by rfl) rfl⟩
set_option maxRecDepth 100000 in
theorem lX6_26 : zMl RX6 26 mX4_clear 0 := ⟨zAL_of 381 (by rfl) rfl, zAL_of 32 (by rfl) rfl, zAL_of 118 (by rfl) rfl, ⟨by decide, by decide, by decide +kernel⟩, by decide⟩
set_option maxRecDepth 100000 in
theorem lX6_31 : zMl RX6 31 mX6_readItem 1 := ⟨zAL_of 382 (by rfl) rfl, zAL_of 29 (by rfl) rfl, zAL_of 385 (by rfl) rfl, ⟨by decide, by decide, by decide +kernel⟩, by decide⟩
set_option maxRecDepth 100000 in
theorem vX6_readItem : zMv mX6_readItem := ⟨zAL_of 383 (by rfl) rfl, zAL_of 384 (by rfl) rfl⟩
set_option maxRecDepth 100000 in
theorem lX6_35 : zMl RX6 35 mX6_nextByte 0 := ⟨zAL_of 386 (by rfl) rfl, zAL_of 29 (by rfl) rfl, zAL_of 389 (by rfl) rfl, ⟨by decide, by decide, by decide +kernel⟩, by decide⟩
set_option maxRecDepth 100000 in
theorem vX6_nextByte : zMv mX6_nextByte := ⟨zAL_of 387 (by rfl) rfl, zAL_of 388 (by rfl) rfl⟩
set_option maxRecDepth 100000 in
theorem lX6_39 : zMl RX6 39 mX6_numbersOf 1 := ⟨zAL_of 390 (by rfl) rfl, zAL_of 29 (by rfl) rfl, zAL_of 392 (by rfl) rfl, ⟨by decide, by decide, by decide +kernel⟩, by decide⟩
set_option maxRecDepth 100000 in
theorem vX6_numbersOf : Cond.static mX6_numbersOf.1 ∈ zAL := zAL_of 391 (by rfl) rfl
set_option maxRecDepth 100000 in
theorem lX6_43 : zMl RX6 43 mX6_readNumbers 1 := ⟨zAL_of 393 (by rfl) rfl, zAL_of 29 (by rfl) rfl, zAL_of 396 (by rfl) rfl, ⟨by decide, by decide, by decide +kernel⟩, by decide⟩
set_option maxRecDepth 100000 in
theorem vX6_readNumbers : zMv mX6_readNumbers := ⟨zAL_of 394 (by rfl) rfl, zAL_of 395 (by rfl) rfl⟩
set_option maxRecDepth 100000 in
theorem lX6_47 : zMl RX6 47 mX4_take 4 := ⟨zAL_of 405 (by rfl) rfl, zAL_of 32 (by rfl) rfl, zAL_of 408 (by rfl) rfl, ⟨by decide, by decide, by decide +kernel⟩, by decide⟩
set_option maxRecDepth 100000 in
theorem vX4_take : zMv mX4_take := ⟨zAL_of 406 (by rfl) rfl, zAL_of 407 (by rfl) rfl⟩
set_option maxRecDepth 100000 in
theorem lX6_51 : zMl RX6 51 mX6_readNumber 0 := ⟨zAL_of 397 (by rfl) rfl, zAL_of 29 (by rfl) rfl, zAL_of 400 (by rfl) rfl, ⟨by decide, by decide, by decide +kernel⟩, by decide⟩
set_option maxRecDepth 100000 in
theorem vX6_readNumber : zMv mX6_readNumber := ⟨zAL_of 398 (by rfl) rfl, zAL_of 399 (by rfl) rfl⟩
set_option maxRecDepth 100000 in
theorem lX6_54 : zMl RX6 54 mX6_figureAt 0 := ⟨zAL_of 401 (by rfl) rfl, zAL_of 29 (by rfl) rfl, zAL_of 404 (by rfl) rfl, ⟨by decide, by decide, by decide +kernel⟩, by decide⟩
set_option maxRecDepth 100000 in
theorem vX6_figureAt : zMv mX6_figureAt := ⟨zAL_of 402 (by rfl) rfl, zAL_of 403 (by rfl) rfl⟩
set_option maxRecDepth 100000 in
theorem lX7_63 : zMl RX7 63 mX4_addPerson 3 := ⟨zAL_of 318 (by rfl) rfl, zAL_of 32 (by rfl) rfl, zAL_of 321 (by rfl) rfl, ⟨by decide, by decide, by decide +kernel⟩, by decide⟩
set_option maxRecDepth 100000 in
theorem lX7_67 : zMl RX7 67 mX4_addCry 2 := ⟨zAL_of 322 (by rfl) rfl, zAL_of 32 (by rfl) rfl, zAL_of 325 (by rfl) rfl, ⟨by decide, by decide, by decide +kernel⟩, by decide⟩
set_option maxRecDepth 100000 in
theorem lX7_84 : zMl RX7 84 mX6_append 1 := ⟨zAL_of 365 (by rfl) rfl, zAL_of 29 (by rfl) rfl, zAL_of 368 (by rfl) rfl, ⟨by decide, by decide, by decide +kernel⟩, by decide⟩
set_option maxRecDepth 100000 in
theorem vX6_append : zMv mX6_append := ⟨zAL_of 366 (by rfl) rfl, zAL_of 367 (by rfl) rfl⟩
set_option maxRecDepth 100000 in
theorem lX7_88 : zMl RX7 88 mX6_readInto 1 := ⟨zAL_of 377 (by rfl) rfl, zAL_of 29 (by rfl) rfl, zAL_of 380 (by rfl) rfl, ⟨by decide, by decide, by decide +kernel⟩, by decide⟩
set_option maxRecDepth 100000 in
theorem vX6_readInto : zMv mX6_readInto := ⟨zAL_of 378 (by rfl) rfl, zAL_of 379 (by rfl) rfl⟩
set_option maxRecDepth 100000 in
theorem lX7_95 : zMl RX7 95 mX2_forget 0 := ⟨zAL_of 427 (by rfl) rfl, zAL_of 35 (by rfl) rfl, zAL_of 430 (by rfl) rfl, ⟨by decide, by decide, by decide +kernel⟩, by decide⟩
set_option maxRecDepth 100000 in
theorem vX2_forget : zMv mX2_forget := ⟨zAL_of 428 (by rfl) rfl, zAL_of 429 (by rfl) rfl⟩
set_option maxRecDepth 100000 in
theorem lX7_98 : zMl RX7 98 mX7_isPerson 1 := ⟨zAL_of 435 (by rfl) rfl, zAL_of 28 (by rfl) rfl, zAL_of 438 (by rfl) rfl, ⟨by decide, by decide, by decide +kernel⟩, by decide⟩
set_option maxRecDepth 100000 in
theorem vX7_isPerson : zMv mX7_isPerson := ⟨zAL_of 437 (by rfl) rfl, zAL_of 0 (by rfl) rfl⟩
set_option maxRecDepth 100000 in
theorem lX7_112 : zMl RX7 112 mX7_runAsTold 0 := ⟨zAL_of 440 (by rfl) rfl, zAL_of 28 (by rfl) rfl, zAL_of 443 (by rfl) rfl, ⟨by decide, by decide, by decide +kernel⟩, by decide⟩
set_option maxRecDepth 100000 in
theorem vX7_runAsTold : zMv mX7_runAsTold := ⟨zAL_of 442 (by rfl) rfl, zAL_of 1 (by rfl) rfl⟩
set_option maxRecDepth 100000 in
theorem lX7_123 : zMl RX7 123 mX7_isMinute 1 := ⟨zAL_of 512 (by rfl) rfl, zAL_of 28 (by rfl) rfl, zAL_of 514 (by rfl) rfl, ⟨by decide, by decide, by decide +kernel⟩, by decide⟩
set_option maxRecDepth 100000 in
theorem vX7_isMinute : Cond.static mX7_isMinute.1 ∈ zAL := zAL_of 513 (by rfl) rfl
set_option maxRecDepth 100000 in
theorem lX7_126 : zMl RX7 126 mX1_asTold 1 := ⟨zAL_of 444 (by rfl) rfl, zAL_of 31 (by rfl) rfl, zAL_of 447 (by rfl) rfl, ⟨by decide, by decide, by decide +kernel⟩, by decide⟩
set_option maxRecDepth 100000 in
theorem lX7_130 : zMl RX7 130 mX1_runTo 1 := ⟨zAL_of 448 (by rfl) rfl, zAL_of 31 (by rfl) rfl, zAL_of 451 (by rfl) rfl, ⟨by decide, by decide, by decide +kernel⟩, by decide⟩
set_option maxRecDepth 100000 in
theorem lX7_134 : zMl RX7 134 mX1_placeOf 1 := ⟨zAL_of 515 (by rfl) rfl, zAL_of 31 (by rfl) rfl, zAL_of 518 (by rfl) rfl, ⟨by decide, by decide, by decide +kernel⟩, by decide⟩
set_option maxRecDepth 100000 in
theorem vX1_placeOf : zMv mX1_placeOf := ⟨zAL_of 516 (by rfl) rfl, zAL_of 517 (by rfl) rfl⟩
set_option maxRecDepth 100000 in
theorem lX7_142 : zMl RX7 142 mX1_unfair 0 := ⟨zAL_of 527 (by rfl) rfl, zAL_of 31 (by rfl) rfl, zAL_of 530 (by rfl) rfl, ⟨by decide, by decide, by decide +kernel⟩, by decide⟩
set_option maxRecDepth 100000 in
theorem lX7_146 : zMl RX7 146 mX1_manyOf 1 := ⟨zAL_of 531 (by rfl) rfl, zAL_of 31 (by rfl) rfl, zAL_of 534 (by rfl) rfl, ⟨by decide, by decide, by decide +kernel⟩, by decide⟩
set_option maxRecDepth 100000 in
theorem vX1_manyOf : zMv mX1_manyOf := ⟨zAL_of 532 (by rfl) rfl, zAL_of 533 (by rfl) rfl⟩
set_option maxRecDepth 100000 in
theorem lX7_155 : zMl RX7 155 mX5_gainedBy 2 := ⟨zAL_of 539 (by rfl) rfl, zAL_of 30 (by rfl) rfl, zAL_of 542 (by rfl) rfl, ⟨by decide, by decide, by decide +kernel⟩, by decide⟩
set_option maxRecDepth 100000 in
theorem lX7_159 : zMl RX7 159 mX5_mostGained 1 := ⟨zAL_of 557 (by rfl) rfl, zAL_of 30 (by rfl) rfl, zAL_of 560 (by rfl) rfl, ⟨by decide, by decide, by decide +kernel⟩, by decide⟩
set_option maxRecDepth 100000 in
theorem vX5_mostGained : zMv mX5_mostGained := ⟨zAL_of 558 (by rfl) rfl, zAL_of 559 (by rfl) rfl⟩
set_option maxRecDepth 100000 in
theorem lX7_162 : zMl RX7 162 mX4_hasChild 1 := ⟨zAL_of 566 (by rfl) rfl, zAL_of 32 (by rfl) rfl, zAL_of 413 (by rfl) rfl, ⟨by decide, by decide, by decide +kernel⟩, by decide⟩
set_option maxRecDepth 100000 in
theorem lX7_165 : zMl RX7 165 mX0_dropLast 0 := ⟨zAL_of 571 (by rfl) rfl, zAL_of 33 (by rfl) rfl, zAL_of 126 (by rfl) rfl, ⟨by decide, by decide, by decide +kernel⟩, by decide⟩
set_option maxRecDepth 100000 in
theorem lX7_168 : zMl RX7 168 mX5_fewestHushed 3 := ⟨zAL_of 576 (by rfl) rfl, zAL_of 30 (by rfl) rfl, zAL_of 579 (by rfl) rfl, ⟨by decide, by decide, by decide +kernel⟩, by decide⟩
set_option maxRecDepth 100000 in
theorem vX5_fewestHushed : zMv mX5_fewestHushed := ⟨zAL_of 577 (by rfl) rfl, zAL_of 578 (by rfl) rfl⟩
set_option maxRecDepth 100000 in
theorem lX7_172 : zMl RX7 172 mX5_cryOnceMore 2 := ⟨zAL_of 594 (by rfl) rfl, zAL_of 30 (by rfl) rfl, zAL_of 597 (by rfl) rfl, ⟨by decide, by decide, by decide +kernel⟩, by decide⟩
set_option maxRecDepth 100000 in
theorem vX5_cryOnceMore : zMv mX5_cryOnceMore := ⟨zAL_of 595 (by rfl) rfl, zAL_of 596 (by rfl) rfl⟩
set_option maxRecDepth 100000 in
theorem lX7_182 : zMl RX7 182 mX5_play 3 := ⟨zAL_of 607 (by rfl) rfl, zAL_of 30 (by rfl) rfl, zAL_of 610 (by rfl) rfl, ⟨by decide, by decide, by decide +kernel⟩, by decide⟩
set_option maxRecDepth 100000 in
theorem vX5_play : zMv mX5_play := ⟨zAL_of 608 (by rfl) rfl, zAL_of 609 (by rfl) rfl⟩
set_option maxRecDepth 100000 in
theorem lX7_195 : zMl RX7 195 mX5_bestLaw 1 := ⟨zAL_of 619 (by rfl) rfl, zAL_of 30 (by rfl) rfl, zAL_of 622 (by rfl) rfl, ⟨by decide, by decide, by decide +kernel⟩, by decide⟩
set_option maxRecDepth 100000 in
theorem vX5_bestLaw : zMv mX5_bestLaw := ⟨zAL_of 620 (by rfl) rfl, zAL_of 621 (by rfl) rfl⟩
set_option maxRecDepth 100000 in
theorem lX7_198 : zMl RX7 198 mX5_unfairBy 2 := ⟨zAL_of 628 (by rfl) rfl, zAL_of 30 (by rfl) rfl, zAL_of 626 (by rfl) rfl, ⟨by decide, by decide, by decide +kernel⟩, by decide⟩
set_option maxRecDepth 100000 in
theorem lX7_201 : zMl RX7 201 mX7_areOdds 2 := ⟨zAL_of 633 (by rfl) rfl, zAL_of 28 (by rfl) rfl, zAL_of 635 (by rfl) rfl, ⟨by decide, by decide, by decide +kernel⟩, by decide⟩
set_option maxRecDepth 100000 in
theorem vX7_areOdds : Cond.static mX7_areOdds.1 ∈ zAL := zAL_of 634 (by rfl) rfl
set_option maxRecDepth 100000 in
theorem lX7_206 : zMl RX7 206 mX3_meanAbove 3 := ⟨zAL_of 637 (by rfl) rfl, zAL_of 34 (by rfl) rfl, zAL_of 640 (by rfl) rfl, ⟨by decide, by decide, by decide +kernel⟩, by decide⟩
set_option maxRecDepth 100000 in
theorem lX7_210 : zMl RX7 210 mX3_lowest 2 := ⟨zAL_of 647 (by rfl) rfl, zAL_of 34 (by rfl) rfl, zAL_of 650 (by rfl) rfl, ⟨by decide, by decide, by decide +kernel⟩, by decide⟩
set_option maxRecDepth 100000 in
theorem vX3_lowest : zMv mX3_lowest := ⟨zAL_of 648 (by rfl) rfl, zAL_of 649 (by rfl) rfl⟩
set_option maxRecDepth 100000 in
theorem lX7_214 : zMl RX7 214 mX3_chanceAbove 4 := ⟨zAL_of 655 (by rfl) rfl, zAL_of 34 (by rfl) rfl, zAL_of 658 (by rfl) rfl, ⟨by decide, by decide, by decide +kernel⟩, by decide⟩
set_option maxRecDepth 100000 in
theorem vX3_chanceAbove : zMv mX3_chanceAbove := ⟨zAL_of 656 (by rfl) rfl, zAL_of 657 (by rfl) rfl⟩
set_option maxRecDepth 100000 in
theorem lX7_218 : zMl RX7 218 mX3_bestPlace 2 := ⟨zAL_of 663 (by rfl) rfl, zAL_of 34 (by rfl) rfl, zAL_of 666 (by rfl) rfl, ⟨by decide, by decide, by decide +kernel⟩, by decide⟩
set_option maxRecDepth 100000 in
theorem vX3_bestPlace : zMv mX3_bestPlace := ⟨zAL_of 664 (by rfl) rfl, zAL_of 665 (by rfl) rfl⟩
set_option maxRecDepth 100000 in
theorem lX7_222 : zMl RX7 222 mX3_bestEnd 2 := ⟨zAL_of 668 (by rfl) rfl, zAL_of 34 (by rfl) rfl, zAL_of 671 (by rfl) rfl, ⟨by decide, by decide, by decide +kernel⟩, by decide⟩
set_option maxRecDepth 100000 in
theorem vX3_bestEnd : zMv mX3_bestEnd := ⟨zAL_of 669 (by rfl) rfl, zAL_of 670 (by rfl) rfl⟩
set_option maxRecDepth 100000 in
theorem lX7_225 : zMl RX7 225 mX2_isIn 2 := ⟨zAL_of 676 (by rfl) rfl, zAL_of 35 (by rfl) rfl, zAL_of 679 (by rfl) rfl, ⟨by decide, by decide, by decide +kernel⟩, by decide⟩
set_option maxRecDepth 100000 in
theorem vX2_isIn : zMv mX2_isIn := ⟨zAL_of 677 (by rfl) rfl, zAL_of 678 (by rfl) rfl⟩
set_option maxRecDepth 100000 in
theorem lX7_228 : zMl RX7 228 mX2_manyIn 1 := ⟨zAL_of 684 (by rfl) rfl, zAL_of 35 (by rfl) rfl, zAL_of 683 (by rfl) rfl, ⟨by decide, by decide, by decide +kernel⟩, by decide⟩
set_option maxRecDepth 100000 in
theorem lX7_231 : zMl RX7 231 mX2_add 2 := ⟨zAL_of 685 (by rfl) rfl, zAL_of 35 (by rfl) rfl, zAL_of 688 (by rfl) rfl, ⟨by decide, by decide, by decide +kernel⟩, by decide⟩
set_option maxRecDepth 100000 in
theorem vX2_add : zMv mX2_add := ⟨zAL_of 686 (by rfl) rfl, zAL_of 687 (by rfl) rfl⟩
set_option maxRecDepth 100000 in
theorem lX7_241 : zMl RX7 241 mX2_findTurns 0 := ⟨zAL_of 697 (by rfl) rfl, zAL_of 35 (by rfl) rfl, zAL_of 700 (by rfl) rfl, ⟨by decide, by decide, by decide +kernel⟩, by decide⟩
set_option maxRecDepth 100000 in
theorem vX2_findTurns : zMv mX2_findTurns := ⟨zAL_of 698 (by rfl) rfl, zAL_of 699 (by rfl) rfl⟩
set_option maxRecDepth 100000 in
theorem lX7_253 : zMl RX7 253 mX0_copyFrom 1 := ⟨zAL_of 713 (by rfl) rfl, zAL_of 33 (by rfl) rfl, zAL_of 716 (by rfl) rfl, ⟨by decide, by decide, by decide +kernel⟩, by decide⟩
set_option maxRecDepth 100000 in
theorem vX0_copyFrom : zMv mX0_copyFrom := ⟨zAL_of 714 (by rfl) rfl, zAL_of 715 (by rfl) rfl⟩
set_option maxRecDepth 100000 in
theorem lX7_260 : zMl RX7 260 mX4_isTold 1 := ⟨zAL_of 439 (by rfl) rfl, zAL_of 32 (by rfl) rfl, zAL_of 417 (by rfl) rfl, ⟨by decide, by decide, by decide +kernel⟩, by decide⟩
set_option maxRecDepth 100000 in
theorem lX8_77 : zMl RX8 77 mX8_noMorning 1 := ⟨zAL_of 733 (by rfl) rfl, zAL_of 36 (by rfl) rfl, zAL_of 736 (by rfl) rfl, ⟨by decide, by decide, by decide +kernel⟩, by decide⟩
set_option maxRecDepth 100000 in
theorem vX8_noMorning : zMv mX8_noMorning := ⟨zAL_of 735 (by rfl) rfl, zAL_of 2 (by rfl) rfl⟩
set_option maxRecDepth 100000 in
theorem lX8_83 : zMl RX8 83 mX8_in 3 := ⟨zAL_of 848 (by rfl) rfl, zAL_of 36 (by rfl) rfl, zAL_of 850 (by rfl) rfl, ⟨by decide, by decide, by decide +kernel⟩, by decide⟩
set_option maxRecDepth 100000 in
theorem vX8_in : Cond.static mX8_in.1 ∈ zAL := zAL_of 849 (by rfl) rfl
set_option maxRecDepth 100000 in
theorem lX8_96 : zMl RX8 96 mX8_byteAt 1 := ⟨zAL_of 868 (by rfl) rfl, zAL_of 36 (by rfl) rfl, zAL_of 871 (by rfl) rfl, ⟨by decide, by decide, by decide +kernel⟩, by decide⟩
set_option maxRecDepth 100000 in
theorem vX8_byteAt : zMv mX8_byteAt := ⟨zAL_of 870 (by rfl) rfl, zAL_of 5 (by rfl) rfl⟩
set_option maxRecDepth 100000 in
theorem lX8_106 : zMl RX8 106 mX8_figures 1 := ⟨zAL_of 872 (by rfl) rfl, zAL_of 36 (by rfl) rfl, zAL_of 875 (by rfl) rfl, ⟨by decide, by decide, by decide +kernel⟩, by decide⟩
set_option maxRecDepth 100000 in
theorem vX8_figures : zMv mX8_figures := ⟨zAL_of 874 (by rfl) rfl, zAL_of 6 (by rfl) rfl⟩
set_option maxRecDepth 100000 in
theorem lX8_112 : zMl RX8 112 mX8_item 0 := ⟨zAL_of 864 (by rfl) rfl, zAL_of 36 (by rfl) rfl, zAL_of 867 (by rfl) rfl, ⟨by decide, by decide, by decide +kernel⟩, by decide⟩
set_option maxRecDepth 100000 in
theorem vX8_item : zMv mX8_item := ⟨zAL_of 866 (by rfl) rfl, zAL_of 4 (by rfl) rfl⟩
set_option maxRecDepth 100000 in
theorem lX8_116 : zMl RX8 116 mX8_readAll 0 := ⟨zAL_of 860 (by rfl) rfl, zAL_of 36 (by rfl) rfl, zAL_of 863 (by rfl) rfl, ⟨by decide, by decide, by decide +kernel⟩, by decide⟩
set_option maxRecDepth 100000 in
theorem vX8_readAll : zMv mX8_readAll := ⟨zAL_of 862 (by rfl) rfl, zAL_of 3 (by rfl) rfl⟩
set_option maxRecDepth 100000 in
theorem lX8_120 : zMl RX8 120 mX8_copyCries 2 := ⟨zAL_of 884 (by rfl) rfl, zAL_of 36 (by rfl) rfl, zAL_of 887 (by rfl) rfl, ⟨by decide, by decide, by decide +kernel⟩, by decide⟩
set_option maxRecDepth 100000 in
theorem vX8_copyCries : zMv mX8_copyCries := ⟨zAL_of 886 (by rfl) rfl, zAL_of 7 (by rfl) rfl⟩
set_option maxRecDepth 100000 in
theorem lX8_158 : zMl RX8 158 mX8_isInLine 1 := ⟨zAL_of 926 (by rfl) rfl, zAL_of 36 (by rfl) rfl, zAL_of 929 (by rfl) rfl, ⟨by decide, by decide, by decide +kernel⟩, by decide⟩
set_option maxRecDepth 100000 in
theorem vX8_isInLine : zMv mX8_isInLine := ⟨zAL_of 928 (by rfl) rfl, zAL_of 15 (by rfl) rfl⟩
set_option maxRecDepth 100000 in
theorem lX8_167 : zMl RX8 167 mX8_has 2 := ⟨zAL_of 930 (by rfl) rfl, zAL_of 36 (by rfl) rfl, zAL_of 932 (by rfl) rfl, ⟨by decide, by decide, by decide +kernel⟩, by decide⟩
set_option maxRecDepth 100000 in
theorem vX8_has : Cond.static mX8_has.1 ∈ zAL := zAL_of 931 (by rfl) rfl
set_option maxRecDepth 100000 in
theorem lX8_174 : zMl RX8 174 mX8_end 3 := ⟨zAL_of 909 (by rfl) rfl, zAL_of 36 (by rfl) rfl, zAL_of 912 (by rfl) rfl, ⟨by decide, by decide, by decide +kernel⟩, by decide⟩
set_option maxRecDepth 100000 in
theorem vX8_end : zMv mX8_end := ⟨zAL_of 911 (by rfl) rfl, zAL_of 12 (by rfl) rfl⟩
set_option maxRecDepth 100000 in
theorem lX8_178 : zMl RX8 178 mX8_takeOut 1 := ⟨zAL_of 913 (by rfl) rfl, zAL_of 36 (by rfl) rfl, zAL_of 916 (by rfl) rfl, ⟨by decide, by decide, by decide +kernel⟩, by decide⟩
set_option maxRecDepth 100000 in
theorem vX8_takeOut : zMv mX8_takeOut := ⟨zAL_of 915 (by rfl) rfl, zAL_of 13 (by rfl) rfl⟩
set_option maxRecDepth 100000 in
theorem lX8_181 : zMl RX8 181 mX8_doesCry 1 := ⟨zAL_of 917 (by rfl) rfl, zAL_of 36 (by rfl) rfl, zAL_of 920 (by rfl) rfl, ⟨by decide, by decide, by decide +kernel⟩, by decide⟩
set_option maxRecDepth 100000 in
theorem vX8_doesCry : zMv mX8_doesCry := ⟨zAL_of 919 (by rfl) rfl, zAL_of 14 (by rfl) rfl⟩
set_option maxRecDepth 100000 in
theorem lX8_184 : zMl RX8 184 mX8_turnLine 0 := ⟨zAL_of 933 (by rfl) rfl, zAL_of 36 (by rfl) rfl, zAL_of 936 (by rfl) rfl, ⟨by decide, by decide, by decide +kernel⟩, by decide⟩
set_option maxRecDepth 100000 in
theorem vX8_turnLine : zMv mX8_turnLine := ⟨zAL_of 935 (by rfl) rfl, zAL_of 16 (by rfl) rfl⟩
set_option maxRecDepth 100000 in
theorem lX8_187 : zMl RX8 187 mX8_putIn 2 := ⟨zAL_of 937 (by rfl) rfl, zAL_of 36 (by rfl) rfl, zAL_of 940 (by rfl) rfl, ⟨by decide, by decide, by decide +kernel⟩, by decide⟩
set_option maxRecDepth 100000 in
theorem vX8_putIn : zMv mX8_putIn := ⟨zAL_of 939 (by rfl) rfl, zAL_of 17 (by rfl) rfl⟩
set_option maxRecDepth 100000 in
theorem lX8_190 : zMl RX8 190 mX8_asItIs 0 := ⟨zAL_of 901 (by rfl) rfl, zAL_of 36 (by rfl) rfl, zAL_of 904 (by rfl) rfl, ⟨by decide, by decide, by decide +kernel⟩, by decide⟩
set_option maxRecDepth 100000 in
theorem vX8_asItIs : zMv mX8_asItIs := ⟨zAL_of 903 (by rfl) rfl, zAL_of 10 (by rfl) rfl⟩
set_option maxRecDepth 100000 in
theorem lX8_193 : zMl RX8 193 mX8_go 1 := ⟨zAL_of 905 (by rfl) rfl, zAL_of 36 (by rfl) rfl, zAL_of 908 (by rfl) rfl, ⟨by decide, by decide, by decide +kernel⟩, by decide⟩
set_option maxRecDepth 100000 in
theorem vX8_go : zMv mX8_go := ⟨zAL_of 907 (by rfl) rfl, zAL_of 11 (by rfl) rfl⟩
set_option maxRecDepth 100000 in
theorem lX8_196 : zMl RX8 196 mX8_isPerson 1 := ⟨zAL_of 892 (by rfl) rfl, zAL_of 36 (by rfl) rfl, zAL_of 895 (by rfl) rfl, ⟨by decide, by decide, by decide +kernel⟩, by decide⟩
set_option maxRecDepth 100000 in
theorem vX8_isPerson : zMv mX8_isPerson := ⟨zAL_of 894 (by rfl) rfl, zAL_of 8 (by rfl) rfl⟩
set_option maxRecDepth 100000 in
theorem lX8_201 : zMl RX8 201 mX8_goAsItIs 0 := ⟨zAL_of 897 (by rfl) rfl, zAL_of 36 (by rfl) rfl, zAL_of 900 (by rfl) rfl, ⟨by decide, by decide, by decide +kernel⟩, by decide⟩
set_option maxRecDepth 100000 in
theorem vX8_goAsItIs : zMv mX8_goAsItIs := ⟨zAL_of 899 (by rfl) rfl, zAL_of 9 (by rfl) rfl⟩
set_option maxRecDepth 100000 in
theorem lX8_208 : zMl RX8 208 mX8_howMany 1 := ⟨zAL_of 955 (by rfl) rfl, zAL_of 36 (by rfl) rfl, zAL_of 958 (by rfl) rfl, ⟨by decide, by decide, by decide +kernel⟩, by decide⟩
set_option maxRecDepth 100000 in
theorem vX8_howMany : zMv mX8_howMany := ⟨zAL_of 957 (by rfl) rfl, zAL_of 18 (by rfl) rfl⟩
set_option maxRecDepth 100000 in
theorem lX8_211 : zMl RX8 211 mX8_unfair 0 := ⟨zAL_of 959 (by rfl) rfl, zAL_of 36 (by rfl) rfl, zAL_of 962 (by rfl) rfl, ⟨by decide, by decide, by decide +kernel⟩, by decide⟩
set_option maxRecDepth 100000 in
theorem vX8_unfair : zMv mX8_unfair := ⟨zAL_of 961 (by rfl) rfl, zAL_of 19 (by rfl) rfl⟩
set_option maxRecDepth 100000 in
theorem lX8_214 : zMl RX8 214 mX8_timeOf 1 := ⟨zAL_of 971 (by rfl) rfl, zAL_of 36 (by rfl) rfl, zAL_of 974 (by rfl) rfl, ⟨by decide, by decide, by decide +kernel⟩, by decide⟩
set_option maxRecDepth 100000 in
theorem vX8_timeOf : zMv mX8_timeOf := ⟨zAL_of 973 (by rfl) rfl, zAL_of 21 (by rfl) rfl⟩
set_option maxRecDepth 100000 in
theorem lX8_217 : zMl RX8 217 mX8_gainedOf 1 := ⟨zAL_of 967 (by rfl) rfl, zAL_of 36 (by rfl) rfl, zAL_of 970 (by rfl) rfl, ⟨by decide, by decide, by decide +kernel⟩, by decide⟩
set_option maxRecDepth 100000 in
theorem vX8_gainedOf : zMv mX8_gainedOf := ⟨zAL_of 969 (by rfl) rfl, zAL_of 20 (by rfl) rfl⟩
set_option maxRecDepth 100000 in
theorem lX8_222 : zMl RX8 222 mX8_ones 1 := ⟨zAL_of 992 (by rfl) rfl, zAL_of 36 (by rfl) rfl, zAL_of 994 (by rfl) rfl, ⟨by decide, by decide, by decide +kernel⟩, by decide⟩
set_option maxRecDepth 100000 in
theorem vX8_ones : Cond.static mX8_ones.1 ∈ zAL := zAL_of 993 (by rfl) rfl
set_option maxRecDepth 100000 in
theorem lX8_229 : zMl RX8 229 mX8_unfairBy 1 := ⟨zAL_of 1009 (by rfl) rfl, zAL_of 36 (by rfl) rfl, zAL_of 1012 (by rfl) rfl, ⟨by decide, by decide, by decide +kernel⟩, by decide⟩
set_option maxRecDepth 100000 in
theorem vX8_unfairBy : zMv mX8_unfairBy := ⟨zAL_of 1011 (by rfl) rfl, zAL_of 22 (by rfl) rfl⟩
set_option maxRecDepth 100000 in
theorem lX8_234 : zMl RX8 234 mX8_tens 1 := ⟨zAL_of 1029 (by rfl) rfl, zAL_of 36 (by rfl) rfl, zAL_of 1031 (by rfl) rfl, ⟨by decide, by decide, by decide +kernel⟩, by decide⟩
set_option maxRecDepth 100000 in
theorem vX8_tens : Cond.static mX8_tens.1 ∈ zAL := zAL_of 1030 (by rfl) rfl
set_option maxRecDepth 100000 in
theorem lX8_238 : zMl RX8 238 mX8_behindOf 3 := ⟨zAL_of 1025 (by rfl) rfl, zAL_of 36 (by rfl) rfl, zAL_of 1028 (by rfl) rfl, ⟨by decide, by decide, by decide +kernel⟩, by decide⟩
set_option maxRecDepth 100000 in
theorem vX8_behindOf : zMv mX8_behindOf := ⟨zAL_of 1027 (by rfl) rfl, zAL_of 24 (by rfl) rfl⟩
set_option maxRecDepth 100000 in
theorem lX8_242 : zMl RX8 242 mX8_areOf 2 := ⟨zAL_of 1017 (by rfl) rfl, zAL_of 36 (by rfl) rfl, zAL_of 1019 (by rfl) rfl, ⟨by decide, by decide, by decide +kernel⟩, by decide⟩
set_option maxRecDepth 100000 in
theorem vX8_areOf : Cond.static mX8_areOf.1 ∈ zAL := zAL_of 1018 (by rfl) rfl
set_option maxRecDepth 100000 in
theorem lX8_245 : zMl RX8 245 mX8_layMeans 2 := ⟨zAL_of 1021 (by rfl) rfl, zAL_of 36 (by rfl) rfl, zAL_of 1024 (by rfl) rfl, ⟨by decide, by decide, by decide +kernel⟩, by decide⟩
set_option maxRecDepth 100000 in
theorem vX8_layMeans : zMv mX8_layMeans := ⟨zAL_of 1023 (by rfl) rfl, zAL_of 23 (by rfl) rfl⟩
set_option maxRecDepth 100000 in
theorem lX8_248 : zMl RX8 248 mX8_lowest 3 := ⟨zAL_of 1032 (by rfl) rfl, zAL_of 36 (by rfl) rfl, zAL_of 1034 (by rfl) rfl, ⟨by decide, by decide, by decide +kernel⟩, by decide⟩
set_option maxRecDepth 100000 in
theorem vX8_lowest : Cond.static mX8_lowest.1 ∈ zAL := zAL_of 1033 (by rfl) rfl
set_option maxRecDepth 100000 in
theorem lX8_252 : zMl RX8 252 mX8_layBy 3 := ⟨zAL_of 1039 (by rfl) rfl, zAL_of 36 (by rfl) rfl, zAL_of 1042 (by rfl) rfl, ⟨by decide, by decide, by decide +kernel⟩, by decide⟩
set_option maxRecDepth 100000 in
theorem vX8_layBy : zMv mX8_layBy := ⟨zAL_of 1041 (by rfl) rfl, zAL_of 25 (by rfl) rfl⟩
set_option maxRecDepth 100000 in
theorem lX8_255 : zMl RX8 255 mX8_isFit 1 := ⟨zAL_of 1059 (by rfl) rfl, zAL_of 36 (by rfl) rfl, zAL_of 1062 (by rfl) rfl, ⟨by decide, by decide, by decide +kernel⟩, by decide⟩
set_option maxRecDepth 100000 in
theorem vX8_isFit : zMv mX8_isFit := ⟨zAL_of 1061 (by rfl) rfl, zAL_of 26 (by rfl) rfl⟩
set_option maxRecDepth 100000 in
theorem lL_15 : zMl RL 15 mX7_write 2 := ⟨zAL_of 361 (by rfl) rfl, zAL_of 28 (by rfl) rfl, zAL_of 364 (by rfl) rfl, ⟨by decide, by decide, by decide +kernel⟩, by decide⟩
set_option maxRecDepth 100000 in
theorem vX7_write : zMv mX7_write := ⟨zAL_of 362 (by rfl) rfl, zAL_of 363 (by rfl) rfl⟩
set_option maxRecDepth 100000 in
theorem lL_19 : zMl RL 19 mX8_write 2 := ⟨zAL_of 843 (by rfl) rfl, zAL_of 36 (by rfl) rfl, zAL_of 846 (by rfl) rfl, ⟨by decide, by decide, by decide +kernel⟩, by decide⟩
set_option maxRecDepth 100000 in
theorem vX8_write : zMv mX8_write := ⟨zAL_of 844 (by rfl) rfl, zAL_of 845 (by rfl) rfl⟩
set_option maxRecDepth 100000 in
theorem lL_20 : zMl RL 20 mX7_wipe 0 := ⟨zAL_of 369 (by rfl) rfl, zAL_of 28 (by rfl) rfl, zAL_of 372 (by rfl) rfl, ⟨by decide, by decide, by decide +kernel⟩, by decide⟩
set_option maxRecDepth 100000 in
theorem vX7_wipe : zMv mX7_wipe := ⟨zAL_of 370 (by rfl) rfl, zAL_of 371 (by rfl) rfl⟩
set_option maxRecDepth 100000 in
theorem lL_24 : zMl RL 24 mX8_wipe 0 := ⟨zAL_of 852 (by rfl) rfl, zAL_of 36 (by rfl) rfl, zAL_of 855 (by rfl) rfl, ⟨by decide, by decide, by decide +kernel⟩, by decide⟩
set_option maxRecDepth 100000 in
theorem vX8_wipe : zMv mX8_wipe := ⟨zAL_of 853 (by rfl) rfl, zAL_of 854 (by rfl) rfl⟩
set_option maxRecDepth 100000 in
theorem lL_25 : zMl RL 25 mX7_fault 0 := ⟨zAL_of 373 (by rfl) rfl, zAL_of 28 (by rfl) rfl, zAL_of 376 (by rfl) rfl, ⟨by decide, by decide, by decide +kernel⟩, by decide⟩
set_option maxRecDepth 100000 in
theorem vX7_fault : zMv mX7_fault := ⟨zAL_of 374 (by rfl) rfl, zAL_of 375 (by rfl) rfl⟩
set_option maxRecDepth 100000 in
theorem lL_28 : zMl RL 28 mX8_fault 0 := ⟨zAL_of 856 (by rfl) rfl, zAL_of 36 (by rfl) rfl, zAL_of 859 (by rfl) rfl, ⟨by decide, by decide, by decide +kernel⟩, by decide⟩
set_option maxRecDepth 100000 in
theorem vX8_fault : zMv mX8_fault := ⟨zAL_of 857 (by rfl) rfl, zAL_of 858 (by rfl) rfl⟩
set_option maxRecDepth 100000 in
theorem lL_29 : zMl RL 29 mX7_lay 0 := ⟨zAL_of 423 (by rfl) rfl, zAL_of 28 (by rfl) rfl, zAL_of 426 (by rfl) rfl, ⟨by decide, by decide, by decide +kernel⟩, by decide⟩
set_option maxRecDepth 100000 in
theorem vX7_lay : zMv mX7_lay := ⟨zAL_of 424 (by rfl) rfl, zAL_of 425 (by rfl) rfl⟩
set_option maxRecDepth 100000 in
theorem lL_32 : zMl RL 32 mX8_lay 0 := ⟨zAL_of 880 (by rfl) rfl, zAL_of 36 (by rfl) rfl, zAL_of 883 (by rfl) rfl, ⟨by decide, by decide, by decide +kernel⟩, by decide⟩
set_option maxRecDepth 100000 in
theorem vX8_lay : zMv mX8_lay := ⟨zAL_of 881 (by rfl) rfl, zAL_of 882 (by rfl) rfl⟩
set_option maxRecDepth 100000 in
theorem lL_33 : zMl RL 33 mX7_person 2 := ⟨zAL_of 431 (by rfl) rfl, zAL_of 28 (by rfl) rfl, zAL_of 434 (by rfl) rfl, ⟨by decide, by decide, by decide +kernel⟩, by decide⟩
set_option maxRecDepth 100000 in
theorem vX7_person : zMv mX7_person := ⟨zAL_of 432 (by rfl) rfl, zAL_of 433 (by rfl) rfl⟩
set_option maxRecDepth 100000 in
theorem lL_37 : zMl RL 37 mX8_person 2 := ⟨zAL_of 888 (by rfl) rfl, zAL_of 36 (by rfl) rfl, zAL_of 891 (by rfl) rfl, ⟨by decide, by decide, by decide +kernel⟩, by decide⟩
set_option maxRecDepth 100000 in
theorem vX8_person : zMv mX8_person := ⟨zAL_of 889 (by rfl) rfl, zAL_of 890 (by rfl) rfl⟩
set_option maxRecDepth 100000 in
theorem lL_38 : zMl RL 38 mX7_place 2 := ⟨zAL_of 508 (by rfl) rfl, zAL_of 28 (by rfl) rfl, zAL_of 511 (by rfl) rfl, ⟨by decide, by decide, by decide +kernel⟩, by decide⟩
set_option maxRecDepth 100000 in
theorem vX7_place : zMv mX7_place := ⟨zAL_of 509 (by rfl) rfl, zAL_of 510 (by rfl) rfl⟩
set_option maxRecDepth 100000 in
theorem lL_41 : zMl RL 41 mX8_place 2 := ⟨zAL_of 941 (by rfl) rfl, zAL_of 36 (by rfl) rfl, zAL_of 944 (by rfl) rfl, ⟨by decide, by decide, by decide +kernel⟩, by decide⟩
set_option maxRecDepth 100000 in
theorem vX8_place : zMv mX8_place := ⟨zAL_of 942 (by rfl) rfl, zAL_of 943 (by rfl) rfl⟩
set_option maxRecDepth 100000 in
theorem lL_42 : zMl RL 42 mX7_row 1 := ⟨zAL_of 519 (by rfl) rfl, zAL_of 28 (by rfl) rfl, zAL_of 522 (by rfl) rfl, ⟨by decide, by decide, by decide +kernel⟩, by decide⟩
set_option maxRecDepth 100000 in
theorem vX7_row : zMv mX7_row := ⟨zAL_of 520 (by rfl) rfl, zAL_of 521 (by rfl) rfl⟩
set_option maxRecDepth 100000 in
theorem lL_46 : zMl RL 46 mX8_row 1 := ⟨zAL_of 946 (by rfl) rfl, zAL_of 36 (by rfl) rfl, zAL_of 949 (by rfl) rfl, ⟨by decide, by decide, by decide +kernel⟩, by decide⟩
set_option maxRecDepth 100000 in
theorem vX8_row : zMv mX8_row := ⟨zAL_of 947 (by rfl) rfl, zAL_of 948 (by rfl) rfl⟩
set_option maxRecDepth 100000 in
theorem lL_47 : zMl RL 47 mX7_all 1 := ⟨zAL_of 523 (by rfl) rfl, zAL_of 28 (by rfl) rfl, zAL_of 526 (by rfl) rfl, ⟨by decide, by decide, by decide +kernel⟩, by decide⟩
set_option maxRecDepth 100000 in
theorem vX7_all : zMv mX7_all := ⟨zAL_of 524 (by rfl) rfl, zAL_of 525 (by rfl) rfl⟩
set_option maxRecDepth 100000 in
theorem lL_50 : zMl RL 50 mX8_all 1 := ⟨zAL_of 950 (by rfl) rfl, zAL_of 36 (by rfl) rfl, zAL_of 953 (by rfl) rfl, ⟨by decide, by decide, by decide +kernel⟩, by decide⟩
set_option maxRecDepth 100000 in
theorem vX8_all : zMv mX8_all := ⟨zAL_of 951 (by rfl) rfl, zAL_of 952 (by rfl) rfl⟩
set_option maxRecDepth 100000 in
theorem lL_51 : zMl RL 51 mX7_cry 2 := ⟨zAL_of 535 (by rfl) rfl, zAL_of 28 (by rfl) rfl, zAL_of 538 (by rfl) rfl, ⟨by decide, by decide, by decide +kernel⟩, by decide⟩
set_option maxRecDepth 100000 in
theorem vX7_cry : zMv mX7_cry := ⟨zAL_of 536 (by rfl) rfl, zAL_of 537 (by rfl) rfl⟩
set_option maxRecDepth 100000 in
theorem lL_54 : zMl RL 54 mX8_cry 2 := ⟨zAL_of 963 (by rfl) rfl, zAL_of 36 (by rfl) rfl, zAL_of 966 (by rfl) rfl, ⟨by decide, by decide, by decide +kernel⟩, by decide⟩
set_option maxRecDepth 100000 in
theorem vX8_cry : zMv mX8_cry := ⟨zAL_of 964 (by rfl) rfl, zAL_of 965 (by rfl) rfl⟩
set_option maxRecDepth 100000 in
theorem lL_55 : zMl RL 55 mX7_suspect 0 := ⟨zAL_of 553 (by rfl) rfl, zAL_of 28 (by rfl) rfl, zAL_of 556 (by rfl) rfl, ⟨by decide, by decide, by decide +kernel⟩, by decide⟩
set_option maxRecDepth 100000 in
theorem vX7_suspect : zMv mX7_suspect := ⟨zAL_of 554 (by rfl) rfl, zAL_of 555 (by rfl) rfl⟩
set_option maxRecDepth 100000 in
theorem lL_58 : zMl RL 58 mX8_suspect 0 := ⟨zAL_of 975 (by rfl) rfl, zAL_of 36 (by rfl) rfl, zAL_of 978 (by rfl) rfl, ⟨by decide, by decide, by decide +kernel⟩, by decide⟩
set_option maxRecDepth 100000 in
theorem vX8_suspect : zMv mX8_suspect := ⟨zAL_of 976 (by rfl) rfl, zAL_of 977 (by rfl) rfl⟩
set_option maxRecDepth 100000 in
theorem lL_59 : zMl RL 59 mX7_tell 2 := ⟨zAL_of 562 (by rfl) rfl, zAL_of 28 (by rfl) rfl, zAL_of 565 (by rfl) rfl, ⟨by decide, by decide, by decide +kernel⟩, by decide⟩
set_option maxRecDepth 100000 in
theorem vX7_tell : zMv mX7_tell := ⟨zAL_of 563 (by rfl) rfl, zAL_of 564 (by rfl) rfl⟩
set_option maxRecDepth 100000 in
theorem lL_62 : zMl RL 62 mX8_tell 2 := ⟨zAL_of 979 (by rfl) rfl, zAL_of 36 (by rfl) rfl, zAL_of 982 (by rfl) rfl, ⟨by decide, by decide, by decide +kernel⟩, by decide⟩
set_option maxRecDepth 100000 in
theorem vX8_tell : zMv mX8_tell := ⟨zAL_of 980 (by rfl) rfl, zAL_of 981 (by rfl) rfl⟩
set_option maxRecDepth 100000 in
theorem lL_63 : zMl RL 63 mX7_takeBack 0 := ⟨zAL_of 567 (by rfl) rfl, zAL_of 28 (by rfl) rfl, zAL_of 570 (by rfl) rfl, ⟨by decide, by decide, by decide +kernel⟩, by decide⟩
set_option maxRecDepth 100000 in
theorem vX7_takeBack : zMv mX7_takeBack := ⟨zAL_of 568 (by rfl) rfl, zAL_of 569 (by rfl) rfl⟩
set_option maxRecDepth 100000 in
theorem lL_66 : zMl RL 66 mX8_takeBack 0 := ⟨zAL_of 984 (by rfl) rfl, zAL_of 36 (by rfl) rfl, zAL_of 987 (by rfl) rfl, ⟨by decide, by decide, by decide +kernel⟩, by decide⟩
set_option maxRecDepth 100000 in
theorem vX8_takeBack : zMv mX8_takeBack := ⟨zAL_of 985 (by rfl) rfl, zAL_of 986 (by rfl) rfl⟩
set_option maxRecDepth 100000 in
theorem lL_67 : zMl RL 67 mX7_hush 2 := ⟨zAL_of 572 (by rfl) rfl, zAL_of 28 (by rfl) rfl, zAL_of 575 (by rfl) rfl, ⟨by decide, by decide, by decide +kernel⟩, by decide⟩
set_option maxRecDepth 100000 in
theorem vX7_hush : zMv mX7_hush := ⟨zAL_of 573 (by rfl) rfl, zAL_of 574 (by rfl) rfl⟩
set_option maxRecDepth 100000 in
theorem lL_70 : zMl RL 70 mX8_hush 2 := ⟨zAL_of 988 (by rfl) rfl, zAL_of 36 (by rfl) rfl, zAL_of 991 (by rfl) rfl, ⟨by decide, by decide, by decide +kernel⟩, by decide⟩
set_option maxRecDepth 100000 in
theorem vX8_hush : zMv mX8_hush := ⟨zAL_of 989 (by rfl) rfl, zAL_of 990 (by rfl) rfl⟩
set_option maxRecDepth 100000 in
theorem lL_71 : zMl RL 71 mX7_again 2 := ⟨zAL_of 590 (by rfl) rfl, zAL_of 28 (by rfl) rfl, zAL_of 593 (by rfl) rfl, ⟨by decide, by decide, by decide +kernel⟩, by decide⟩
set_option maxRecDepth 100000 in
theorem vX7_again : zMv mX7_again := ⟨zAL_of 591 (by rfl) rfl, zAL_of 592 (by rfl) rfl⟩
set_option maxRecDepth 100000 in
theorem lL_74 : zMl RL 74 mX8_again 2 := ⟨zAL_of 995 (by rfl) rfl, zAL_of 36 (by rfl) rfl, zAL_of 998 (by rfl) rfl, ⟨by decide, by decide, by decide +kernel⟩, by decide⟩
set_option maxRecDepth 100000 in
theorem vX8_again : zMv mX8_again := ⟨zAL_of 996 (by rfl) rfl, zAL_of 997 (by rfl) rfl⟩
set_option maxRecDepth 100000 in
theorem lL_75 : zMl RL 75 mX7_game 3 := ⟨zAL_of 603 (by rfl) rfl, zAL_of 28 (by rfl) rfl, zAL_of 606 (by rfl) rfl, ⟨by decide, by decide, by decide +kernel⟩, by decide⟩
set_option maxRecDepth 100000 in
theorem vX7_game : zMv mX7_game := ⟨zAL_of 604 (by rfl) rfl, zAL_of 605 (by rfl) rfl⟩
set_option maxRecDepth 100000 in
theorem lL_79 : zMl RL 79 mX8_game 3 := ⟨zAL_of 999 (by rfl) rfl, zAL_of 36 (by rfl) rfl, zAL_of 1002 (by rfl) rfl, ⟨by decide, by decide, by decide +kernel⟩, by decide⟩
set_option maxRecDepth 100000 in
theorem vX8_game : zMv mX8_game := ⟨zAL_of 1000 (by rfl) rfl, zAL_of 1001 (by rfl) rfl⟩
set_option maxRecDepth 100000 in
theorem lL_80 : zMl RL 80 mX7_laws 1 := ⟨zAL_of 615 (by rfl) rfl, zAL_of 28 (by rfl) rfl, zAL_of 618 (by rfl) rfl, ⟨by decide, by decide, by decide +kernel⟩, by decide⟩
set_option maxRecDepth 100000 in
theorem vX7_laws : zMv mX7_laws := ⟨zAL_of 616 (by rfl) rfl, zAL_of 617 (by rfl) rfl⟩
set_option maxRecDepth 100000 in
theorem lL_83 : zMl RL 83 mX8_laws 1 := ⟨zAL_of 1003 (by rfl) rfl, zAL_of 36 (by rfl) rfl, zAL_of 1006 (by rfl) rfl, ⟨by decide, by decide, by decide +kernel⟩, by decide⟩
set_option maxRecDepth 100000 in
theorem vX8_laws : zMv mX8_laws := ⟨zAL_of 1004 (by rfl) rfl, zAL_of 1005 (by rfl) rfl⟩
set_option maxRecDepth 100000 in
theorem lL_84 : zMl RL 84 mX7_mean 4 := ⟨zAL_of 629 (by rfl) rfl, zAL_of 28 (by rfl) rfl, zAL_of 632 (by rfl) rfl, ⟨by decide, by decide, by decide +kernel⟩, by decide⟩
set_option maxRecDepth 100000 in
theorem vX7_mean : zMv mX7_mean := ⟨zAL_of 630 (by rfl) rfl, zAL_of 631 (by rfl) rfl⟩
set_option maxRecDepth 100000 in
theorem lL_88 : zMl RL 88 mX8_mean 4 := ⟨zAL_of 1013 (by rfl) rfl, zAL_of 36 (by rfl) rfl, zAL_of 1016 (by rfl) rfl, ⟨by decide, by decide, by decide +kernel⟩, by decide⟩
set_option maxRecDepth 100000 in
theorem vX8_mean : zMv mX8_mean := ⟨zAL_of 1014 (by rfl) rfl, zAL_of 1015 (by rfl) rfl⟩
set_option maxRecDepth 100000 in
theorem lL_89 : zMl RL 89 mX7_by 5 := ⟨zAL_of 651 (by rfl) rfl, zAL_of 28 (by rfl) rfl, zAL_of 654 (by rfl) rfl, ⟨by decide, by decide, by decide +kernel⟩, by decide⟩
set_option maxRecDepth 100000 in
theorem vX7_by : zMv mX7_by := ⟨zAL_of 652 (by rfl) rfl, zAL_of 653 (by rfl) rfl⟩
set_option maxRecDepth 100000 in
theorem lL_93 : zMl RL 93 mX8_by 5 := ⟨zAL_of 1035 (by rfl) rfl, zAL_of 36 (by rfl) rfl, zAL_of 1038 (by rfl) rfl, ⟨by decide, by decide, by decide +kernel⟩, by decide⟩
set_option maxRecDepth 100000 in
theorem vX8_by : zMv mX8_by := ⟨zAL_of 1036 (by rfl) rfl, zAL_of 1037 (by rfl) rfl⟩
set_option maxRecDepth 100000 in
theorem lL_94 : zMl RL 94 mX7_best 3 := ⟨zAL_of 659 (by rfl) rfl, zAL_of 28 (by rfl) rfl, zAL_of 662 (by rfl) rfl, ⟨by decide, by decide, by decide +kernel⟩, by decide⟩
set_option maxRecDepth 100000 in
theorem vX7_best : zMv mX7_best := ⟨zAL_of 660 (by rfl) rfl, zAL_of 661 (by rfl) rfl⟩
set_option maxRecDepth 100000 in
theorem lL_97 : zMl RL 97 mX8_best 3 := ⟨zAL_of 1043 (by rfl) rfl, zAL_of 36 (by rfl) rfl, zAL_of 1046 (by rfl) rfl, ⟨by decide, by decide, by decide +kernel⟩, by decide⟩
set_option maxRecDepth 100000 in
theorem vX8_best : zMv mX8_best := ⟨zAL_of 1044 (by rfl) rfl, zAL_of 1045 (by rfl) rfl⟩
set_option maxRecDepth 100000 in
theorem lL_98 : zMl RL 98 mX7_name 2 := ⟨zAL_of 672 (by rfl) rfl, zAL_of 28 (by rfl) rfl, zAL_of 675 (by rfl) rfl, ⟨by decide, by decide, by decide +kernel⟩, by decide⟩
set_option maxRecDepth 100000 in
theorem vX7_name : zMv mX7_name := ⟨zAL_of 673 (by rfl) rfl, zAL_of 674 (by rfl) rfl⟩
set_option maxRecDepth 100000 in
theorem lL_101 : zMl RL 101 mX8_name 2 := ⟨zAL_of 1047 (by rfl) rfl, zAL_of 36 (by rfl) rfl, zAL_of 1050 (by rfl) rfl, ⟨by decide, by decide, by decide +kernel⟩, by decide⟩
set_option maxRecDepth 100000 in
theorem vX8_name : zMv mX8_name := ⟨zAL_of 1048 (by rfl) rfl, zAL_of 1049 (by rfl) rfl⟩
set_option maxRecDepth 100000 in
theorem lL_102 : zMl RL 102 mX7_noNames 0 := ⟨zAL_of 689 (by rfl) rfl, zAL_of 28 (by rfl) rfl, zAL_of 692 (by rfl) rfl, ⟨by decide, by decide, by decide +kernel⟩, by decide⟩
set_option maxRecDepth 100000 in
theorem vX7_noNames : zMv mX7_noNames := ⟨zAL_of 690 (by rfl) rfl, zAL_of 691 (by rfl) rfl⟩
set_option maxRecDepth 100000 in
theorem lL_105 : zMl RL 105 mX8_noNames 0 := ⟨zAL_of 1051 (by rfl) rfl, zAL_of 36 (by rfl) rfl, zAL_of 1054 (by rfl) rfl, ⟨by decide, by decide, by decide +kernel⟩, by decide⟩
set_option maxRecDepth 100000 in
theorem vX8_noNames : zMv mX8_noNames := ⟨zAL_of 1052 (by rfl) rfl, zAL_of 1053 (by rfl) rfl⟩
set_option maxRecDepth 100000 in
theorem lL_106 : zMl RL 106 mX7_fits 1 := ⟨zAL_of 693 (by rfl) rfl, zAL_of 28 (by rfl) rfl, zAL_of 696 (by rfl) rfl, ⟨by decide, by decide, by decide +kernel⟩, by decide⟩
set_option maxRecDepth 100000 in
theorem vX7_fits : zMv mX7_fits := ⟨zAL_of 694 (by rfl) rfl, zAL_of 695 (by rfl) rfl⟩
set_option maxRecDepth 100000 in
theorem lL_109 : zMl RL 109 mX8_fits 1 := ⟨zAL_of 1055 (by rfl) rfl, zAL_of 36 (by rfl) rfl, zAL_of 1058 (by rfl) rfl, ⟨by decide, by decide, by decide +kernel⟩, by decide⟩
set_option maxRecDepth 100000 in
theorem vX8_fits : zMv mX8_fits := ⟨zAL_of 1056 (by rfl) rfl, zAL_of 1057 (by rfl) rfl⟩
set_option maxRecDepth 100000 in
theorem lL_110 : zMl RL 110 mX7_drawn 2 := ⟨zAL_of 705 (by rfl) rfl, zAL_of 28 (by rfl) rfl, zAL_of 708 (by rfl) rfl, ⟨by decide, by decide, by decide +kernel⟩, by decide⟩
set_option maxRecDepth 100000 in
theorem vX7_drawn : zMv mX7_drawn := ⟨zAL_of 706 (by rfl) rfl, zAL_of 707 (by rfl) rfl⟩
set_option maxRecDepth 100000 in
theorem lL_113 : zMl RL 113 mX8_drawn 2 := ⟨zAL_of 1063 (by rfl) rfl, zAL_of 36 (by rfl) rfl, zAL_of 1066 (by rfl) rfl, ⟨by decide, by decide, by decide +kernel⟩, by decide⟩
set_option maxRecDepth 100000 in
theorem vX8_drawn : zMv mX8_drawn := ⟨zAL_of 1064 (by rfl) rfl, zAL_of 1065 (by rfl) rfl⟩
set_option maxRecDepth 100000 in
theorem lL_114 : zMl RL 114 mX7_keep 0 := ⟨zAL_of 709 (by rfl) rfl, zAL_of 28 (by rfl) rfl, zAL_of 712 (by rfl) rfl, ⟨by decide, by decide, by decide +kernel⟩, by decide⟩
set_option maxRecDepth 100000 in
theorem vX7_keep : zMv mX7_keep := ⟨zAL_of 710 (by rfl) rfl, zAL_of 711 (by rfl) rfl⟩
set_option maxRecDepth 100000 in
theorem lL_117 : zMl RL 117 mX8_keep 0 := ⟨zAL_of 1068 (by rfl) rfl, zAL_of 36 (by rfl) rfl, zAL_of 1071 (by rfl) rfl, ⟨by decide, by decide, by decide +kernel⟩, by decide⟩
set_option maxRecDepth 100000 in
theorem vX8_keep : zMv mX8_keep := ⟨zAL_of 1069 (by rfl) rfl, zAL_of 1070 (by rfl) rfl⟩
set_option maxRecDepth 100000 in
theorem lL_118 : zMl RL 118 mX7_back 0 := ⟨zAL_of 719 (by rfl) rfl, zAL_of 28 (by rfl) rfl, zAL_of 722 (by rfl) rfl, ⟨by decide, by decide, by decide +kernel⟩, by decide⟩
set_option maxRecDepth 100000 in
theorem vX7_back : zMv mX7_back := ⟨zAL_of 720 (by rfl) rfl, zAL_of 721 (by rfl) rfl⟩
set_option maxRecDepth 100000 in
theorem lL_121 : zMl RL 121 mX8_back 0 := ⟨zAL_of 1072 (by rfl) rfl, zAL_of 36 (by rfl) rfl, zAL_of 1075 (by rfl) rfl, ⟨by decide, by decide, by decide +kernel⟩, by decide⟩
set_option maxRecDepth 100000 in
theorem vX8_back : zMv mX8_back := ⟨zAL_of 1073 (by rfl) rfl, zAL_of 1074 (by rfl) rfl⟩
set_option maxRecDepth 100000 in
theorem lL_122 : zMl RL 122 mX7_count 1 := ⟨zAL_of 723 (by rfl) rfl, zAL_of 28 (by rfl) rfl, zAL_of 726 (by rfl) rfl, ⟨by decide, by decide, by decide +kernel⟩, by decide⟩
set_option maxRecDepth 100000 in
theorem vX7_count : zMv mX7_count := ⟨zAL_of 724 (by rfl) rfl, zAL_of 725 (by rfl) rfl⟩
set_option maxRecDepth 100000 in
theorem lL_125 : zMl RL 125 mX8_count 1 := ⟨zAL_of 1076 (by rfl) rfl, zAL_of 36 (by rfl) rfl, zAL_of 1079 (by rfl) rfl, ⟨by decide, by decide, by decide +kernel⟩, by decide⟩
set_option maxRecDepth 100000 in
theorem vX8_count : zMv mX8_count := ⟨zAL_of 1077 (by rfl) rfl, zAL_of 1078 (by rfl) rfl⟩

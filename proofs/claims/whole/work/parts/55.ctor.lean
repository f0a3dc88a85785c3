theorem qX0_0 : zFq RX0 0 0 (.array .int) := ⟨RX0, TX0, 4, tyX0, rfl, rfl, rfl, tyX0_ok, nmX0, by decide +kernel⟩
theorem qX0_1 : zFq RX0 0 1 (.array .int) := ⟨RX0, TX0, 4, tyX0, rfl, rfl, rfl, tyX0_ok, nmX0, by decide +kernel⟩
theorem qX0_2 : zFq RX0 0 2 (.array .int) := ⟨RX0, TX0, 4, tyX0, rfl, rfl, rfl, tyX0_ok, nmX0, by decide +kernel⟩
theorem qX1_0 : zFq RX1 1 0 (.array .int) := ⟨RX1, TX1, 16, tyX1, rfl, rfl, rfl, tyX1_ok, nmX1, by decide +kernel⟩
theorem qX1_1 : zFq RX1 1 1 (.array .int) := ⟨RX1, TX1, 16, tyX1, rfl, rfl, rfl, tyX1_ok, nmX1, by decide +kernel⟩
theorem qX1_2 : zFq RX1 1 2 (.array .boolean) := ⟨RX1, TX1, 16, tyX1, rfl, rfl, rfl, tyX1_ok, nmX1, by decide +kernel⟩
theorem qX1_3 : zFq RX1 1 3 (.array .int) := ⟨RX1, TX1, 16, tyX1, rfl, rfl, rfl, tyX1_ok, nmX1, by decide +kernel⟩
theorem qX1_4 : zFq RX1 1 4 (.array .int) := ⟨RX1, TX1, 16, tyX1, rfl, rfl, rfl, tyX1_ok, nmX1, by decide +kernel⟩
theorem qX1_5 : zFq RX1 1 5 (.array .int) := ⟨RX1, TX1, 16, tyX1, rfl, rfl, rfl, tyX1_ok, nmX1, by decide +kernel⟩
theorem qX2_0 : zFq RX2 2 0 (.array .int) := ⟨RX2, TX2, 6, tyX2, rfl, rfl, rfl, tyX2_ok, nmX2, by decide +kernel⟩
theorem qX2_1 : zFq RX2 2 1 (.array .int) := ⟨RX2, TX2, 6, tyX2, rfl, rfl, rfl, tyX2_ok, nmX2, by decide +kernel⟩
theorem qX3_0 : zFq RX3 3 0 (.array .long) := ⟨RX3, TX3, 3, tyX3, rfl, rfl, rfl, tyX3_ok, nmX3, by decide +kernel⟩
theorem qX3_1 : zFq RX3 3 1 (.array .long) := ⟨RX3, TX3, 3, tyX3, rfl, rfl, rfl, tyX3_ok, nmX3, by decide +kernel⟩
theorem qX3_2 : zFq RX3 3 2 (.array .long) := ⟨RX3, TX3, 3, tyX3, rfl, rfl, rfl, tyX3_ok, nmX3, by decide +kernel⟩
theorem qX4_0 : zFq RX4 4 0 (.array .int) := ⟨RX4, TX4, 11, tyX4, rfl, rfl, rfl, tyX4_ok, nmX4, by decide +kernel⟩
theorem qX4_1 : zFq RX4 4 1 (.array .int) := ⟨RX4, TX4, 11, tyX4, rfl, rfl, rfl, tyX4_ok, nmX4, by decide +kernel⟩
theorem qX4_2 : zFq RX4 4 2 (.array .int) := ⟨RX4, TX4, 11, tyX4, rfl, rfl, rfl, tyX4_ok, nmX4, by decide +kernel⟩
theorem qX4_3 : zFq RX4 4 3 (.array .int) := ⟨RX4, TX4, 11, tyX4, rfl, rfl, rfl, tyX4_ok, nmX4, by decide +kernel⟩
theorem qX4_4 : zFq RX4 4 4 (.object "QueueTurns$CryList") := ⟨RX4, TX4, 11, tyX4, rfl, rfl, rfl, tyX4_ok, nmX4, by decide +kernel⟩
theorem qX5_0 : zFq RX5 5 0 (.object "QueueTurns$Morning") := ⟨RX5, TX5, 8, tyX5, rfl, rfl, rfl, tyX5_ok, nmX5, by decide +kernel⟩
theorem qX5_1 : zFq RX5 5 1 (.array .int) := ⟨RX5, TX5, 8, tyX5, rfl, rfl, rfl, tyX5_ok, nmX5, by decide +kernel⟩
theorem qX5_2 : zFq RX5 5 2 (.array .int) := ⟨RX5, TX5, 8, tyX5, rfl, rfl, rfl, tyX5_ok, nmX5, by decide +kernel⟩
theorem qX6_0 : zFq RX6 6 0 (.array .byte) := ⟨RX6, TX6, 4, tyX6, rfl, rfl, rfl, tyX6_ok, nmX6, by decide +kernel⟩
theorem qX6_1 : zFq RX6 6 1 (.array .int) := ⟨RX6, TX6, 4, tyX6, rfl, rfl, rfl, tyX6_ok, nmX6, by decide +kernel⟩
theorem qX7_0 : zFq RX7 7 0 (.object "QueueTurns$Text") := ⟨RX7, TX7, 10, tyX7, rfl, rfl, rfl, tyX7_ok, nmX7, by decide +kernel⟩
theorem qX7_1 : zFq RX7 7 1 (.object "QueueTurns$Study") := ⟨RX7, TX7, 10, tyX7, rfl, rfl, rfl, tyX7_ok, nmX7, by decide +kernel⟩
theorem qX7_2 : zFq RX7 7 2 (.object "QueueTurns$Morning") := ⟨RX7, TX7, 10, tyX7, rfl, rfl, rfl, tyX7_ok, nmX7, by decide +kernel⟩
theorem qX7_3 : zFq RX7 7 3 (.object "QueueTurns$Odds") := ⟨RX7, TX7, 10, tyX7, rfl, rfl, rfl, tyX7_ok, nmX7, by decide +kernel⟩
theorem qX7_4 : zFq RX7 7 4 (.object "QueueTurns$Names") := ⟨RX7, TX7, 10, tyX7, rfl, rfl, rfl, tyX7_ok, nmX7, by decide +kernel⟩
theorem qX7_5 : zFq RX7 7 5 (.array (.object "QueueTurns$CryList")) := ⟨RX7, TX7, 10, tyX7, rfl, rfl, rfl, tyX7_ok, nmX7, by decide +kernel⟩
theorem qX8_1 : zFq RX8 8 1 (.array .int) := ⟨RX8, TX8, 35, tyX8, rfl, rfl, rfl, tyX8_ok, nmX8, by decide +kernel⟩
theorem qX8_2 : zFq RX8 8 2 (.array .int) := ⟨RX8, TX8, 35, tyX8, rfl, rfl, rfl, tyX8_ok, nmX8, by decide +kernel⟩
theorem qX8_3 : zFq RX8 8 3 (.array .int) := ⟨RX8, TX8, 35, tyX8, rfl, rfl, rfl, tyX8_ok, nmX8, by decide +kernel⟩
theorem qX8_4 : zFq RX8 8 4 (.array .int) := ⟨RX8, TX8, 35, tyX8, rfl, rfl, rfl, tyX8_ok, nmX8, by decide +kernel⟩
theorem qX8_5 : zFq RX8 8 5 (.array .int) := ⟨RX8, TX8, 35, tyX8, rfl, rfl, rfl, tyX8_ok, nmX8, by decide +kernel⟩
theorem qX8_6 : zFq RX8 8 6 (.array .int) := ⟨RX8, TX8, 35, tyX8, rfl, rfl, rfl, tyX8_ok, nmX8, by decide +kernel⟩
theorem qX8_7 : zFq RX8 8 7 (.array .int) := ⟨RX8, TX8, 35, tyX8, rfl, rfl, rfl, tyX8_ok, nmX8, by decide +kernel⟩
theorem qX8_8 : zFq RX8 8 8 (.array .int) := ⟨RX8, TX8, 35, tyX8, rfl, rfl, rfl, tyX8_ok, nmX8, by decide +kernel⟩
theorem qX8_9 : zFq RX8 8 9 (.array .int) := ⟨RX8, TX8, 35, tyX8, rfl, rfl, rfl, tyX8_ok, nmX8, by decide +kernel⟩
theorem qX8_10 : zFq RX8 8 10 (.array .int) := ⟨RX8, TX8, 35, tyX8, rfl, rfl, rfl, tyX8_ok, nmX8, by decide +kernel⟩
theorem qX8_11 : zFq RX8 8 11 (.array .int) := ⟨RX8, TX8, 35, tyX8, rfl, rfl, rfl, tyX8_ok, nmX8, by decide +kernel⟩
theorem qX8_12 : zFq RX8 8 12 (.array .int) := ⟨RX8, TX8, 35, tyX8, rfl, rfl, rfl, tyX8_ok, nmX8, by decide +kernel⟩
theorem qX8_13 : zFq RX8 8 13 (.array .int) := ⟨RX8, TX8, 35, tyX8, rfl, rfl, rfl, tyX8_ok, nmX8, by decide +kernel⟩
theorem qX8_16 : zFq RX8 8 16 (.array .int) := ⟨RX8, TX8, 35, tyX8, rfl, rfl, rfl, tyX8_ok, nmX8, by decide +kernel⟩
theorem qX8_17 : zFq RX8 8 17 (.array .int) := ⟨RX8, TX8, 35, tyX8, rfl, rfl, rfl, tyX8_ok, nmX8, by decide +kernel⟩
theorem qX8_19 : zFq RX8 8 19 (.array .int) := ⟨RX8, TX8, 35, tyX8, rfl, rfl, rfl, tyX8_ok, nmX8, by decide +kernel⟩
theorem qX8_27 : zFq RX8 8 27 (.array .int) := ⟨RX8, TX8, 35, tyX8, rfl, rfl, rfl, tyX8_ok, nmX8, by decide +kernel⟩
theorem qX8_29 : zFq RX8 8 29 (.array .int) := ⟨RX8, TX8, 35, tyX8, rfl, rfl, rfl, tyX8_ok, nmX8, by decide +kernel⟩
theorem qX8_30 : zFq RX8 8 30 (.array .int) := ⟨RX8, TX8, 35, tyX8, rfl, rfl, rfl, tyX8_ok, nmX8, by decide +kernel⟩
theorem qX8_32 : zFq RX8 8 32 (.array .int) := ⟨RX8, TX8, 35, tyX8, rfl, rfl, rfl, tyX8_ok, nmX8, by decide +kernel⟩
theorem qX8_33 : zFq RX8 8 33 (.array .int) := ⟨RX8, TX8, 35, tyX8, rfl, rfl, rfl, tyX8_ok, nmX8, by decide +kernel⟩
theorem qX8_34 : zFq RX8 8 34 (.array .long) := ⟨RX8, TX8, 35, tyX8, rfl, rfl, rfl, tyX8_ok, nmX8, by decide +kernel⟩
set_option maxRecDepth 100000 in
theorem neL_7 : zNe RL 7 7 10 [.null, .null, .null, .null, .null, .null, zi 0, .null, .null, zi 0] := ⟨RX7, TX7, tyX7, rfl, inX7, tyX7_ok, zAL_of 39 (by rfl) rfl, zAL_of 40 (by rfl) rfl, zAL_of 28 (by rfl) rfl, fun j hj => by
  rcases (show j = 0 ∨ j = 1 ∨ j = 2 ∨ j = 3 ∨ j = 4 ∨ j = 5 ∨ j = 6 ∨ j = 7 ∨ j = 8 ∨ j = 9 by omega) with rfl | rfl | rfl | rfl | rfl | rfl | rfl | rfl | rfl | rfl <;> first | rfl | exact congrArg Value.int z32_0⟩
set_option maxRecDepth 100000 in
theorem neX7_7 : zNe RX7 7 6 4 [.null, .null, zi 0, zi 0] := ⟨RX6, TX6, tyX6, rfl, inX6, tyX6_ok, zAL_of 47 (by rfl) rfl, zAL_of 48 (by rfl) rfl, zAL_of 29 (by rfl) rfl, fun j hj => by
  rcases (show j = 0 ∨ j = 1 ∨ j = 2 ∨ j = 3 by omega) with rfl | rfl | rfl | rfl <;> first | rfl | exact congrArg Value.int z32_0⟩
set_option maxRecDepth 100000 in
theorem neX7_16 : zNe RX7 16 5 8 [.null, .null, .null, zi 0, zi 0, zi 0, zi 0, zi 0] := ⟨RX5, TX5, tyX5, rfl, inX5, tyX5_ok, zAL_of 69 (by rfl) rfl, zAL_of 70 (by rfl) rfl, zAL_of 30 (by rfl) rfl, fun j hj => by
  rcases (show j = 0 ∨ j = 1 ∨ j = 2 ∨ j = 3 ∨ j = 4 ∨ j = 5 ∨ j = 6 ∨ j = 7 by omega) with rfl | rfl | rfl | rfl | rfl | rfl | rfl | rfl <;> first | rfl | exact congrArg Value.int z32_0⟩
set_option maxRecDepth 100000 in
theorem neX5_9 : zNe RX5 9 1 16 [.null, .null, .null, .null, .null, .null, .null, zi 0, zi 0, zi 0, zi 0, zi 0, zi 0, zi 0, zi 0, zi 0] := ⟨RX1, TX1, tyX1, rfl, inX1, tyX1_ok, zAL_of 75 (by rfl) rfl, zAL_of 76 (by rfl) rfl, zAL_of 31 (by rfl) rfl, fun j hj => by
  rcases (show j = 0 ∨ j = 1 ∨ j = 2 ∨ j = 3 ∨ j = 4 ∨ j = 5 ∨ j = 6 ∨ j = 7 ∨ j = 8 ∨ j = 9 ∨ j = 10 ∨ j = 11 ∨ j = 12 ∨ j = 13 ∨ j = 14 ∨ j = 15 by omega) with rfl | rfl | rfl | rfl | rfl | rfl | rfl | rfl | rfl | rfl | rfl | rfl | rfl | rfl | rfl | rfl <;> first | rfl | exact congrArg Value.int z32_0⟩
set_option maxRecDepth 100000 in
theorem neX1_31 : zNe RX1 31 4 11 [.null, .null, .null, .null, .null, zi 0, zi 0, zi 0, zi 0, zi 0, zi 0] := ⟨RX4, TX4, tyX4, rfl, inX4, tyX4_ok, zAL_of 81 (by rfl) rfl, zAL_of 82 (by rfl) rfl, zAL_of 32 (by rfl) rfl, fun j hj => by
  rcases (show j = 0 ∨ j = 1 ∨ j = 2 ∨ j = 3 ∨ j = 4 ∨ j = 5 ∨ j = 6 ∨ j = 7 ∨ j = 8 ∨ j = 9 ∨ j = 10 by omega) with rfl | rfl | rfl | rfl | rfl | rfl | rfl | rfl | rfl | rfl | rfl <;> first | rfl | exact congrArg Value.int z32_0⟩
set_option maxRecDepth 100000 in
theorem neX4_24 : zNe RX4 24 0 4 [.null, .null, .null, zi 0] := ⟨RX0, TX0, tyX0, rfl, inX0, tyX0_ok, zAL_of 87 (by rfl) rfl, zAL_of 88 (by rfl) rfl, zAL_of 33 (by rfl) rfl, fun j hj => by
  rcases (show j = 0 ∨ j = 1 ∨ j = 2 ∨ j = 3 by omega) with rfl | rfl | rfl | rfl <;> first | rfl | exact congrArg Value.int z32_0⟩
set_option maxRecDepth 100000 in
theorem neX7_28 : zNe RX7 28 3 3 [.null, .null, .null] := ⟨RX3, TX3, tyX3, rfl, inX3, tyX3_ok, zAL_of 267 (by rfl) rfl, zAL_of 268 (by rfl) rfl, zAL_of 34 (by rfl) rfl, fun j hj => by
  rcases (show j = 0 ∨ j = 1 ∨ j = 2 by omega) with rfl | rfl | rfl <;> first | rfl | exact congrArg Value.int z32_0⟩
set_option maxRecDepth 100000 in
theorem neX7_35 : zNe RX7 35 2 6 [.null, .null, zi 0, zi 0, zi 0, zi 0] := ⟨RX2, TX2, tyX2, rfl, inX2, tyX2_ok, zAL_of 284 (by rfl) rfl, zAL_of 285 (by rfl) rfl, zAL_of 35 (by rfl) rfl, fun j hj => by
  rcases (show j = 0 ∨ j = 1 ∨ j = 2 ∨ j = 3 ∨ j = 4 ∨ j = 5 by omega) with rfl | rfl | rfl | rfl | rfl | rfl <;> first | rfl | exact congrArg Value.int z32_0⟩
set_option maxRecDepth 100000 in
theorem neX7_42 : zNe RX7 42 0 4 [.null, .null, .null, zi 0] := ⟨RX0, TX0, tyX0, rfl, inX0, tyX0_ok, zAL_of 313 (by rfl) rfl, zAL_of 88 (by rfl) rfl, zAL_of 33 (by rfl) rfl, fun j hj => by
  rcases (show j = 0 ∨ j = 1 ∨ j = 2 ∨ j = 3 by omega) with rfl | rfl | rfl | rfl <;> first | rfl | exact congrArg Value.int z32_0⟩
set_option maxRecDepth 100000 in
theorem neX7_53 : zNe RX7 53 4 11 [.null, .null, .null, .null, .null, zi 0, zi 0, zi 0, zi 0, zi 0, zi 0] := ⟨RX4, TX4, tyX4, rfl, inX4, tyX4_ok, zAL_of 316 (by rfl) rfl, zAL_of 82 (by rfl) rfl, zAL_of 32 (by rfl) rfl, fun j hj => by
  rcases (show j = 0 ∨ j = 1 ∨ j = 2 ∨ j = 3 ∨ j = 4 ∨ j = 5 ∨ j = 6 ∨ j = 7 ∨ j = 8 ∨ j = 9 ∨ j = 10 by omega) with rfl | rfl | rfl | rfl | rfl | rfl | rfl | rfl | rfl | rfl | rfl <;> first | rfl | exact congrArg Value.int z32_0⟩
set_option maxRecDepth 100000 in
theorem neL_10 : zNe RL 10 8 35 [zi 0, .null, .null, .null, .null, .null, .null, .null, .null, .null, .null, .null, .null, .null, zi 0, zi 0, .null, .null, zi 0, .null, zi 0, zi 0, zi 0, zi 0, zi 0, zi 0, zi 0, .null, zi 0, .null, .null, zi 0, .null, .null, .null] := ⟨RX8, TX8, tyX8, rfl, inX8, tyX8_ok, zAL_of 727 (by rfl) rfl, zAL_of 728 (by rfl) rfl, zAL_of 36 (by rfl) rfl, fun j hj => by
  rcases (show j = 0 ∨ j = 1 ∨ j = 2 ∨ j = 3 ∨ j = 4 ∨ j = 5 ∨ j = 6 ∨ j = 7 ∨ j = 8 ∨ j = 9 ∨ j = 10 ∨ j = 11 ∨ j = 12 ∨ j = 13 ∨ j = 14 ∨ j = 15 ∨ j = 16 ∨ j = 17 ∨ j = 18 ∨ j = 19 ∨ j = 20 ∨ j = 21 ∨ j = 22 ∨ j = 23 ∨ j = 24 ∨ j = 25 ∨ j = 26 ∨ j = 27 ∨ j = 28 ∨ j = 29 ∨ j = 30 ∨ j = 31 ∨ j = 32 ∨ j = 33 ∨ j = 34 by omega) with rfl | rfl | rfl | rfl | rfl | rfl | rfl | rfl | rfl | rfl | rfl | rfl | rfl | rfl | rfl | rfl | rfl | rfl | rfl | rfl | rfl | rfl | rfl | rfl | rfl | rfl | rfl | rfl | rfl | rfl | rfl | rfl | rfl | rfl | rfl <;> first | rfl | exact congrArg Value.int z32_0⟩
set_option maxRecDepth 100000 in
theorem clX7_42 : Cond.classLink RX7 42 RX0 ∈ zAL := zAL_of 313 (by rfl) rfl
set_option maxRecDepth 100000 in
theorem obX0_3 : Cond.methodLink RX0 3 Lib.objectInit ∈ zAL := zAL_of 92 (by rfl) rfl
set_option maxRecDepth 100000 in
theorem obX1_3 : Cond.methodLink RX1 3 Lib.objectInit ∈ zAL := zAL_of 80 (by rfl) rfl
set_option maxRecDepth 100000 in
theorem ilX1_33 {Γ : zG} (hw : zNw (zs Γ)) : zIl Γ RX1 33 mX4_init := ⟨⟨rfl, zAL_of 84 (by rfl) rfl, zAL_of 32 (by rfl) rfl, zAL_of 85 (by rfl) rfl, ⟨by decide, by decide, by decide +kernel⟩, by decide, rfl⟩, Or.inl (zAL_of 83 (by rfl) rfl)⟩
set_option maxRecDepth 100000 in
theorem obX2_3 : Cond.methodLink RX2 3 Lib.objectInit ∈ zAL := zAL_of 289 (by rfl) rfl
set_option maxRecDepth 100000 in
theorem obX3_3 : Cond.methodLink RX3 3 Lib.objectInit ∈ zAL := zAL_of 272 (by rfl) rfl
set_option maxRecDepth 100000 in
theorem obX4_3 : Cond.methodLink RX4 3 Lib.objectInit ∈ zAL := zAL_of 86 (by rfl) rfl
set_option maxRecDepth 100000 in
theorem ilX4_26 {Γ : zG} (hw : zNw (zs Γ)) : zIl Γ RX4 26 mX0_init := ⟨⟨rfl, zAL_of 90 (by rfl) rfl, zAL_of 33 (by rfl) rfl, zAL_of 91 (by rfl) rfl, ⟨by decide, by decide, by decide +kernel⟩, by decide, rfl⟩, Or.inr ⟨RX7, hw.2.1⟩⟩
set_option maxRecDepth 100000 in
theorem obX5_3 : Cond.methodLink RX5 3 Lib.objectInit ∈ zAL := zAL_of 74 (by rfl) rfl
set_option maxRecDepth 100000 in
theorem ilX5_11 {Γ : zG} (hw : zNw (zs Γ)) : zIl Γ RX5 11 mX1_init := ⟨⟨rfl, zAL_of 78 (by rfl) rfl, zAL_of 31 (by rfl) rfl, zAL_of 79 (by rfl) rfl, ⟨by decide, by decide, by decide +kernel⟩, by decide, rfl⟩, Or.inr ⟨RX7, hw.2.2.1⟩⟩
set_option maxRecDepth 100000 in
theorem obX6_3 : Cond.methodLink RX6 3 Lib.objectInit ∈ zAL := zAL_of 52 (by rfl) rfl
set_option maxRecDepth 100000 in
theorem obX7_1 : Cond.methodLink RX7 1 Lib.objectInit ∈ zAL := zAL_of 44 (by rfl) rfl
set_option maxRecDepth 100000 in
theorem ilX7_9 {Γ : zG} (hw : zNw (zs Γ)) : zIl Γ RX7 9 mX6_init := ⟨⟨rfl, zAL_of 50 (by rfl) rfl, zAL_of 29 (by rfl) rfl, zAL_of 51 (by rfl) rfl, ⟨by decide, by decide, by decide +kernel⟩, by decide, rfl⟩, Or.inr ⟨RX7, hw.2.2.2.1⟩⟩
set_option maxRecDepth 100000 in
theorem ilX7_18 {Γ : zG} (hw : zNw (zs Γ)) : zIl Γ RX7 18 mX5_init := ⟨⟨rfl, zAL_of 72 (by rfl) rfl, zAL_of 30 (by rfl) rfl, zAL_of 73 (by rfl) rfl, ⟨by decide, by decide, by decide +kernel⟩, by decide, rfl⟩, Or.inr ⟨RX7, hw.2.2.2.2.1⟩⟩
set_option maxRecDepth 100000 in
theorem ilX7_30 {Γ : zG} (hw : zNw (zs Γ)) : zIl Γ RX7 30 mX3_init := ⟨⟨rfl, zAL_of 270 (by rfl) rfl, zAL_of 34 (by rfl) rfl, zAL_of 271 (by rfl) rfl, ⟨by decide, by decide, by decide +kernel⟩, by decide, rfl⟩, Or.inr ⟨RX7, hw.2.2.2.2.2.1⟩⟩
set_option maxRecDepth 100000 in
theorem ilX7_37 {Γ : zG} (hw : zNw (zs Γ)) : zIl Γ RX7 37 mX2_init := ⟨⟨rfl, zAL_of 287 (by rfl) rfl, zAL_of 35 (by rfl) rfl, zAL_of 288 (by rfl) rfl, ⟨by decide, by decide, by decide +kernel⟩, by decide, rfl⟩, Or.inr ⟨RX7, hw.2.2.2.2.2.2.1⟩⟩
set_option maxRecDepth 100000 in
theorem ilX7_44 {Γ : zG} (hw : zNw (zs Γ)) : zIl Γ RX7 44 mX0_init := ⟨⟨rfl, zAL_of 90 (by rfl) rfl, zAL_of 33 (by rfl) rfl, zAL_of 91 (by rfl) rfl, ⟨by decide, by decide, by decide +kernel⟩, by decide, rfl⟩, Or.inr ⟨RX7, hw.2.2.2.2.2.2.2⟩⟩
set_option maxRecDepth 100000 in
theorem ilX7_55 {Γ : zG} (hw : zNw (zs Γ)) : zIl Γ RX7 55 mX4_init := ⟨⟨rfl, zAL_of 84 (by rfl) rfl, zAL_of 32 (by rfl) rfl, zAL_of 85 (by rfl) rfl, ⟨by decide, by decide, by decide +kernel⟩, by decide, rfl⟩, Or.inl (zAL_of 317 (by rfl) rfl)⟩
set_option maxRecDepth 100000 in
theorem obX8_1 : Cond.methodLink RX8 1 Lib.objectInit ∈ zAL := zAL_of 732 (by rfl) rfl
set_option maxRecDepth 100000 in
theorem ilL_9 {Γ : zG} (hw : zNw (zs Γ)) : zIl Γ RL 9 mX7_init := ⟨⟨rfl, zAL_of 42 (by rfl) rfl, zAL_of 28 (by rfl) rfl, zAL_of 43 (by rfl) rfl, ⟨by decide, by decide, by decide +kernel⟩, by decide, rfl⟩, Or.inl (zAL_of 41 (by rfl) rfl)⟩
set_option maxRecDepth 100000 in
theorem ilL_12 {Γ : zG} (hw : zNw (zs Γ)) : zIl Γ RL 12 mX8_init := ⟨⟨rfl, zAL_of 730 (by rfl) rfl, zAL_of 36 (by rfl) rfl, zAL_of 731 (by rfl) rfl, ⟨by decide, by decide, by decide +kernel⟩, by decide, rfl⟩, Or.inl (zAL_of 729 (by rfl) rfl)⟩
set_option maxHeartbeats 4000000 in
set_option maxRecDepth 100000 in
theorem k_X0_init (w : zW) : zMk w mX0_init 0 [.null, .null, .null, zi 0] 3 116 (fun a b => ∃ a1 a2 a3, b = [eO a 0 [.ref a1, .ref a2, .ref a3, zi 0], eI w a1 0 8 f0, eI w a2 0 8 f0, eI w a3 0 100 f0]) := by
  intro w0 a
  refine zKT_mk (own := RX0) rfl (by decide +kernel) [some (.ref a)] rfl (Nat.le_of_ble_eq_true rfl) ?_
  intro Γ h hon hr
  obtain ⟨rfl, hw, hnm, hkc, hks⟩ := hon
  have hnm : (zmt Γ).name = "<init>" := hnm
  have hkc : (zRm Γ).cells = 3 := hkc
  have hks : (zRm Γ).slots = 116 := hks
  refine z_aload_n h dX0_init_0 rfl ?_
  refine u_obj h dX0_init_1 obX0_3 (by decide) (Nat.le_of_ble_eq_true rfl) ?_
  refine z_aload_n h dX0_init_4 rfl ?_
  refine z_bipush h dX0_init_5 (by decide) ?_
  refine u_newI 8 h dX0_init_7 rfl (by decide) ⟨by omega, by omega⟩ (fun a1 => ?_)
  show zVw Γ (w0 ++ [eO a 0 [.null, .null, .null, zi 0], eI (zw Γ) a1 0 8 f0]) 1 8 9 [some (.ref a)] [.ref a1, .ref a]
  refine u_putF (L' := [eO a 0 [.ref a1, .null, .null, zi 0], eI (zw Γ) a1 0 8 f0]) h hnm 0 dX0_init_9 fX0_9 qX0_0 rfl rfl rfl (Nat.le_of_ble_eq_true rfl) rfl ?_
  refine z_aload_n h dX0_init_12 rfl ?_
  refine z_bipush h dX0_init_13 (by decide) ?_
  refine u_newI 8 h dX0_init_15 rfl (by decide) ⟨by omega, by omega⟩ (fun a2 => ?_)
  show zVw Γ (w0 ++ [eO a 0 [.ref a1, .null, .null, zi 0], eI (zw Γ) a1 0 8 f0, eI (zw Γ) a2 0 8 f0]) 2 16 17 [some (.ref a)] [.ref a2, .ref a]
  refine u_putF (L' := [eO a 0 [.ref a1, .ref a2, .null, zi 0], eI (zw Γ) a1 0 8 f0, eI (zw Γ) a2 0 8 f0]) h hnm 0 dX0_init_17 fX0_15 qX0_1 rfl rfl rfl (Nat.le_of_ble_eq_true rfl) rfl ?_
  refine z_aload_n h dX0_init_20 rfl ?_
  refine z_bipush h dX0_init_21 (by decide) ?_
  refine u_newI 100 h dX0_init_23 rfl (by decide) ⟨by omega, by omega⟩ (fun a3 => ?_)
  show zVw Γ (w0 ++ [eO a 0 [.ref a1, .ref a2, .null, zi 0], eI (zw Γ) a1 0 8 f0, eI (zw Γ) a2 0 8 f0, eI (zw Γ) a3 0 100 f0]) 3 116 25 [some (.ref a)] [.ref a3, .ref a]
  refine u_putF (L' := [eO a 0 [.ref a1, .ref a2, .ref a3, zi 0], eI (zw Γ) a1 0 8 f0, eI (zw Γ) a2 0 8 f0, eI (zw Γ) a3 0 100 f0]) h hnm 0 dX0_init_25 fX0_18 qX0_2 rfl rfl rfl (Nat.le_of_ble_eq_true rfl) rfl ?_
  refine z_aload_n h dX0_init_28 rfl ?_
  refine z_iconst h dX0_init_29 ?_
  refine u_put (L' := [eO a 0 [.ref a1, .ref a2, .ref a3, zi 0], eI (zw Γ) a1 0 8 f0, eI (zw Γ) a2 0 8 f0, eI (zw Γ) a3 0 100 f0]) h 0 dX0_init_30 fX0_21 pX0_3 rfl rfl rfl (Nat.le_of_ble_eq_true rfl) rfl ?_
  exact u_vret h hr dX0_init_33 ⟨rfl, _, ⟨a1, a2, a3, rfl⟩, rfl⟩
set_option maxHeartbeats 4000000 in
set_option maxRecDepth 100000 in
theorem k_X2_init (w : zW) : zMk w mX2_init 2 [.null, .null, zi 0, zi 0, zi 0, zi 0] 2 18 (fun a b => ∃ a1 a2, b = [eO a 2 [.ref a1, .ref a2, zi 0, zi 0, zi 0, zi 0], eI w a1 0 9 f0, eI w a2 0 9 f0]) := by
  intro w0 a
  refine zKT_mk (own := RX2) rfl (by decide +kernel) [some (.ref a)] rfl (Nat.le_of_ble_eq_true rfl) ?_
  intro Γ h hon hr
  obtain ⟨rfl, hw, hnm, hkc, hks⟩ := hon
  have hnm : (zmt Γ).name = "<init>" := hnm
  have hkc : (zRm Γ).cells = 2 := hkc
  have hks : (zRm Γ).slots = 18 := hks
  refine z_aload_n h dX2_init_0 rfl ?_
  refine u_obj h dX2_init_1 obX2_3 (by decide) (Nat.le_of_ble_eq_true rfl) ?_
  refine z_aload_n h dX2_init_4 rfl ?_
  refine z_bipush h dX2_init_5 (by decide) ?_
  refine u_newI 9 h dX2_init_7 rfl (by decide) ⟨by omega, by omega⟩ (fun a1 => ?_)
  show zVw Γ (w0 ++ [eO a 2 [.null, .null, zi 0, zi 0, zi 0, zi 0], eI (zw Γ) a1 0 9 f0]) 1 9 9 [some (.ref a)] [.ref a1, .ref a]
  refine u_putF (L' := [eO a 2 [.ref a1, .null, zi 0, zi 0, zi 0, zi 0], eI (zw Γ) a1 0 9 f0]) h hnm 0 dX2_init_9 fX2_9 qX2_0 rfl rfl rfl (Nat.le_of_ble_eq_true rfl) rfl ?_
  refine z_aload_n h dX2_init_12 rfl ?_
  refine z_bipush h dX2_init_13 (by decide) ?_
  refine u_newI 9 h dX2_init_15 rfl (by decide) ⟨by omega, by omega⟩ (fun a2 => ?_)
  show zVw Γ (w0 ++ [eO a 2 [.ref a1, .null, zi 0, zi 0, zi 0, zi 0], eI (zw Γ) a1 0 9 f0, eI (zw Γ) a2 0 9 f0]) 2 18 17 [some (.ref a)] [.ref a2, .ref a]
  refine u_putF (L' := [eO a 2 [.ref a1, .ref a2, zi 0, zi 0, zi 0, zi 0], eI (zw Γ) a1 0 9 f0, eI (zw Γ) a2 0 9 f0]) h hnm 0 dX2_init_17 fX2_15 qX2_1 rfl rfl rfl (Nat.le_of_ble_eq_true rfl) rfl ?_
  refine z_aload_n h dX2_init_20 rfl ?_
  refine z_iconst h dX2_init_21 ?_
  refine u_put (L' := [eO a 2 [.ref a1, .ref a2, zi 0, zi 0, zi 0, zi 0], eI (zw Γ) a1 0 9 f0, eI (zw Γ) a2 0 9 f0]) h 0 dX2_init_22 fX2_18 pX2_2 rfl rfl rfl (Nat.le_of_ble_eq_true rfl) rfl ?_
  refine z_aload_n h dX2_init_25 rfl ?_
  refine z_iconst h dX2_init_26 ?_
  refine u_put (L' := [eO a 2 [.ref a1, .ref a2, zi 0, zi 0, zi 0, zi 0], eI (zw Γ) a1 0 9 f0, eI (zw Γ) a2 0 9 f0]) h 0 dX2_init_27 fX2_22 pX2_3 rfl rfl rfl (Nat.le_of_ble_eq_true rfl) rfl ?_
  exact u_vret h hr dX2_init_30 ⟨rfl, _, ⟨a1, a2, rfl⟩, rfl⟩
set_option maxHeartbeats 4000000 in
set_option maxRecDepth 100000 in
theorem k_X3_init (w : zW) : zMk w mX3_init 3 [.null, .null, .null] 3 27 (fun a b => ∃ a1 a2 a3, b = [eO a 3 [.ref a1, .ref a2, .ref a3], eJ w a1 9 g0, eJ w a2 9 g0, eJ w a3 9 g0]) := by
  intro w0 a
  refine zKT_mk (own := RX3) rfl (by decide +kernel) [some (.ref a)] rfl (Nat.le_of_ble_eq_true rfl) ?_
  intro Γ h hon hr
  obtain ⟨rfl, hw, hnm, hkc, hks⟩ := hon
  have hnm : (zmt Γ).name = "<init>" := hnm
  have hkc : (zRm Γ).cells = 3 := hkc
  have hks : (zRm Γ).slots = 27 := hks
  refine z_aload_n h dX3_init_0 rfl ?_
  refine u_obj h dX3_init_1 obX3_3 (by decide) (Nat.le_of_ble_eq_true rfl) ?_
  refine z_aload_n h dX3_init_4 rfl ?_
  refine z_bipush h dX3_init_5 (by decide) ?_
  refine u_newJ 9 h dX3_init_7 rfl (by decide) ⟨by omega, by omega⟩ (fun a1 => ?_)
  show zVw Γ (w0 ++ [eO a 3 [.null, .null, .null], eJ (zw Γ) a1 9 g0]) 1 9 9 [some (.ref a)] [.ref a1, .ref a]
  refine u_putF (L' := [eO a 3 [.ref a1, .null, .null], eJ (zw Γ) a1 9 g0]) h hnm 0 dX3_init_9 fX3_9 qX3_0 rfl rfl rfl (Nat.le_of_ble_eq_true rfl) rfl ?_
  refine z_aload_n h dX3_init_12 rfl ?_
  refine z_bipush h dX3_init_13 (by decide) ?_
  refine u_newJ 9 h dX3_init_15 rfl (by decide) ⟨by omega, by omega⟩ (fun a2 => ?_)
  show zVw Γ (w0 ++ [eO a 3 [.ref a1, .null, .null], eJ (zw Γ) a1 9 g0, eJ (zw Γ) a2 9 g0]) 2 18 17 [some (.ref a)] [.ref a2, .ref a]
  refine u_putF (L' := [eO a 3 [.ref a1, .ref a2, .null], eJ (zw Γ) a1 9 g0, eJ (zw Γ) a2 9 g0]) h hnm 0 dX3_init_17 fX3_15 qX3_1 rfl rfl rfl (Nat.le_of_ble_eq_true rfl) rfl ?_
  refine z_aload_n h dX3_init_20 rfl ?_
  refine z_bipush h dX3_init_21 (by decide) ?_
  refine u_newJ 9 h dX3_init_23 rfl (by decide) ⟨by omega, by omega⟩ (fun a3 => ?_)
  show zVw Γ (w0 ++ [eO a 3 [.ref a1, .ref a2, .null], eJ (zw Γ) a1 9 g0, eJ (zw Γ) a2 9 g0, eJ (zw Γ) a3 9 g0]) 3 27 25 [some (.ref a)] [.ref a3, .ref a]
  refine u_putF (L' := [eO a 3 [.ref a1, .ref a2, .ref a3], eJ (zw Γ) a1 9 g0, eJ (zw Γ) a2 9 g0, eJ (zw Γ) a3 9 g0]) h hnm 0 dX3_init_25 fX3_18 qX3_2 rfl rfl rfl (Nat.le_of_ble_eq_true rfl) rfl ?_
  exact u_vret h hr dX3_init_28 ⟨rfl, _, ⟨a1, a2, a3, rfl⟩, rfl⟩
set_option maxHeartbeats 4000000 in
set_option maxRecDepth 100000 in
theorem k_X6_init (w : zW) : zMk w mX6_init 6 [.null, .null, zi 0, zi 0] 2 303 (fun a b => ∃ a1 a2, b = [eO a 6 [.ref a1, .ref a2, zi 0, zi 0], eI w a1 1 300 f0, eI w a2 0 3 f0]) := by
  intro w0 a
  refine zKT_mk (own := RX6) rfl (by decide +kernel) [some (.ref a)] rfl (Nat.le_of_ble_eq_true rfl) ?_
  intro Γ h hon hr
  obtain ⟨rfl, hw, hnm, hkc, hks⟩ := hon
  have hnm : (zmt Γ).name = "<init>" := hnm
  have hkc : (zRm Γ).cells = 2 := hkc
  have hks : (zRm Γ).slots = 303 := hks
  refine z_aload_n h dX6_init_0 rfl ?_
  refine u_obj h dX6_init_1 obX6_3 (by decide) (Nat.le_of_ble_eq_true rfl) ?_
  refine z_aload_n h dX6_init_4 rfl ?_
  refine z_sipush h dX6_init_5 (by decide) ?_
  refine u_newB 300 h dX6_init_8 rfl (by decide) ⟨by omega, by omega⟩ (fun a1 => ?_)
  show zVw Γ (w0 ++ [eO a 6 [.null, .null, zi 0, zi 0], eI (zw Γ) a1 1 300 f0]) 1 300 10 [some (.ref a)] [.ref a1, .ref a]
  refine u_putF (L' := [eO a 6 [.ref a1, .null, zi 0, zi 0], eI (zw Γ) a1 1 300 f0]) h hnm 0 dX6_init_10 fX6_9 qX6_0 rfl rfl rfl (Nat.le_of_ble_eq_true rfl) rfl ?_
  refine z_aload_n h dX6_init_13 rfl ?_
  refine z_iconst h dX6_init_14 ?_
  refine u_newI 3 h dX6_init_15 rfl (by decide) ⟨by omega, by omega⟩ (fun a2 => ?_)
  show zVw Γ (w0 ++ [eO a 6 [.ref a1, .null, zi 0, zi 0], eI (zw Γ) a1 1 300 f0, eI (zw Γ) a2 0 3 f0]) 2 303 17 [some (.ref a)] [.ref a2, .ref a]
  refine u_putF (L' := [eO a 6 [.ref a1, .ref a2, zi 0, zi 0], eI (zw Γ) a1 1 300 f0, eI (zw Γ) a2 0 3 f0]) h hnm 0 dX6_init_17 fX6_15 qX6_1 rfl rfl rfl (Nat.le_of_ble_eq_true rfl) rfl ?_
  refine z_aload_n h dX6_init_20 rfl ?_
  refine z_iconst h dX6_init_21 ?_
  refine u_put (L' := [eO a 6 [.ref a1, .ref a2, zi 0, zi 0], eI (zw Γ) a1 1 300 f0, eI (zw Γ) a2 0 3 f0]) h 0 dX6_init_22 fX6_19 pX6_2 rfl rfl rfl (Nat.le_of_ble_eq_true rfl) rfl ?_
  refine z_aload_n h dX6_init_25 rfl ?_
  refine z_iconst h dX6_init_26 ?_
  refine u_put (L' := [eO a 6 [.ref a1, .ref a2, zi 0, zi 0], eI (zw Γ) a1 1 300 f0, eI (zw Γ) a2 0 3 f0]) h 0 dX6_init_27 fX6_23 pX6_3 rfl rfl rfl (Nat.le_of_ble_eq_true rfl) rfl ?_
  exact u_vret h hr dX6_init_30 ⟨rfl, _, ⟨a1, a2, rfl⟩, rfl⟩
theorem k_X0_clear (w : zW) (ws : va_W) (a p0 : Nat) (v1 v2 v3 : Value) (hc : ws[p0]? = some (eO a 0 [v1, v2, v3, zi 0])) : zKT w mX0_clear [.ref a] ws 0 0 (fun r ws' => r = none ∧ ws' = ws) := by
  refine zKT_mk (own := RX0) rfl (by decide +kernel) [some (.ref a), none] rfl (Nat.le_of_ble_eq_true rfl) ?_
  intro Γ h hon hr
  refine z_aload_n h dX0_clear_0 rfl ?_
  refine z_getw h dX0_clear_1 fX0_21 p0 hc rfl ?_
  refine z_ist1_n h dX0_clear_4 (by decide) (zst1_1 rfl) ?_
  refine z_iload_n h dX0_clear_5 rfl ?_
  refine z_if_le h dX0_clear_6 (by omega) (fun b6 => ?_) (fun b6 => by exfalso; omega)
  exact u_vret h hr dX0_clear_19 ⟨rfl, rfl⟩
set_option maxHeartbeats 4000000 in
set_option maxRecDepth 100000 in
theorem k_X4_clear (w : zW) (w0 : va_W) (a a1 a2 a3 a4 a5 a6 a7 a8 : Nat) : zKT w mX4_clear [.ref a] (w0 ++ [eO a 4 [.ref a1, .ref a2, .ref a3, .ref a4, .ref a5, zi 0, zi 0, zi 0, zi 0, zi 0, zi 0], eI w a1 0 10 f0, eI w a2 0 10 f0, eI w a3 0 10 f0, eI w a4 0 10 f0, eO a5 0 [.ref a6, .ref a7, .ref a8, zi 0], eI w a6 0 8 f0, eI w a7 0 8 f0, eI w a8 0 100 f0]) 0 0 (fun r ws' => ∃ b', (r = none ∧ b' = [eO a 4 [.ref a1, .ref a2, .ref a3, .ref a4, .ref a5, zi 0, zi 0, zi 1, zi 2, zi 99, zi 0], eI w a1 0 10 f0, eI w a2 0 10 f0, eI w a3 0 10 f0, eI w a4 0 10 f0, eO a5 0 [.ref a6, .ref a7, .ref a8, zi 0], eI w a6 0 8 f0, eI w a7 0 8 f0, eI w a8 0 100 f0]) ∧ ws' = w0 ++ b') := by
  refine zKT_mk (own := RX4) rfl (by decide +kernel) [some (.ref a)] rfl (Nat.le_of_ble_eq_true rfl) ?_
  intro Γ h hon hr
  obtain ⟨rfl, hw, hnm, hkc, hks⟩ := hon
  have hkc : (zRm Γ).cells = 0 := hkc
  have hks : (zRm Γ).slots = 0 := hks
  refine z_aload_n h dX4_clear_0 rfl ?_
  refine z_iconst h dX4_clear_1 ?_
  refine u_put (L' := [eO a 4 [.ref a1, .ref a2, .ref a3, .ref a4, .ref a5, zi 0, zi 0, zi 0, zi 0, zi 0, zi 0], eI (zw Γ) a1 0 10 f0, eI (zw Γ) a2 0 10 f0, eI (zw Γ) a3 0 10 f0, eI (zw Γ) a4 0 10 f0, eO a5 0 [.ref a6, .ref a7, .ref a8, zi 0], eI (zw Γ) a6 0 8 f0, eI (zw Γ) a7 0 8 f0, eI (zw Γ) a8 0 100 f0]) h 0 dX4_clear_2 fX4_34 pX4_5 rfl rfl rfl (Nat.le_of_ble_eq_true rfl) rfl ?_
  refine z_aload_n h dX4_clear_5 rfl ?_
  refine u_get h 0 dX4_clear_6 fX4_27 rfl rfl ?_
  refine u_callV (As := []) h hw dX4_clear_9 lX4_38 vX0_clear rfl (uAt (i := 5) rfl) (k_X0_clear (zw Γ) _ a5 _ _ _ _ (uAt (i := 5) rfl)) rfl rfl (Nat.le_of_ble_eq_true rfl) (by decide) ⟨by omega, by omega⟩ (fun r ws' hp => ?_)
  obtain ⟨rfl, rfl⟩ := hp
  show zVw Γ (w0 ++ [eO a 4 [.ref a1, .ref a2, .ref a3, .ref a4, .ref a5, zi 0, zi 0, zi 0, zi 0, zi 0, zi 0], eI (zw Γ) a1 0 10 f0, eI (zw Γ) a2 0 10 f0, eI (zw Γ) a3 0 10 f0, eI (zw Γ) a4 0 10 f0, eO a5 0 [.ref a6, .ref a7, .ref a8, zi 0], eI (zw Γ) a6 0 8 f0, eI (zw Γ) a7 0 8 f0, eI (zw Γ) a8 0 100 f0]) 0 0 12 [some (.ref a)] []
  refine z_aload_n h dX4_clear_12 rfl ?_
  refine z_iconst h dX4_clear_13 ?_
  refine u_put (L' := [eO a 4 [.ref a1, .ref a2, .ref a3, .ref a4, .ref a5, zi 0, zi 0, zi 0, zi 0, zi 0, zi 0], eI (zw Γ) a1 0 10 f0, eI (zw Γ) a2 0 10 f0, eI (zw Γ) a3 0 10 f0, eI (zw Γ) a4 0 10 f0, eO a5 0 [.ref a6, .ref a7, .ref a8, zi 0], eI (zw Γ) a6 0 8 f0, eI (zw Γ) a7 0 8 f0, eI (zw Γ) a8 0 100 f0]) h 0 dX4_clear_14 fX4_39 pX4_6 rfl rfl rfl (Nat.le_of_ble_eq_true rfl) rfl ?_
  refine z_aload_n h dX4_clear_17 rfl ?_
  refine z_iconst h dX4_clear_18 ?_
  refine u_put (L' := [eO a 4 [.ref a1, .ref a2, .ref a3, .ref a4, .ref a5, zi 0, zi 0, zi 1, zi 0, zi 0, zi 0], eI (zw Γ) a1 0 10 f0, eI (zw Γ) a2 0 10 f0, eI (zw Γ) a3 0 10 f0, eI (zw Γ) a4 0 10 f0, eO a5 0 [.ref a6, .ref a7, .ref a8, zi 0], eI (zw Γ) a6 0 8 f0, eI (zw Γ) a7 0 8 f0, eI (zw Γ) a8 0 100 f0]) h 0 dX4_clear_19 fX4_42 pX4_7 rfl rfl rfl (Nat.le_of_ble_eq_true rfl) rfl ?_
  refine z_aload_n h dX4_clear_22 rfl ?_
  refine z_iconst h dX4_clear_23 ?_
  refine u_put (L' := [eO a 4 [.ref a1, .ref a2, .ref a3, .ref a4, .ref a5, zi 0, zi 0, zi 1, zi 2, zi 0, zi 0], eI (zw Γ) a1 0 10 f0, eI (zw Γ) a2 0 10 f0, eI (zw Γ) a3 0 10 f0, eI (zw Γ) a4 0 10 f0, eO a5 0 [.ref a6, .ref a7, .ref a8, zi 0], eI (zw Γ) a6 0 8 f0, eI (zw Γ) a7 0 8 f0, eI (zw Γ) a8 0 100 f0]) h 0 dX4_clear_24 fX4_45 pX4_8 rfl rfl rfl (Nat.le_of_ble_eq_true rfl) rfl ?_
  refine z_aload_n h dX4_clear_27 rfl ?_
  refine z_bipush h dX4_clear_28 (by decide) ?_
  refine u_put (L' := [eO a 4 [.ref a1, .ref a2, .ref a3, .ref a4, .ref a5, zi 0, zi 0, zi 1, zi 2, zi 99, zi 0], eI (zw Γ) a1 0 10 f0, eI (zw Γ) a2 0 10 f0, eI (zw Γ) a3 0 10 f0, eI (zw Γ) a4 0 10 f0, eO a5 0 [.ref a6, .ref a7, .ref a8, zi 0], eI (zw Γ) a6 0 8 f0, eI (zw Γ) a7 0 8 f0, eI (zw Γ) a8 0 100 f0]) h 0 dX4_clear_30 fX4_48 pX4_9 rfl rfl rfl (Nat.le_of_ble_eq_true rfl) rfl ?_
  refine z_aload_n h dX4_clear_33 rfl ?_
  refine z_iconst h dX4_clear_34 ?_
  refine u_put (L' := [eO a 4 [.ref a1, .ref a2, .ref a3, .ref a4, .ref a5, zi 0, zi 0, zi 1, zi 2, zi 99, zi 0], eI (zw Γ) a1 0 10 f0, eI (zw Γ) a2 0 10 f0, eI (zw Γ) a3 0 10 f0, eI (zw Γ) a4 0 10 f0, eO a5 0 [.ref a6, .ref a7, .ref a8, zi 0], eI (zw Γ) a6 0 8 f0, eI (zw Γ) a7 0 8 f0, eI (zw Γ) a8 0 100 f0]) h 0 dX4_clear_35 fX4_51 pX4_10 rfl rfl rfl (Nat.le_of_ble_eq_true rfl) rfl ?_
  exact u_vret h hr dX4_clear_38 ⟨_, ⟨rfl, rfl⟩, rfl⟩
set_option maxHeartbeats 4000000 in
set_option maxRecDepth 100000 in
theorem k_X4_init (w : zW) : zMk w mX4_init 4 [.null, .null, .null, .null, .null, zi 0, zi 0, zi 0, zi 0, zi 0, zi 0] 8 160 (fun a b => ∃ a1 a2 a3 a4 a5 a6 a7 a8, b = [eO a 4 [.ref a1, .ref a2, .ref a3, .ref a4, .ref a5, zi 0, zi 0, zi 1, zi 2, zi 99, zi 0], eI w a1 0 10 f0, eI w a2 0 10 f0, eI w a3 0 10 f0, eI w a4 0 10 f0, eO a5 0 [.ref a6, .ref a7, .ref a8, zi 0], eI w a6 0 8 f0, eI w a7 0 8 f0, eI w a8 0 100 f0]) := by
  intro w0 a
  refine zKT_mk (own := RX4) rfl (by decide +kernel) [some (.ref a)] rfl (Nat.le_of_ble_eq_true rfl) ?_
  intro Γ h hon hr
  obtain ⟨rfl, hw, hnm, hkc, hks⟩ := hon
  have hnm : (zmt Γ).name = "<init>" := hnm
  have hkc : (zRm Γ).cells = 8 := hkc
  have hks : (zRm Γ).slots = 160 := hks
  refine z_aload_n h dX4_init_0 rfl ?_
  refine u_obj h dX4_init_1 obX4_3 (by decide) (Nat.le_of_ble_eq_true rfl) ?_
  refine z_aload_n h dX4_init_4 rfl ?_
  refine z_bipush h dX4_init_5 (by decide) ?_
  refine u_newI 10 h dX4_init_7 rfl (by decide) ⟨by omega, by omega⟩ (fun a1 => ?_)
  show zVw Γ (w0 ++ [eO a 4 [.null, .null, .null, .null, .null, zi 0, zi 0, zi 0, zi 0, zi 0, zi 0], eI (zw Γ) a1 0 10 f0]) 1 10 9 [some (.ref a)] [.ref a1, .ref a]
  refine u_putF (L' := [eO a 4 [.ref a1, .null, .null, .null, .null, zi 0, zi 0, zi 0, zi 0, zi 0, zi 0], eI (zw Γ) a1 0 10 f0]) h hnm 0 dX4_init_9 fX4_9 qX4_0 rfl rfl rfl (Nat.le_of_ble_eq_true rfl) rfl ?_
  refine z_aload_n h dX4_init_12 rfl ?_
  refine z_bipush h dX4_init_13 (by decide) ?_
  refine u_newI 10 h dX4_init_15 rfl (by decide) ⟨by omega, by omega⟩ (fun a2 => ?_)
  show zVw Γ (w0 ++ [eO a 4 [.ref a1, .null, .null, .null, .null, zi 0, zi 0, zi 0, zi 0, zi 0, zi 0], eI (zw Γ) a1 0 10 f0, eI (zw Γ) a2 0 10 f0]) 2 20 17 [some (.ref a)] [.ref a2, .ref a]
  refine u_putF (L' := [eO a 4 [.ref a1, .ref a2, .null, .null, .null, zi 0, zi 0, zi 0, zi 0, zi 0, zi 0], eI (zw Γ) a1 0 10 f0, eI (zw Γ) a2 0 10 f0]) h hnm 0 dX4_init_17 fX4_15 qX4_1 rfl rfl rfl (Nat.le_of_ble_eq_true rfl) rfl ?_
  refine z_aload_n h dX4_init_20 rfl ?_
  refine z_bipush h dX4_init_21 (by decide) ?_
  refine u_newI 10 h dX4_init_23 rfl (by decide) ⟨by omega, by omega⟩ (fun a3 => ?_)
  show zVw Γ (w0 ++ [eO a 4 [.ref a1, .ref a2, .null, .null, .null, zi 0, zi 0, zi 0, zi 0, zi 0, zi 0], eI (zw Γ) a1 0 10 f0, eI (zw Γ) a2 0 10 f0, eI (zw Γ) a3 0 10 f0]) 3 30 25 [some (.ref a)] [.ref a3, .ref a]
  refine u_putF (L' := [eO a 4 [.ref a1, .ref a2, .ref a3, .null, .null, zi 0, zi 0, zi 0, zi 0, zi 0, zi 0], eI (zw Γ) a1 0 10 f0, eI (zw Γ) a2 0 10 f0, eI (zw Γ) a3 0 10 f0]) h hnm 0 dX4_init_25 fX4_18 qX4_2 rfl rfl rfl (Nat.le_of_ble_eq_true rfl) rfl ?_
  refine z_aload_n h dX4_init_28 rfl ?_
  refine z_bipush h dX4_init_29 (by decide) ?_
  refine u_newI 10 h dX4_init_31 rfl (by decide) ⟨by omega, by omega⟩ (fun a4 => ?_)
  show zVw Γ (w0 ++ [eO a 4 [.ref a1, .ref a2, .ref a3, .null, .null, zi 0, zi 0, zi 0, zi 0, zi 0, zi 0], eI (zw Γ) a1 0 10 f0, eI (zw Γ) a2 0 10 f0, eI (zw Γ) a3 0 10 f0, eI (zw Γ) a4 0 10 f0]) 4 40 33 [some (.ref a)] [.ref a4, .ref a]
  refine u_putF (L' := [eO a 4 [.ref a1, .ref a2, .ref a3, .ref a4, .null, zi 0, zi 0, zi 0, zi 0, zi 0, zi 0], eI (zw Γ) a1 0 10 f0, eI (zw Γ) a2 0 10 f0, eI (zw Γ) a3 0 10 f0, eI (zw Γ) a4 0 10 f0]) h hnm 0 dX4_init_33 fX4_21 qX4_3 rfl rfl rfl (Nat.le_of_ble_eq_true rfl) rfl ?_
  refine z_aload_n h dX4_init_36 rfl ?_
  refine u_make h hw dX4_init_37 dX4_init_40 dX4_init_41 neX4_24 (ilX4_26 hw) (k_X0_init (zw Γ)) (Nat.le_of_ble_eq_true rfl) (by decide) ⟨by omega, by omega⟩ (fun a5 bl hB => ?_)
  obtain ⟨a6, a7, a8, rfl⟩ := hB
  show zVw Γ (w0 ++ [eO a 4 [.ref a1, .ref a2, .ref a3, .ref a4, .null, zi 0, zi 0, zi 0, zi 0, zi 0, zi 0], eI (zw Γ) a1 0 10 f0, eI (zw Γ) a2 0 10 f0, eI (zw Γ) a3 0 10 f0, eI (zw Γ) a4 0 10 f0, eO a5 0 [.ref a6, .ref a7, .ref a8, zi 0], eI (zw Γ) a6 0 8 f0, eI (zw Γ) a7 0 8 f0, eI (zw Γ) a8 0 100 f0]) 8 160 44 [some (.ref a)] [.ref a5, .ref a]
  refine u_putF (L' := [eO a 4 [.ref a1, .ref a2, .ref a3, .ref a4, .ref a5, zi 0, zi 0, zi 0, zi 0, zi 0, zi 0], eI (zw Γ) a1 0 10 f0, eI (zw Γ) a2 0 10 f0, eI (zw Γ) a3 0 10 f0, eI (zw Γ) a4 0 10 f0, eO a5 0 [.ref a6, .ref a7, .ref a8, zi 0], eI (zw Γ) a6 0 8 f0, eI (zw Γ) a7 0 8 f0, eI (zw Γ) a8 0 100 f0]) h hnm 0 dX4_init_44 fX4_27 qX4_4 rfl rfl rfl (Nat.le_of_ble_eq_true rfl) rfl ?_
  refine z_aload_n h dX4_init_47 rfl ?_
  refine u_callB (L := []) (bl := [eO a 4 [.ref a1, .ref a2, .ref a3, .ref a4, .ref a5, zi 0, zi 0, zi 0, zi 0, zi 0, zi 0], eI (zw Γ) a1 0 10 f0, eI (zw Γ) a2 0 10 f0, eI (zw Γ) a3 0 10 f0, eI (zw Γ) a4 0 10 f0, eO a5 0 [.ref a6, .ref a7, .ref a8, zi 0], eI (zw Γ) a6 0 8 f0, eI (zw Γ) a7 0 8 f0, eI (zw Γ) a8 0 100 f0]) (As := []) (i := 0) h hw dX4_init_48 lX4_31 vX4_clear rfl rfl (k_X4_clear (zw Γ) (w0 ++ []) a a1 a2 a3 a4 a5 a6 a7 a8) rfl rfl (Nat.le_of_ble_eq_true rfl) (by decide) ⟨by omega, by omega⟩ (fun r bl' hp => ?_)
  obtain ⟨rfl, rfl⟩ := hp
  show zVw Γ (w0 ++ [eO a 4 [.ref a1, .ref a2, .ref a3, .ref a4, .ref a5, zi 0, zi 0, zi 1, zi 2, zi 99, zi 0], eI (zw Γ) a1 0 10 f0, eI (zw Γ) a2 0 10 f0, eI (zw Γ) a3 0 10 f0, eI (zw Γ) a4 0 10 f0, eO a5 0 [.ref a6, .ref a7, .ref a8, zi 0], eI (zw Γ) a6 0 8 f0, eI (zw Γ) a7 0 8 f0, eI (zw Γ) a8 0 100 f0]) 8 160 51 [some (.ref a)] []
  exact u_vret h hr dX4_init_51 ⟨rfl, _, ⟨a1, a2, a3, a4, a5, a6, a7, a8, rfl⟩, rfl⟩
set_option maxHeartbeats 4000000 in
set_option maxRecDepth 100000 in
theorem k_X1_init (w : zW) : zMk w mX1_init 1 [.null, .null, .null, .null, .null, .null, .null, zi 0, zi 0, zi 0, zi 0, zi 0, zi 0, zi 0, zi 0, zi 0] 15 215 (fun a b => ∃ a1 a2 a3 a4 a5 a6 a7 a8 a9 a10 a11 a12 a13 a14 a15, b = [eO a 1 [.ref a1, .ref a2, .ref a3, .ref a4, .ref a5, .ref a6, .ref a7, zi 0, zi 0, zi 0, zi 0, zi 0, zi 0, zi 0, zi 0, zi 0], eI w a1 0 10 f0, eI w a2 0 10 f0, eI w a3 3 10 f0, eI w a4 0 10 f0, eI w a5 0 2 f0, eI w a6 0 2 f0, eO a7 4 [.ref a8, .ref a9, .ref a10, .ref a11, .ref a12, zi 0, zi 0, zi 1, zi 2, zi 99, zi 0], eI w a8 0 10 f0, eI w a9 0 10 f0, eI w a10 0 10 f0, eI w a11 0 10 f0, eO a12 0 [.ref a13, .ref a14, .ref a15, zi 0], eI w a13 0 8 f0, eI w a14 0 8 f0, eI w a15 0 100 f0]) := by
  intro w0 a
  refine zKT_mk (own := RX1) rfl (by decide +kernel) [some (.ref a)] rfl (Nat.le_of_ble_eq_true rfl) ?_
  intro Γ h hon hr
  obtain ⟨rfl, hw, hnm, hkc, hks⟩ := hon
  have hnm : (zmt Γ).name = "<init>" := hnm
  have hkc : (zRm Γ).cells = 15 := hkc
  have hks : (zRm Γ).slots = 215 := hks
  refine z_aload_n h dX1_init_0 rfl ?_
  refine u_obj h dX1_init_1 obX1_3 (by decide) (Nat.le_of_ble_eq_true rfl) ?_
  refine z_aload_n h dX1_init_4 rfl ?_
  refine z_bipush h dX1_init_5 (by decide) ?_
  refine u_newI 10 h dX1_init_7 rfl (by decide) ⟨by omega, by omega⟩ (fun a1 => ?_)
  show zVw Γ (w0 ++ [eO a 1 [.null, .null, .null, .null, .null, .null, .null, zi 0, zi 0, zi 0, zi 0, zi 0, zi 0, zi 0, zi 0, zi 0], eI (zw Γ) a1 0 10 f0]) 1 10 9 [some (.ref a)] [.ref a1, .ref a]
  refine u_putF (L' := [eO a 1 [.ref a1, .null, .null, .null, .null, .null, .null, zi 0, zi 0, zi 0, zi 0, zi 0, zi 0, zi 0, zi 0, zi 0], eI (zw Γ) a1 0 10 f0]) h hnm 0 dX1_init_9 fX1_9 qX1_0 rfl rfl rfl (Nat.le_of_ble_eq_true rfl) rfl ?_
  refine z_aload_n h dX1_init_12 rfl ?_
  refine z_bipush h dX1_init_13 (by decide) ?_
  refine u_newI 10 h dX1_init_15 rfl (by decide) ⟨by omega, by omega⟩ (fun a2 => ?_)
  show zVw Γ (w0 ++ [eO a 1 [.ref a1, .null, .null, .null, .null, .null, .null, zi 0, zi 0, zi 0, zi 0, zi 0, zi 0, zi 0, zi 0, zi 0], eI (zw Γ) a1 0 10 f0, eI (zw Γ) a2 0 10 f0]) 2 20 17 [some (.ref a)] [.ref a2, .ref a]
  refine u_putF (L' := [eO a 1 [.ref a1, .ref a2, .null, .null, .null, .null, .null, zi 0, zi 0, zi 0, zi 0, zi 0, zi 0, zi 0, zi 0, zi 0], eI (zw Γ) a1 0 10 f0, eI (zw Γ) a2 0 10 f0]) h hnm 0 dX1_init_17 fX1_15 qX1_1 rfl rfl rfl (Nat.le_of_ble_eq_true rfl) rfl ?_
  refine z_aload_n h dX1_init_20 rfl ?_
  refine z_bipush h dX1_init_21 (by decide) ?_
  refine u_newZ 10 h dX1_init_23 rfl (by decide) ⟨by omega, by omega⟩ (fun a3 => ?_)
  show zVw Γ (w0 ++ [eO a 1 [.ref a1, .ref a2, .null, .null, .null, .null, .null, zi 0, zi 0, zi 0, zi 0, zi 0, zi 0, zi 0, zi 0, zi 0], eI (zw Γ) a1 0 10 f0, eI (zw Γ) a2 0 10 f0, eI (zw Γ) a3 3 10 f0]) 3 30 25 [some (.ref a)] [.ref a3, .ref a]
  refine u_putF (L' := [eO a 1 [.ref a1, .ref a2, .ref a3, .null, .null, .null, .null, zi 0, zi 0, zi 0, zi 0, zi 0, zi 0, zi 0, zi 0, zi 0], eI (zw Γ) a1 0 10 f0, eI (zw Γ) a2 0 10 f0, eI (zw Γ) a3 3 10 f0]) h hnm 0 dX1_init_25 fX1_18 qX1_2 rfl rfl rfl (Nat.le_of_ble_eq_true rfl) rfl ?_
  refine z_aload_n h dX1_init_28 rfl ?_
  refine z_bipush h dX1_init_29 (by decide) ?_
  refine u_newI 10 h dX1_init_31 rfl (by decide) ⟨by omega, by omega⟩ (fun a4 => ?_)
  show zVw Γ (w0 ++ [eO a 1 [.ref a1, .ref a2, .ref a3, .null, .null, .null, .null, zi 0, zi 0, zi 0, zi 0, zi 0, zi 0, zi 0, zi 0, zi 0], eI (zw Γ) a1 0 10 f0, eI (zw Γ) a2 0 10 f0, eI (zw Γ) a3 3 10 f0, eI (zw Γ) a4 0 10 f0]) 4 40 33 [some (.ref a)] [.ref a4, .ref a]
  refine u_putF (L' := [eO a 1 [.ref a1, .ref a2, .ref a3, .ref a4, .null, .null, .null, zi 0, zi 0, zi 0, zi 0, zi 0, zi 0, zi 0, zi 0, zi 0], eI (zw Γ) a1 0 10 f0, eI (zw Γ) a2 0 10 f0, eI (zw Γ) a3 3 10 f0, eI (zw Γ) a4 0 10 f0]) h hnm 0 dX1_init_33 fX1_22 qX1_3 rfl rfl rfl (Nat.le_of_ble_eq_true rfl) rfl ?_
  refine z_aload_n h dX1_init_36 rfl ?_
  refine z_iconst h dX1_init_37 ?_
  refine u_newI 2 h dX1_init_38 rfl (by decide) ⟨by omega, by omega⟩ (fun a5 => ?_)
  show zVw Γ (w0 ++ [eO a 1 [.ref a1, .ref a2, .ref a3, .ref a4, .null, .null, .null, zi 0, zi 0, zi 0, zi 0, zi 0, zi 0, zi 0, zi 0, zi 0], eI (zw Γ) a1 0 10 f0, eI (zw Γ) a2 0 10 f0, eI (zw Γ) a3 3 10 f0, eI (zw Γ) a4 0 10 f0, eI (zw Γ) a5 0 2 f0]) 5 42 40 [some (.ref a)] [.ref a5, .ref a]
  refine u_putF (L' := [eO a 1 [.ref a1, .ref a2, .ref a3, .ref a4, .ref a5, .null, .null, zi 0, zi 0, zi 0, zi 0, zi 0, zi 0, zi 0, zi 0, zi 0], eI (zw Γ) a1 0 10 f0, eI (zw Γ) a2 0 10 f0, eI (zw Γ) a3 3 10 f0, eI (zw Γ) a4 0 10 f0, eI (zw Γ) a5 0 2 f0]) h hnm 0 dX1_init_40 fX1_25 qX1_4 rfl rfl rfl (Nat.le_of_ble_eq_true rfl) rfl ?_
  refine z_aload_n h dX1_init_43 rfl ?_
  refine z_iconst h dX1_init_44 ?_
  refine u_newI 2 h dX1_init_45 rfl (by decide) ⟨by omega, by omega⟩ (fun a6 => ?_)
  show zVw Γ (w0 ++ [eO a 1 [.ref a1, .ref a2, .ref a3, .ref a4, .ref a5, .null, .null, zi 0, zi 0, zi 0, zi 0, zi 0, zi 0, zi 0, zi 0, zi 0], eI (zw Γ) a1 0 10 f0, eI (zw Γ) a2 0 10 f0, eI (zw Γ) a3 3 10 f0, eI (zw Γ) a4 0 10 f0, eI (zw Γ) a5 0 2 f0, eI (zw Γ) a6 0 2 f0]) 6 44 47 [some (.ref a)] [.ref a6, .ref a]
  refine u_putF (L' := [eO a 1 [.ref a1, .ref a2, .ref a3, .ref a4, .ref a5, .ref a6, .null, zi 0, zi 0, zi 0, zi 0, zi 0, zi 0, zi 0, zi 0, zi 0], eI (zw Γ) a1 0 10 f0, eI (zw Γ) a2 0 10 f0, eI (zw Γ) a3 3 10 f0, eI (zw Γ) a4 0 10 f0, eI (zw Γ) a5 0 2 f0, eI (zw Γ) a6 0 2 f0]) h hnm 0 dX1_init_47 fX1_28 qX1_5 rfl rfl rfl (Nat.le_of_ble_eq_true rfl) rfl ?_
  refine z_aload_n h dX1_init_50 rfl ?_
  refine u_make h hw dX1_init_51 dX1_init_54 dX1_init_55 neX1_31 (ilX1_33 hw) (k_X4_init (zw Γ)) (Nat.le_of_ble_eq_true rfl) (by decide) ⟨by omega, by omega⟩ (fun a7 bl hB => ?_)
  obtain ⟨a8, a9, a10, a11, a12, a13, a14, a15, rfl⟩ := hB
  show zVw Γ (w0 ++ [eO a 1 [.ref a1, .ref a2, .ref a3, .ref a4, .ref a5, .ref a6, .null, zi 0, zi 0, zi 0, zi 0, zi 0, zi 0, zi 0, zi 0, zi 0], eI (zw Γ) a1 0 10 f0, eI (zw Γ) a2 0 10 f0, eI (zw Γ) a3 3 10 f0, eI (zw Γ) a4 0 10 f0, eI (zw Γ) a5 0 2 f0, eI (zw Γ) a6 0 2 f0, eO a7 4 [.ref a8, .ref a9, .ref a10, .ref a11, .ref a12, zi 0, zi 0, zi 1, zi 2, zi 99, zi 0], eI (zw Γ) a8 0 10 f0, eI (zw Γ) a9 0 10 f0, eI (zw Γ) a10 0 10 f0, eI (zw Γ) a11 0 10 f0, eO a12 0 [.ref a13, .ref a14, .ref a15, zi 0], eI (zw Γ) a13 0 8 f0, eI (zw Γ) a14 0 8 f0, eI (zw Γ) a15 0 100 f0]) 15 215 58 [some (.ref a)] [.ref a7, .ref a]
  refine u_put (L' := [eO a 1 [.ref a1, .ref a2, .ref a3, .ref a4, .ref a5, .ref a6, .ref a7, zi 0, zi 0, zi 0, zi 0, zi 0, zi 0, zi 0, zi 0, zi 0], eI (zw Γ) a1 0 10 f0, eI (zw Γ) a2 0 10 f0, eI (zw Γ) a3 3 10 f0, eI (zw Γ) a4 0 10 f0, eI (zw Γ) a5 0 2 f0, eI (zw Γ) a6 0 2 f0, eO a7 4 [.ref a8, .ref a9, .ref a10, .ref a11, .ref a12, zi 0, zi 0, zi 1, zi 2, zi 99, zi 0], eI (zw Γ) a8 0 10 f0, eI (zw Γ) a9 0 10 f0, eI (zw Γ) a10 0 10 f0, eI (zw Γ) a11 0 10 f0, eO a12 0 [.ref a13, .ref a14, .ref a15, zi 0], eI (zw Γ) a13 0 8 f0, eI (zw Γ) a14 0 8 f0, eI (zw Γ) a15 0 100 f0]) h 0 dX1_init_58 fX1_34 pX1_6 rfl rfl rfl (Nat.le_of_ble_eq_true rfl) rfl ?_
  exact u_vret h hr dX1_init_61 ⟨rfl, _, ⟨a1, a2, a3, a4, a5, a6, a7, a8, a9, a10, a11, a12, a13, a14, a15, rfl⟩, rfl⟩
set_option maxHeartbeats 4000000 in
set_option maxRecDepth 100000 in
theorem k_X5_init (w : zW) : zMk w mX5_init 5 [.null, .null, .null, zi 0, zi 0, zi 0, zi 0, zi 0] 18 519 (fun a b => ∃ a1 a2 a3 a4 a5 a6 a7 a8 a9 a10 a11 a12 a13 a14 a15 a16 a17 a18, b = [eO a 5 [.ref a1, .ref a17, .ref a18, zi 0, zi 0, zi 0, zi 0, zi 0], eO a1 1 [.ref a2, .ref a3, .ref a4, .ref a5, .ref a6, .ref a7, .ref a8, zi 0, zi 0, zi 0, zi 0, zi 0, zi 0, zi 0, zi 0, zi 0], eI w a2 0 10 f0, eI w a3 0 10 f0, eI w a4 3 10 f0, eI w a5 0 10 f0, eI w a6 0 2 f0, eI w a7 0 2 f0, eO a8 4 [.ref a9, .ref a10, .ref a11, .ref a12, .ref a13, zi 0, zi 0, zi 1, zi 2, zi 99, zi 0], eI w a9 0 10 f0, eI w a10 0 10 f0, eI w a11 0 10 f0, eI w a12 0 10 f0, eO a13 0 [.ref a14, .ref a15, .ref a16, zi 0], eI w a14 0 8 f0, eI w a15 0 8 f0, eI w a16 0 100 f0, eI w a17 0 144 f0, eI w a18 0 144 f0]) := by
  intro w0 a
  refine zKT_mk (own := RX5) rfl (by decide +kernel) [some (.ref a)] rfl (Nat.le_of_ble_eq_true rfl) ?_
  intro Γ h hon hr
  obtain ⟨rfl, hw, hnm, hkc, hks⟩ := hon
  have hnm : (zmt Γ).name = "<init>" := hnm
  have hkc : (zRm Γ).cells = 18 := hkc
  have hks : (zRm Γ).slots = 519 := hks
  refine z_aload_n h dX5_init_0 rfl ?_
  refine u_obj h dX5_init_1 obX5_3 (by decide) (Nat.le_of_ble_eq_true rfl) ?_
  refine z_aload_n h dX5_init_4 rfl ?_
  refine u_make h hw dX5_init_5 dX5_init_8 dX5_init_9 neX5_9 (ilX5_11 hw) (k_X1_init (zw Γ)) (Nat.le_of_ble_eq_true rfl) (by decide) ⟨by omega, by omega⟩ (fun a1 bl hB => ?_)
  obtain ⟨a2, a3, a4, a5, a6, a7, a8, a9, a10, a11, a12, a13, a14, a15, a16, rfl⟩ := hB
  show zVw Γ (w0 ++ [eO a 5 [.null, .null, .null, zi 0, zi 0, zi 0, zi 0, zi 0], eO a1 1 [.ref a2, .ref a3, .ref a4, .ref a5, .ref a6, .ref a7, .ref a8, zi 0, zi 0, zi 0, zi 0, zi 0, zi 0, zi 0, zi 0, zi 0], eI (zw Γ) a2 0 10 f0, eI (zw Γ) a3 0 10 f0, eI (zw Γ) a4 3 10 f0, eI (zw Γ) a5 0 10 f0, eI (zw Γ) a6 0 2 f0, eI (zw Γ) a7 0 2 f0, eO a8 4 [.ref a9, .ref a10, .ref a11, .ref a12, .ref a13, zi 0, zi 0, zi 1, zi 2, zi 99, zi 0], eI (zw Γ) a9 0 10 f0, eI (zw Γ) a10 0 10 f0, eI (zw Γ) a11 0 10 f0, eI (zw Γ) a12 0 10 f0, eO a13 0 [.ref a14, .ref a15, .ref a16, zi 0], eI (zw Γ) a14 0 8 f0, eI (zw Γ) a15 0 8 f0, eI (zw Γ) a16 0 100 f0]) 16 231 12 [some (.ref a)] [.ref a1, .ref a]
  refine u_putF (L' := [eO a 5 [.ref a1, .null, .null, zi 0, zi 0, zi 0, zi 0, zi 0], eO a1 1 [.ref a2, .ref a3, .ref a4, .ref a5, .ref a6, .ref a7, .ref a8, zi 0, zi 0, zi 0, zi 0, zi 0, zi 0, zi 0, zi 0, zi 0], eI (zw Γ) a2 0 10 f0, eI (zw Γ) a3 0 10 f0, eI (zw Γ) a4 3 10 f0, eI (zw Γ) a5 0 10 f0, eI (zw Γ) a6 0 2 f0, eI (zw Γ) a7 0 2 f0, eO a8 4 [.ref a9, .ref a10, .ref a11, .ref a12, .ref a13, zi 0, zi 0, zi 1, zi 2, zi 99, zi 0], eI (zw Γ) a9 0 10 f0, eI (zw Γ) a10 0 10 f0, eI (zw Γ) a11 0 10 f0, eI (zw Γ) a12 0 10 f0, eO a13 0 [.ref a14, .ref a15, .ref a16, zi 0], eI (zw Γ) a14 0 8 f0, eI (zw Γ) a15 0 8 f0, eI (zw Γ) a16 0 100 f0]) h hnm 0 dX5_init_12 fX5_12 qX5_0 rfl rfl rfl (Nat.le_of_ble_eq_true rfl) rfl ?_
  refine z_aload_n h dX5_init_15 rfl ?_
  refine z_sipush h dX5_init_16 (by decide) ?_
  refine u_newI 144 h dX5_init_19 rfl (by decide) ⟨by omega, by omega⟩ (fun a17 => ?_)
  show zVw Γ (w0 ++ [eO a 5 [.ref a1, .null, .null, zi 0, zi 0, zi 0, zi 0, zi 0], eO a1 1 [.ref a2, .ref a3, .ref a4, .ref a5, .ref a6, .ref a7, .ref a8, zi 0, zi 0, zi 0, zi 0, zi 0, zi 0, zi 0, zi 0, zi 0], eI (zw Γ) a2 0 10 f0, eI (zw Γ) a3 0 10 f0, eI (zw Γ) a4 3 10 f0, eI (zw Γ) a5 0 10 f0, eI (zw Γ) a6 0 2 f0, eI (zw Γ) a7 0 2 f0, eO a8 4 [.ref a9, .ref a10, .ref a11, .ref a12, .ref a13, zi 0, zi 0, zi 1, zi 2, zi 99, zi 0], eI (zw Γ) a9 0 10 f0, eI (zw Γ) a10 0 10 f0, eI (zw Γ) a11 0 10 f0, eI (zw Γ) a12 0 10 f0, eO a13 0 [.ref a14, .ref a15, .ref a16, zi 0], eI (zw Γ) a14 0 8 f0, eI (zw Γ) a15 0 8 f0, eI (zw Γ) a16 0 100 f0, eI (zw Γ) a17 0 144 f0]) 17 375 21 [some (.ref a)] [.ref a17, .ref a]
  refine u_putF (L' := [eO a 5 [.ref a1, .ref a17, .null, zi 0, zi 0, zi 0, zi 0, zi 0], eO a1 1 [.ref a2, .ref a3, .ref a4, .ref a5, .ref a6, .ref a7, .ref a8, zi 0, zi 0, zi 0, zi 0, zi 0, zi 0, zi 0, zi 0, zi 0], eI (zw Γ) a2 0 10 f0, eI (zw Γ) a3 0 10 f0, eI (zw Γ) a4 3 10 f0, eI (zw Γ) a5 0 10 f0, eI (zw Γ) a6 0 2 f0, eI (zw Γ) a7 0 2 f0, eO a8 4 [.ref a9, .ref a10, .ref a11, .ref a12, .ref a13, zi 0, zi 0, zi 1, zi 2, zi 99, zi 0], eI (zw Γ) a9 0 10 f0, eI (zw Γ) a10 0 10 f0, eI (zw Γ) a11 0 10 f0, eI (zw Γ) a12 0 10 f0, eO a13 0 [.ref a14, .ref a15, .ref a16, zi 0], eI (zw Γ) a14 0 8 f0, eI (zw Γ) a15 0 8 f0, eI (zw Γ) a16 0 100 f0, eI (zw Γ) a17 0 144 f0]) h hnm 0 dX5_init_21 fX5_18 qX5_1 rfl rfl rfl (Nat.le_of_ble_eq_true rfl) rfl ?_
  refine z_aload_n h dX5_init_24 rfl ?_
  refine z_sipush h dX5_init_25 (by decide) ?_
  refine u_newI 144 h dX5_init_28 rfl (by decide) ⟨by omega, by omega⟩ (fun a18 => ?_)
  show zVw Γ (w0 ++ [eO a 5 [.ref a1, .ref a17, .null, zi 0, zi 0, zi 0, zi 0, zi 0], eO a1 1 [.ref a2, .ref a3, .ref a4, .ref a5, .ref a6, .ref a7, .ref a8, zi 0, zi 0, zi 0, zi 0, zi 0, zi 0, zi 0, zi 0, zi 0], eI (zw Γ) a2 0 10 f0, eI (zw Γ) a3 0 10 f0, eI (zw Γ) a4 3 10 f0, eI (zw Γ) a5 0 10 f0, eI (zw Γ) a6 0 2 f0, eI (zw Γ) a7 0 2 f0, eO a8 4 [.ref a9, .ref a10, .ref a11, .ref a12, .ref a13, zi 0, zi 0, zi 1, zi 2, zi 99, zi 0], eI (zw Γ) a9 0 10 f0, eI (zw Γ) a10 0 10 f0, eI (zw Γ) a11 0 10 f0, eI (zw Γ) a12 0 10 f0, eO a13 0 [.ref a14, .ref a15, .ref a16, zi 0], eI (zw Γ) a14 0 8 f0, eI (zw Γ) a15 0 8 f0, eI (zw Γ) a16 0 100 f0, eI (zw Γ) a17 0 144 f0, eI (zw Γ) a18 0 144 f0]) 18 519 30 [some (.ref a)] [.ref a18, .ref a]
  refine u_putF (L' := [eO a 5 [.ref a1, .ref a17, .ref a18, zi 0, zi 0, zi 0, zi 0, zi 0], eO a1 1 [.ref a2, .ref a3, .ref a4, .ref a5, .ref a6, .ref a7, .ref a8, zi 0, zi 0, zi 0, zi 0, zi 0, zi 0, zi 0, zi 0, zi 0], eI (zw Γ) a2 0 10 f0, eI (zw Γ) a3 0 10 f0, eI (zw Γ) a4 3 10 f0, eI (zw Γ) a5 0 10 f0, eI (zw Γ) a6 0 2 f0, eI (zw Γ) a7 0 2 f0, eO a8 4 [.ref a9, .ref a10, .ref a11, .ref a12, .ref a13, zi 0, zi 0, zi 1, zi 2, zi 99, zi 0], eI (zw Γ) a9 0 10 f0, eI (zw Γ) a10 0 10 f0, eI (zw Γ) a11 0 10 f0, eI (zw Γ) a12 0 10 f0, eO a13 0 [.ref a14, .ref a15, .ref a16, zi 0], eI (zw Γ) a14 0 8 f0, eI (zw Γ) a15 0 8 f0, eI (zw Γ) a16 0 100 f0, eI (zw Γ) a17 0 144 f0, eI (zw Γ) a18 0 144 f0]) h hnm 0 dX5_init_30 fX5_22 qX5_2 rfl rfl rfl (Nat.le_of_ble_eq_true rfl) rfl ?_
  exact u_vret h hr dX5_init_33 ⟨rfl, _, ⟨a1, a2, a3, a4, a5, a6, a7, a8, a9, a10, a11, a12, a13, a14, a15, a16, a17, a18, rfl⟩, rfl⟩
set_option maxHeartbeats 4000000 in
set_option maxRecDepth 100000 in
theorem k_X4_addPerson0 (w : zW) (w0 : va_W) (a a1 a2 a3 a4 a5 a6 a7 a8 : Nat) : zKT w mX4_addPerson [.ref a, zi 0, zi 0, zi 50] (w0 ++ [eO a 4 [.ref a1, .ref a2, .ref a3, .ref a4, .ref a5, zi 0, zi 0, zi 1, zi 2, zi 99, zi 0], eI w a1 0 10 f0, eI w a2 0 10 f0, eI w a3 0 10 f0, eI w a4 0 10 f0, eO a5 0 [.ref a6, .ref a7, .ref a8, zi 0], eI w a6 0 8 f0, eI w a7 0 8 f0, eI w a8 0 100 f0]) 0 0 (fun r ws' => ∃ b', (r = some (zi 1) ∧ b' = [eO a 4 [.ref a1, .ref a2, .ref a3, .ref a4, .ref a5, zi 1, zi 0, zi 1, zi 2, zi 99, zi 0], eI w a1 0 10 (upd f0 0 (Int32.ofInt 0)), eI w a2 0 10 (upd f0 0 (Int32.ofInt 0)), eI w a3 0 10 (upd f0 0 (Int32.ofInt 50)), eI w a4 0 10 (upd f0 0 (Int32.ofInt 0)), eO a5 0 [.ref a6, .ref a7, .ref a8, zi 0], eI w a6 0 8 f0, eI w a7 0 8 f0, eI w a8 0 100 f0]) ∧ ws' = w0 ++ b') := by
  refine zKT_mk (own := RX4) rfl (by decide +kernel) [some (.ref a), some (zi 0), some (zi 0), some (zi 50), none] rfl (Nat.le_of_ble_eq_true rfl) ?_
  intro Γ h hon hr
  obtain ⟨rfl, hw, hnm, hkc, hks⟩ := hon
  have hkc : (zRm Γ).cells = 0 := hkc
  have hks : (zRm Γ).slots = 0 := hks
  refine z_aload_n h dX4_addPerson_0 rfl ?_
  refine u_get h 0 dX4_addPerson_1 fX4_34 rfl rfl ?_
  refine z_bipush h dX4_addPerson_4 (by decide) ?_
  refine z_icmp_ge h dX4_addPerson_6 (by omega) (by omega) (fun b6 => by exfalso; omega) (fun b6 => ?_)
  refine z_iload_n h dX4_addPerson_9 rfl ?_
  refine z_iconst h dX4_addPerson_10 ?_
  refine z_icmp_gt h dX4_addPerson_11 (by omega) (by omega) (fun b11 => by exfalso; omega) (fun b11 => ?_)
  refine z_iload_n h dX4_addPerson_14 rfl ?_
  refine z_iconst h dX4_addPerson_15 ?_
  refine z_icmp_ge h dX4_addPerson_16 (by omega) (by omega) (fun b16 => ?_) (fun b16 => by exfalso; omega)
  refine z_aload_n h dX4_addPerson_21 rfl ?_
  refine u_get h 0 dX4_addPerson_22 fX4_9 rfl rfl ?_
  refine z_aload_n h dX4_addPerson_25 rfl ?_
  refine u_get h 0 dX4_addPerson_26 fX4_34 rfl rfl ?_
  refine z_iload_n h dX4_addPerson_29 rfl ?_
  refine u_iast (L' := [eO a 4 [.ref a1, .ref a2, .ref a3, .ref a4, .ref a5, zi 0, zi 0, zi 1, zi 2, zi 99, zi 0], eI (zw Γ) a1 0 10 (upd f0 0 (Int32.ofInt 0)), eI (zw Γ) a2 0 10 f0, eI (zw Γ) a3 0 10 f0, eI (zw Γ) a4 0 10 f0, eO a5 0 [.ref a6, .ref a7, .ref a8, zi 0], eI (zw Γ) a6 0 8 f0, eI (zw Γ) a7 0 8 f0, eI (zw Γ) a8 0 100 f0]) h 1 dX4_addPerson_30 rfl (by decide) (by decide) rfl ?_
  refine z_aload_n h dX4_addPerson_31 rfl ?_
  refine u_get h 0 dX4_addPerson_32 fX4_15 rfl rfl ?_
  refine z_aload_n h dX4_addPerson_35 rfl ?_
  refine u_get h 0 dX4_addPerson_36 fX4_34 rfl rfl ?_
  refine z_iload_n h dX4_addPerson_39 rfl ?_
  refine u_iast (L' := [eO a 4 [.ref a1, .ref a2, .ref a3, .ref a4, .ref a5, zi 0, zi 0, zi 1, zi 2, zi 99, zi 0], eI (zw Γ) a1 0 10 (upd f0 0 (Int32.ofInt 0)), eI (zw Γ) a2 0 10 (upd f0 0 (Int32.ofInt 0)), eI (zw Γ) a3 0 10 f0, eI (zw Γ) a4 0 10 f0, eO a5 0 [.ref a6, .ref a7, .ref a8, zi 0], eI (zw Γ) a6 0 8 f0, eI (zw Γ) a7 0 8 f0, eI (zw Γ) a8 0 100 f0]) h 2 dX4_addPerson_40 rfl (by decide) (by decide) rfl ?_
  refine z_aload_n h dX4_addPerson_41 rfl ?_
  refine u_get h 0 dX4_addPerson_42 fX4_18 rfl rfl ?_
  refine z_aload_n h dX4_addPerson_45 rfl ?_
  refine u_get h 0 dX4_addPerson_46 fX4_34 rfl rfl ?_
  refine z_iload_n h dX4_addPerson_49 rfl ?_
  refine u_iast (L' := [eO a 4 [.ref a1, .ref a2, .ref a3, .ref a4, .ref a5, zi 0, zi 0, zi 1, zi 2, zi 99, zi 0], eI (zw Γ) a1 0 10 (upd f0 0 (Int32.ofInt 0)), eI (zw Γ) a2 0 10 (upd f0 0 (Int32.ofInt 0)), eI (zw Γ) a3 0 10 (upd f0 0 (Int32.ofInt 50)), eI (zw Γ) a4 0 10 f0, eO a5 0 [.ref a6, .ref a7, .ref a8, zi 0], eI (zw Γ) a6 0 8 f0, eI (zw Γ) a7 0 8 f0, eI (zw Γ) a8 0 100 f0]) h 3 dX4_addPerson_50 rfl (by decide) (by decide) rfl ?_
  refine z_aload_n h dX4_addPerson_51 rfl ?_
  refine u_get h 0 dX4_addPerson_52 fX4_34 rfl rfl ?_
  refine z_ist1 h dX4_addPerson_55 (by decide) (zst1_4 rfl) ?_
  refine z_iload h dX4_addPerson_57 rfl ?_
  refine z_if_le h dX4_addPerson_59 (by omega) (fun b59 => ?_) (fun b59 => by exfalso; omega)
  refine z_aload_n h dX4_addPerson_102 rfl ?_
  refine u_get h 0 dX4_addPerson_103 fX4_21 rfl rfl ?_
  refine z_iload h dX4_addPerson_106 rfl ?_
  refine z_aload_n h dX4_addPerson_108 rfl ?_
  refine u_get h 0 dX4_addPerson_109 fX4_34 rfl rfl ?_
  refine u_iast (L' := [eO a 4 [.ref a1, .ref a2, .ref a3, .ref a4, .ref a5, zi 0, zi 0, zi 1, zi 2, zi 99, zi 0], eI (zw Γ) a1 0 10 (upd f0 0 (Int32.ofInt 0)), eI (zw Γ) a2 0 10 (upd f0 0 (Int32.ofInt 0)), eI (zw Γ) a3 0 10 (upd f0 0 (Int32.ofInt 50)), eI (zw Γ) a4 0 10 (upd f0 0 (Int32.ofInt 0)), eO a5 0 [.ref a6, .ref a7, .ref a8, zi 0], eI (zw Γ) a6 0 8 f0, eI (zw Γ) a7 0 8 f0, eI (zw Γ) a8 0 100 f0]) h 4 dX4_addPerson_112 rfl (by decide) (by decide) rfl ?_
  refine z_aload_n h dX4_addPerson_113 rfl ?_
  refine z_dup h dX4_addPerson_114 rfl ?_
  refine u_get h 0 dX4_addPerson_115 fX4_34 rfl rfl ?_
  refine z_iconst h dX4_addPerson_118 ?_
  refine z_iadd h dX4_addPerson_119 ?_
  show zVw Γ (w0 ++ [eO a 4 [.ref a1, .ref a2, .ref a3, .ref a4, .ref a5, zi 0, zi 0, zi 1, zi 2, zi 99, zi 0], eI (zw Γ) a1 0 10 (upd f0 0 (Int32.ofInt 0)), eI (zw Γ) a2 0 10 (upd f0 0 (Int32.ofInt 0)), eI (zw Γ) a3 0 10 (upd f0 0 (Int32.ofInt 50)), eI (zw Γ) a4 0 10 (upd f0 0 (Int32.ofInt 0)), eO a5 0 [.ref a6, .ref a7, .ref a8, zi 0], eI (zw Γ) a6 0 8 f0, eI (zw Γ) a7 0 8 f0, eI (zw Γ) a8 0 100 f0]) 0 0 120 [some (.ref a), some (zi 0), some (zi 0), some (zi 50), some (zi 0)] [zi 1, .ref a]
  refine u_put (L' := [eO a 4 [.ref a1, .ref a2, .ref a3, .ref a4, .ref a5, zi 1, zi 0, zi 1, zi 2, zi 99, zi 0], eI (zw Γ) a1 0 10 (upd f0 0 (Int32.ofInt 0)), eI (zw Γ) a2 0 10 (upd f0 0 (Int32.ofInt 0)), eI (zw Γ) a3 0 10 (upd f0 0 (Int32.ofInt 50)), eI (zw Γ) a4 0 10 (upd f0 0 (Int32.ofInt 0)), eO a5 0 [.ref a6, .ref a7, .ref a8, zi 0], eI (zw Γ) a6 0 8 f0, eI (zw Γ) a7 0 8 f0, eI (zw Γ) a8 0 100 f0]) h 0 dX4_addPerson_120 fX4_34 pX4_5 rfl rfl rfl (Nat.le_of_ble_eq_true rfl) rfl ?_
  refine z_iconst h dX4_addPerson_123 ?_
  exact u_zret h hr dX4_addPerson_124 (by decide) ⟨_, ⟨rfl, rfl⟩, rfl⟩
set_option maxHeartbeats 4000000 in
set_option maxRecDepth 100000 in
theorem k_X4_addPerson1 (w : zW) (w0 : va_W) (a a1 a2 a3 a4 a5 a6 a7 a8 : Nat) : zKT w mX4_addPerson [.ref a, zi 0, zi 0, zi 50] (w0 ++ [eO a 4 [.ref a1, .ref a2, .ref a3, .ref a4, .ref a5, zi 1, zi 0, zi 1, zi 2, zi 99, zi 0], eI w a1 0 10 (upd f0 0 (Int32.ofInt 0)), eI w a2 0 10 (upd f0 0 (Int32.ofInt 0)), eI w a3 0 10 (upd f0 0 (Int32.ofInt 50)), eI w a4 0 10 (upd f0 0 (Int32.ofInt 0)), eO a5 0 [.ref a6, .ref a7, .ref a8, zi 0], eI w a6 0 8 f0, eI w a7 0 8 f0, eI w a8 0 100 f0]) 0 0 (fun r ws' => ∃ b', (r = some (zi 1) ∧ b' = [eO a 4 [.ref a1, .ref a2, .ref a3, .ref a4, .ref a5, zi 2, zi 0, zi 1, zi 2, zi 99, zi 0], eI w a1 0 10 (upd (upd f0 0 (Int32.ofInt 0)) 1 (Int32.ofInt 0)), eI w a2 0 10 (upd (upd f0 0 (Int32.ofInt 0)) 1 (Int32.ofInt 0)), eI w a3 0 10 (upd (upd f0 0 (Int32.ofInt 50)) 1 (Int32.ofInt 50)), eI w a4 0 10 (upd (upd f0 0 (Int32.ofInt 0)) 1 (Int32.ofInt 1)), eO a5 0 [.ref a6, .ref a7, .ref a8, zi 0], eI w a6 0 8 f0, eI w a7 0 8 f0, eI w a8 0 100 f0]) ∧ ws' = w0 ++ b') := by
  refine zKT_mk (own := RX4) rfl (by decide +kernel) [some (.ref a), some (zi 0), some (zi 0), some (zi 50), none] rfl (Nat.le_of_ble_eq_true rfl) ?_
  intro Γ h hon hr
  obtain ⟨rfl, hw, hnm, hkc, hks⟩ := hon
  have hkc : (zRm Γ).cells = 0 := hkc
  have hks : (zRm Γ).slots = 0 := hks
  refine z_aload_n h dX4_addPerson_0 rfl ?_
  refine u_get h 0 dX4_addPerson_1 fX4_34 rfl rfl ?_
  refine z_bipush h dX4_addPerson_4 (by decide) ?_
  refine z_icmp_ge h dX4_addPerson_6 (by omega) (by omega) (fun b6 => by exfalso; omega) (fun b6 => ?_)
  refine z_iload_n h dX4_addPerson_9 rfl ?_
  refine z_iconst h dX4_addPerson_10 ?_
  refine z_icmp_gt h dX4_addPerson_11 (by omega) (by omega) (fun b11 => by exfalso; omega) (fun b11 => ?_)
  refine z_iload_n h dX4_addPerson_14 rfl ?_
  refine z_iconst h dX4_addPerson_15 ?_
  refine z_icmp_ge h dX4_addPerson_16 (by omega) (by omega) (fun b16 => ?_) (fun b16 => by exfalso; omega)
  refine z_aload_n h dX4_addPerson_21 rfl ?_
  refine u_get h 0 dX4_addPerson_22 fX4_9 rfl rfl ?_
  refine z_aload_n h dX4_addPerson_25 rfl ?_
  refine u_get h 0 dX4_addPerson_26 fX4_34 rfl rfl ?_
  refine z_iload_n h dX4_addPerson_29 rfl ?_
  refine u_iast (L' := [eO a 4 [.ref a1, .ref a2, .ref a3, .ref a4, .ref a5, zi 1, zi 0, zi 1, zi 2, zi 99, zi 0], eI (zw Γ) a1 0 10 (upd (upd f0 0 (Int32.ofInt 0)) 1 (Int32.ofInt 0)), eI (zw Γ) a2 0 10 (upd f0 0 (Int32.ofInt 0)), eI (zw Γ) a3 0 10 (upd f0 0 (Int32.ofInt 50)), eI (zw Γ) a4 0 10 (upd f0 0 (Int32.ofInt 0)), eO a5 0 [.ref a6, .ref a7, .ref a8, zi 0], eI (zw Γ) a6 0 8 f0, eI (zw Γ) a7 0 8 f0, eI (zw Γ) a8 0 100 f0]) h 1 dX4_addPerson_30 rfl (by decide) (by decide) rfl ?_
  refine z_aload_n h dX4_addPerson_31 rfl ?_
  refine u_get h 0 dX4_addPerson_32 fX4_15 rfl rfl ?_
  refine z_aload_n h dX4_addPerson_35 rfl ?_
  refine u_get h 0 dX4_addPerson_36 fX4_34 rfl rfl ?_
  refine z_iload_n h dX4_addPerson_39 rfl ?_
  refine u_iast (L' := [eO a 4 [.ref a1, .ref a2, .ref a3, .ref a4, .ref a5, zi 1, zi 0, zi 1, zi 2, zi 99, zi 0], eI (zw Γ) a1 0 10 (upd (upd f0 0 (Int32.ofInt 0)) 1 (Int32.ofInt 0)), eI (zw Γ) a2 0 10 (upd (upd f0 0 (Int32.ofInt 0)) 1 (Int32.ofInt 0)), eI (zw Γ) a3 0 10 (upd f0 0 (Int32.ofInt 50)), eI (zw Γ) a4 0 10 (upd f0 0 (Int32.ofInt 0)), eO a5 0 [.ref a6, .ref a7, .ref a8, zi 0], eI (zw Γ) a6 0 8 f0, eI (zw Γ) a7 0 8 f0, eI (zw Γ) a8 0 100 f0]) h 2 dX4_addPerson_40 rfl (by decide) (by decide) rfl ?_
  refine z_aload_n h dX4_addPerson_41 rfl ?_
  refine u_get h 0 dX4_addPerson_42 fX4_18 rfl rfl ?_
  refine z_aload_n h dX4_addPerson_45 rfl ?_
  refine u_get h 0 dX4_addPerson_46 fX4_34 rfl rfl ?_
  refine z_iload_n h dX4_addPerson_49 rfl ?_
  refine u_iast (L' := [eO a 4 [.ref a1, .ref a2, .ref a3, .ref a4, .ref a5, zi 1, zi 0, zi 1, zi 2, zi 99, zi 0], eI (zw Γ) a1 0 10 (upd (upd f0 0 (Int32.ofInt 0)) 1 (Int32.ofInt 0)), eI (zw Γ) a2 0 10 (upd (upd f0 0 (Int32.ofInt 0)) 1 (Int32.ofInt 0)), eI (zw Γ) a3 0 10 (upd (upd f0 0 (Int32.ofInt 50)) 1 (Int32.ofInt 50)), eI (zw Γ) a4 0 10 (upd f0 0 (Int32.ofInt 0)), eO a5 0 [.ref a6, .ref a7, .ref a8, zi 0], eI (zw Γ) a6 0 8 f0, eI (zw Γ) a7 0 8 f0, eI (zw Γ) a8 0 100 f0]) h 3 dX4_addPerson_50 rfl (by decide) (by decide) rfl ?_
  refine z_aload_n h dX4_addPerson_51 rfl ?_
  refine u_get h 0 dX4_addPerson_52 fX4_34 rfl rfl ?_
  refine z_ist1 h dX4_addPerson_55 (by decide) (zst1_4 rfl) ?_
  refine z_iload h dX4_addPerson_57 rfl ?_
  refine z_if_le h dX4_addPerson_59 (by omega) (fun b59 => by exfalso; omega) (fun b59 => ?_)
  refine z_aload_n h dX4_addPerson_62 rfl ?_
  refine u_get h 0 dX4_addPerson_63 fX4_9 rfl rfl ?_
  refine z_aload_n h dX4_addPerson_66 rfl ?_
  refine u_get h 0 dX4_addPerson_67 fX4_21 rfl rfl ?_
  refine z_iload h dX4_addPerson_70 rfl ?_
  refine z_iconst h dX4_addPerson_72 ?_
  refine z_isub h dX4_addPerson_73 ?_
  show zVw Γ (w0 ++ [eO a 4 [.ref a1, .ref a2, .ref a3, .ref a4, .ref a5, zi 1, zi 0, zi 1, zi 2, zi 99, zi 0], eI (zw Γ) a1 0 10 (upd (upd f0 0 (Int32.ofInt 0)) 1 (Int32.ofInt 0)), eI (zw Γ) a2 0 10 (upd (upd f0 0 (Int32.ofInt 0)) 1 (Int32.ofInt 0)), eI (zw Γ) a3 0 10 (upd (upd f0 0 (Int32.ofInt 50)) 1 (Int32.ofInt 50)), eI (zw Γ) a4 0 10 (upd f0 0 (Int32.ofInt 0)), eO a5 0 [.ref a6, .ref a7, .ref a8, zi 0], eI (zw Γ) a6 0 8 f0, eI (zw Γ) a7 0 8 f0, eI (zw Γ) a8 0 100 f0]) 0 0 74 [some (.ref a), some (zi 0), some (zi 0), some (zi 50), some (zi 1)] [zi 0, .ref a4, .ref a1]
  refine u_iald (y := 0) h 4 dX4_addPerson_74 rfl (by decide) (by decide) (by decide) ?_
  refine u_iald (y := 0) h 1 dX4_addPerson_75 rfl (by decide) (by decide) (by decide) ?_
  refine z_iload_n h dX4_addPerson_76 rfl ?_
  refine z_icmp_le h dX4_addPerson_77 (by omega) (by omega) (fun b77 => ?_) (fun b77 => by exfalso; omega)
  refine z_aload_n h dX4_addPerson_102 rfl ?_
  refine u_get h 0 dX4_addPerson_103 fX4_21 rfl rfl ?_
  refine z_iload h dX4_addPerson_106 rfl ?_
  refine z_aload_n h dX4_addPerson_108 rfl ?_
  refine u_get h 0 dX4_addPerson_109 fX4_34 rfl rfl ?_
  refine u_iast (L' := [eO a 4 [.ref a1, .ref a2, .ref a3, .ref a4, .ref a5, zi 1, zi 0, zi 1, zi 2, zi 99, zi 0], eI (zw Γ) a1 0 10 (upd (upd f0 0 (Int32.ofInt 0)) 1 (Int32.ofInt 0)), eI (zw Γ) a2 0 10 (upd (upd f0 0 (Int32.ofInt 0)) 1 (Int32.ofInt 0)), eI (zw Γ) a3 0 10 (upd (upd f0 0 (Int32.ofInt 50)) 1 (Int32.ofInt 50)), eI (zw Γ) a4 0 10 (upd (upd f0 0 (Int32.ofInt 0)) 1 (Int32.ofInt 1)), eO a5 0 [.ref a6, .ref a7, .ref a8, zi 0], eI (zw Γ) a6 0 8 f0, eI (zw Γ) a7 0 8 f0, eI (zw Γ) a8 0 100 f0]) h 4 dX4_addPerson_112 rfl (by decide) (by decide) rfl ?_
  refine z_aload_n h dX4_addPerson_113 rfl ?_
  refine z_dup h dX4_addPerson_114 rfl ?_
  refine u_get h 0 dX4_addPerson_115 fX4_34 rfl rfl ?_
  refine z_iconst h dX4_addPerson_118 ?_
  refine z_iadd h dX4_addPerson_119 ?_
  show zVw Γ (w0 ++ [eO a 4 [.ref a1, .ref a2, .ref a3, .ref a4, .ref a5, zi 1, zi 0, zi 1, zi 2, zi 99, zi 0], eI (zw Γ) a1 0 10 (upd (upd f0 0 (Int32.ofInt 0)) 1 (Int32.ofInt 0)), eI (zw Γ) a2 0 10 (upd (upd f0 0 (Int32.ofInt 0)) 1 (Int32.ofInt 0)), eI (zw Γ) a3 0 10 (upd (upd f0 0 (Int32.ofInt 50)) 1 (Int32.ofInt 50)), eI (zw Γ) a4 0 10 (upd (upd f0 0 (Int32.ofInt 0)) 1 (Int32.ofInt 1)), eO a5 0 [.ref a6, .ref a7, .ref a8, zi 0], eI (zw Γ) a6 0 8 f0, eI (zw Γ) a7 0 8 f0, eI (zw Γ) a8 0 100 f0]) 0 0 120 [some (.ref a), some (zi 0), some (zi 0), some (zi 50), some (zi 1)] [zi 2, .ref a]
  refine u_put (L' := [eO a 4 [.ref a1, .ref a2, .ref a3, .ref a4, .ref a5, zi 2, zi 0, zi 1, zi 2, zi 99, zi 0], eI (zw Γ) a1 0 10 (upd (upd f0 0 (Int32.ofInt 0)) 1 (Int32.ofInt 0)), eI (zw Γ) a2 0 10 (upd (upd f0 0 (Int32.ofInt 0)) 1 (Int32.ofInt 0)), eI (zw Γ) a3 0 10 (upd (upd f0 0 (Int32.ofInt 50)) 1 (Int32.ofInt 50)), eI (zw Γ) a4 0 10 (upd (upd f0 0 (Int32.ofInt 0)) 1 (Int32.ofInt 1)), eO a5 0 [.ref a6, .ref a7, .ref a8, zi 0], eI (zw Γ) a6 0 8 f0, eI (zw Γ) a7 0 8 f0, eI (zw Γ) a8 0 100 f0]) h 0 dX4_addPerson_120 fX4_34 pX4_5 rfl rfl rfl (Nat.le_of_ble_eq_true rfl) rfl ?_
  refine z_iconst h dX4_addPerson_123 ?_
  exact u_zret h hr dX4_addPerson_124 (by decide) ⟨_, ⟨rfl, rfl⟩, rfl⟩
set_option maxHeartbeats 4000000 in
set_option maxRecDepth 100000 in
theorem k_X4_addPerson2 (w : zW) (w0 : va_W) (a a1 a2 a3 a4 a5 a6 a7 a8 : Nat) : zKT w mX4_addPerson [.ref a, zi 0, zi 1, zi 50] (w0 ++ [eO a 4 [.ref a1, .ref a2, .ref a3, .ref a4, .ref a5, zi 2, zi 0, zi 1, zi 2, zi 99, zi 0], eI w a1 0 10 (upd (upd f0 0 (Int32.ofInt 0)) 1 (Int32.ofInt 0)), eI w a2 0 10 (upd (upd f0 0 (Int32.ofInt 0)) 1 (Int32.ofInt 0)), eI w a3 0 10 (upd (upd f0 0 (Int32.ofInt 50)) 1 (Int32.ofInt 50)), eI w a4 0 10 (upd (upd f0 0 (Int32.ofInt 0)) 1 (Int32.ofInt 1)), eO a5 0 [.ref a6, .ref a7, .ref a8, zi 0], eI w a6 0 8 f0, eI w a7 0 8 f0, eI w a8 0 100 f0]) 0 0 (fun r ws' => ∃ b', (r = some (zi 1) ∧ b' = [eO a 4 [.ref a1, .ref a2, .ref a3, .ref a4, .ref a5, zi 3, zi 0, zi 1, zi 2, zi 99, zi 0], eI w a1 0 10 (upd (upd (upd f0 0 (Int32.ofInt 0)) 1 (Int32.ofInt 0)) 2 (Int32.ofInt 0)), eI w a2 0 10 (upd (upd (upd f0 0 (Int32.ofInt 0)) 1 (Int32.ofInt 0)) 2 (Int32.ofInt 1)), eI w a3 0 10 (upd (upd (upd f0 0 (Int32.ofInt 50)) 1 (Int32.ofInt 50)) 2 (Int32.ofInt 50)), eI w a4 0 10 (upd (upd (upd f0 0 (Int32.ofInt 0)) 1 (Int32.ofInt 1)) 2 (Int32.ofInt 2)), eO a5 0 [.ref a6, .ref a7, .ref a8, zi 0], eI w a6 0 8 f0, eI w a7 0 8 f0, eI w a8 0 100 f0]) ∧ ws' = w0 ++ b') := by
  refine zKT_mk (own := RX4) rfl (by decide +kernel) [some (.ref a), some (zi 0), some (zi 1), some (zi 50), none] rfl (Nat.le_of_ble_eq_true rfl) ?_
  intro Γ h hon hr
  obtain ⟨rfl, hw, hnm, hkc, hks⟩ := hon
  have hkc : (zRm Γ).cells = 0 := hkc
  have hks : (zRm Γ).slots = 0 := hks
  refine z_aload_n h dX4_addPerson_0 rfl ?_
  refine u_get h 0 dX4_addPerson_1 fX4_34 rfl rfl ?_
  refine z_bipush h dX4_addPerson_4 (by decide) ?_
  refine z_icmp_ge h dX4_addPerson_6 (by omega) (by omega) (fun b6 => by exfalso; omega) (fun b6 => ?_)
  refine z_iload_n h dX4_addPerson_9 rfl ?_
  refine z_iconst h dX4_addPerson_10 ?_
  refine z_icmp_gt h dX4_addPerson_11 (by omega) (by omega) (fun b11 => by exfalso; omega) (fun b11 => ?_)
  refine z_iload_n h dX4_addPerson_14 rfl ?_
  refine z_iconst h dX4_addPerson_15 ?_
  refine z_icmp_ge h dX4_addPerson_16 (by omega) (by omega) (fun b16 => ?_) (fun b16 => by exfalso; omega)
  refine z_aload_n h dX4_addPerson_21 rfl ?_
  refine u_get h 0 dX4_addPerson_22 fX4_9 rfl rfl ?_
  refine z_aload_n h dX4_addPerson_25 rfl ?_
  refine u_get h 0 dX4_addPerson_26 fX4_34 rfl rfl ?_
  refine z_iload_n h dX4_addPerson_29 rfl ?_
  refine u_iast (L' := [eO a 4 [.ref a1, .ref a2, .ref a3, .ref a4, .ref a5, zi 2, zi 0, zi 1, zi 2, zi 99, zi 0], eI (zw Γ) a1 0 10 (upd (upd (upd f0 0 (Int32.ofInt 0)) 1 (Int32.ofInt 0)) 2 (Int32.ofInt 0)), eI (zw Γ) a2 0 10 (upd (upd f0 0 (Int32.ofInt 0)) 1 (Int32.ofInt 0)), eI (zw Γ) a3 0 10 (upd (upd f0 0 (Int32.ofInt 50)) 1 (Int32.ofInt 50)), eI (zw Γ) a4 0 10 (upd (upd f0 0 (Int32.ofInt 0)) 1 (Int32.ofInt 1)), eO a5 0 [.ref a6, .ref a7, .ref a8, zi 0], eI (zw Γ) a6 0 8 f0, eI (zw Γ) a7 0 8 f0, eI (zw Γ) a8 0 100 f0]) h 1 dX4_addPerson_30 rfl (by decide) (by decide) rfl ?_
  refine z_aload_n h dX4_addPerson_31 rfl ?_
  refine u_get h 0 dX4_addPerson_32 fX4_15 rfl rfl ?_
  refine z_aload_n h dX4_addPerson_35 rfl ?_
  refine u_get h 0 dX4_addPerson_36 fX4_34 rfl rfl ?_
  refine z_iload_n h dX4_addPerson_39 rfl ?_
  refine u_iast (L' := [eO a 4 [.ref a1, .ref a2, .ref a3, .ref a4, .ref a5, zi 2, zi 0, zi 1, zi 2, zi 99, zi 0], eI (zw Γ) a1 0 10 (upd (upd (upd f0 0 (Int32.ofInt 0)) 1 (Int32.ofInt 0)) 2 (Int32.ofInt 0)), eI (zw Γ) a2 0 10 (upd (upd (upd f0 0 (Int32.ofInt 0)) 1 (Int32.ofInt 0)) 2 (Int32.ofInt 1)), eI (zw Γ) a3 0 10 (upd (upd f0 0 (Int32.ofInt 50)) 1 (Int32.ofInt 50)), eI (zw Γ) a4 0 10 (upd (upd f0 0 (Int32.ofInt 0)) 1 (Int32.ofInt 1)), eO a5 0 [.ref a6, .ref a7, .ref a8, zi 0], eI (zw Γ) a6 0 8 f0, eI (zw Γ) a7 0 8 f0, eI (zw Γ) a8 0 100 f0]) h 2 dX4_addPerson_40 rfl (by decide) (by decide) rfl ?_
  refine z_aload_n h dX4_addPerson_41 rfl ?_
  refine u_get h 0 dX4_addPerson_42 fX4_18 rfl rfl ?_
  refine z_aload_n h dX4_addPerson_45 rfl ?_
  refine u_get h 0 dX4_addPerson_46 fX4_34 rfl rfl ?_
  refine z_iload_n h dX4_addPerson_49 rfl ?_
  refine u_iast (L' := [eO a 4 [.ref a1, .ref a2, .ref a3, .ref a4, .ref a5, zi 2, zi 0, zi 1, zi 2, zi 99, zi 0], eI (zw Γ) a1 0 10 (upd (upd (upd f0 0 (Int32.ofInt 0)) 1 (Int32.ofInt 0)) 2 (Int32.ofInt 0)), eI (zw Γ) a2 0 10 (upd (upd (upd f0 0 (Int32.ofInt 0)) 1 (Int32.ofInt 0)) 2 (Int32.ofInt 1)), eI (zw Γ) a3 0 10 (upd (upd (upd f0 0 (Int32.ofInt 50)) 1 (Int32.ofInt 50)) 2 (Int32.ofInt 50)), eI (zw Γ) a4 0 10 (upd (upd f0 0 (Int32.ofInt 0)) 1 (Int32.ofInt 1)), eO a5 0 [.ref a6, .ref a7, .ref a8, zi 0], eI (zw Γ) a6 0 8 f0, eI (zw Γ) a7 0 8 f0, eI (zw Γ) a8 0 100 f0]) h 3 dX4_addPerson_50 rfl (by decide) (by decide) rfl ?_
  refine z_aload_n h dX4_addPerson_51 rfl ?_
  refine u_get h 0 dX4_addPerson_52 fX4_34 rfl rfl ?_
  refine z_ist1 h dX4_addPerson_55 (by decide) (zst1_4 rfl) ?_
  refine z_iload h dX4_addPerson_57 rfl ?_
  refine z_if_le h dX4_addPerson_59 (by omega) (fun b59 => by exfalso; omega) (fun b59 => ?_)
  refine z_aload_n h dX4_addPerson_62 rfl ?_
  refine u_get h 0 dX4_addPerson_63 fX4_9 rfl rfl ?_
  refine z_aload_n h dX4_addPerson_66 rfl ?_
  refine u_get h 0 dX4_addPerson_67 fX4_21 rfl rfl ?_
  refine z_iload h dX4_addPerson_70 rfl ?_
  refine z_iconst h dX4_addPerson_72 ?_
  refine z_isub h dX4_addPerson_73 ?_
  show zVw Γ (w0 ++ [eO a 4 [.ref a1, .ref a2, .ref a3, .ref a4, .ref a5, zi 2, zi 0, zi 1, zi 2, zi 99, zi 0], eI (zw Γ) a1 0 10 (upd (upd (upd f0 0 (Int32.ofInt 0)) 1 (Int32.ofInt 0)) 2 (Int32.ofInt 0)), eI (zw Γ) a2 0 10 (upd (upd (upd f0 0 (Int32.ofInt 0)) 1 (Int32.ofInt 0)) 2 (Int32.ofInt 1)), eI (zw Γ) a3 0 10 (upd (upd (upd f0 0 (Int32.ofInt 50)) 1 (Int32.ofInt 50)) 2 (Int32.ofInt 50)), eI (zw Γ) a4 0 10 (upd (upd f0 0 (Int32.ofInt 0)) 1 (Int32.ofInt 1)), eO a5 0 [.ref a6, .ref a7, .ref a8, zi 0], eI (zw Γ) a6 0 8 f0, eI (zw Γ) a7 0 8 f0, eI (zw Γ) a8 0 100 f0]) 0 0 74 [some (.ref a), some (zi 0), some (zi 1), some (zi 50), some (zi 2)] [zi 1, .ref a4, .ref a1]
  refine u_iald (y := 1) h 4 dX4_addPerson_74 rfl (by decide) (by decide) (by decide) ?_
  refine u_iald (y := 0) h 1 dX4_addPerson_75 rfl (by decide) (by decide) (by decide) ?_
  refine z_iload_n h dX4_addPerson_76 rfl ?_
  refine z_icmp_le h dX4_addPerson_77 (by omega) (by omega) (fun b77 => ?_) (fun b77 => by exfalso; omega)
  refine z_aload_n h dX4_addPerson_102 rfl ?_
  refine u_get h 0 dX4_addPerson_103 fX4_21 rfl rfl ?_
  refine z_iload h dX4_addPerson_106 rfl ?_
  refine z_aload_n h dX4_addPerson_108 rfl ?_
  refine u_get h 0 dX4_addPerson_109 fX4_34 rfl rfl ?_
  refine u_iast (L' := [eO a 4 [.ref a1, .ref a2, .ref a3, .ref a4, .ref a5, zi 2, zi 0, zi 1, zi 2, zi 99, zi 0], eI (zw Γ) a1 0 10 (upd (upd (upd f0 0 (Int32.ofInt 0)) 1 (Int32.ofInt 0)) 2 (Int32.ofInt 0)), eI (zw Γ) a2 0 10 (upd (upd (upd f0 0 (Int32.ofInt 0)) 1 (Int32.ofInt 0)) 2 (Int32.ofInt 1)), eI (zw Γ) a3 0 10 (upd (upd (upd f0 0 (Int32.ofInt 50)) 1 (Int32.ofInt 50)) 2 (Int32.ofInt 50)), eI (zw Γ) a4 0 10 (upd (upd (upd f0 0 (Int32.ofInt 0)) 1 (Int32.ofInt 1)) 2 (Int32.ofInt 2)), eO a5 0 [.ref a6, .ref a7, .ref a8, zi 0], eI (zw Γ) a6 0 8 f0, eI (zw Γ) a7 0 8 f0, eI (zw Γ) a8 0 100 f0]) h 4 dX4_addPerson_112 rfl (by decide) (by decide) rfl ?_
  refine z_aload_n h dX4_addPerson_113 rfl ?_
  refine z_dup h dX4_addPerson_114 rfl ?_
  refine u_get h 0 dX4_addPerson_115 fX4_34 rfl rfl ?_
  refine z_iconst h dX4_addPerson_118 ?_
  refine z_iadd h dX4_addPerson_119 ?_
  show zVw Γ (w0 ++ [eO a 4 [.ref a1, .ref a2, .ref a3, .ref a4, .ref a5, zi 2, zi 0, zi 1, zi 2, zi 99, zi 0], eI (zw Γ) a1 0 10 (upd (upd (upd f0 0 (Int32.ofInt 0)) 1 (Int32.ofInt 0)) 2 (Int32.ofInt 0)), eI (zw Γ) a2 0 10 (upd (upd (upd f0 0 (Int32.ofInt 0)) 1 (Int32.ofInt 0)) 2 (Int32.ofInt 1)), eI (zw Γ) a3 0 10 (upd (upd (upd f0 0 (Int32.ofInt 50)) 1 (Int32.ofInt 50)) 2 (Int32.ofInt 50)), eI (zw Γ) a4 0 10 (upd (upd (upd f0 0 (Int32.ofInt 0)) 1 (Int32.ofInt 1)) 2 (Int32.ofInt 2)), eO a5 0 [.ref a6, .ref a7, .ref a8, zi 0], eI (zw Γ) a6 0 8 f0, eI (zw Γ) a7 0 8 f0, eI (zw Γ) a8 0 100 f0]) 0 0 120 [some (.ref a), some (zi 0), some (zi 1), some (zi 50), some (zi 2)] [zi 3, .ref a]
  refine u_put (L' := [eO a 4 [.ref a1, .ref a2, .ref a3, .ref a4, .ref a5, zi 3, zi 0, zi 1, zi 2, zi 99, zi 0], eI (zw Γ) a1 0 10 (upd (upd (upd f0 0 (Int32.ofInt 0)) 1 (Int32.ofInt 0)) 2 (Int32.ofInt 0)), eI (zw Γ) a2 0 10 (upd (upd (upd f0 0 (Int32.ofInt 0)) 1 (Int32.ofInt 0)) 2 (Int32.ofInt 1)), eI (zw Γ) a3 0 10 (upd (upd (upd f0 0 (Int32.ofInt 50)) 1 (Int32.ofInt 50)) 2 (Int32.ofInt 50)), eI (zw Γ) a4 0 10 (upd (upd (upd f0 0 (Int32.ofInt 0)) 1 (Int32.ofInt 1)) 2 (Int32.ofInt 2)), eO a5 0 [.ref a6, .ref a7, .ref a8, zi 0], eI (zw Γ) a6 0 8 f0, eI (zw Γ) a7 0 8 f0, eI (zw Γ) a8 0 100 f0]) h 0 dX4_addPerson_120 fX4_34 pX4_5 rfl rfl rfl (Nat.le_of_ble_eq_true rfl) rfl ?_
  refine z_iconst h dX4_addPerson_123 ?_
  exact u_zret h hr dX4_addPerson_124 (by decide) ⟨_, ⟨rfl, rfl⟩, rfl⟩
set_option maxHeartbeats 4000000 in
set_option maxRecDepth 100000 in
theorem k_X0_add (w : zW) (w0 : va_W) (a5 a6 a7 a8 : Nat) : zKT w mX0_add [.ref a5, zi 2, zi 1] (w0 ++ [eO a5 0 [.ref a6, .ref a7, .ref a8, zi 0], eI w a6 0 8 f0, eI w a7 0 8 f0, eI w a8 0 100 f0]) 0 0 (fun r ws' => ∃ b', (r = some (zi 1) ∧ b' = [eO a5 0 [.ref a6, .ref a7, .ref a8, zi 1], eI w a6 0 8 (upd f0 0 (Int32.ofInt 2)), eI w a7 0 8 (upd f0 0 (Int32.ofInt 1)), eI w a8 0 100 (upd f0 1 (Int32.ofInt 1))]) ∧ ws' = w0 ++ b') := by
  refine zKT_mk (own := RX0) rfl (by decide +kernel) [some (.ref a5), some (zi 2), some (zi 1)] rfl (Nat.le_of_ble_eq_true rfl) ?_
  intro Γ h hon hr
  obtain ⟨rfl, hw, hnm, hkc, hks⟩ := hon
  have hkc : (zRm Γ).cells = 0 := hkc
  have hks : (zRm Γ).slots = 0 := hks
  refine z_aload_n h dX0_add_0 rfl ?_
  refine u_get h 0 dX0_add_1 fX0_21 rfl rfl ?_
  refine z_aload_n h dX0_add_4 rfl ?_
  refine u_get h 0 dX0_add_5 fX0_9 rfl rfl ?_
  refine u_alen (x := 8) h 1 dX0_add_8 rfl rfl ?_
  refine z_icmp_ge h dX0_add_9 (by omega) (by omega) (fun b9 => by exfalso; omega) (fun b9 => ?_)
  refine z_iload_n h dX0_add_12 rfl ?_
  refine z_if_lt h dX0_add_13 (by omega) (fun b13 => by exfalso; omega) (fun b13 => ?_)
  refine z_iload_n h dX0_add_16 rfl ?_
  refine z_aload_n h dX0_add_17 rfl ?_
  refine u_get h 0 dX0_add_18 fX0_18 rfl rfl ?_
  refine u_alen (x := 100) h 3 dX0_add_21 rfl rfl ?_
  refine z_icmp_lt h dX0_add_22 (by omega) (by omega) (fun b22 => ?_) (fun b22 => by exfalso; omega)
  refine z_aload_n h dX0_add_27 rfl ?_
  refine u_get h 0 dX0_add_28 fX0_9 rfl rfl ?_
  refine z_aload_n h dX0_add_31 rfl ?_
  refine u_get h 0 dX0_add_32 fX0_21 rfl rfl ?_
  refine z_iload_n h dX0_add_35 rfl ?_
  refine u_iast (L' := [eO a5 0 [.ref a6, .ref a7, .ref a8, zi 0], eI (zw Γ) a6 0 8 (upd f0 0 (Int32.ofInt 2)), eI (zw Γ) a7 0 8 f0, eI (zw Γ) a8 0 100 f0]) h 1 dX0_add_36 rfl (by decide) (by decide) rfl ?_
  refine z_aload_n h dX0_add_37 rfl ?_
  refine u_get h 0 dX0_add_38 fX0_15 rfl rfl ?_
  refine z_aload_n h dX0_add_41 rfl ?_
  refine u_get h 0 dX0_add_42 fX0_21 rfl rfl ?_
  refine z_iload_n h dX0_add_45 rfl ?_
  refine u_iast (L' := [eO a5 0 [.ref a6, .ref a7, .ref a8, zi 0], eI (zw Γ) a6 0 8 (upd f0 0 (Int32.ofInt 2)), eI (zw Γ) a7 0 8 (upd f0 0 (Int32.ofInt 1)), eI (zw Γ) a8 0 100 f0]) h 2 dX0_add_46 rfl (by decide) (by decide) rfl ?_
  refine z_aload_n h dX0_add_47 rfl ?_
  refine u_get h 0 dX0_add_48 fX0_18 rfl rfl ?_
  refine z_iload_n h dX0_add_51 rfl ?_
  refine z_dup2 h dX0_add_52 rfl rfl ?_
  refine u_iald (y := 0) h 3 dX0_add_53 rfl (by decide) (by decide) (by decide) ?_
  refine z_iconst h dX0_add_54 ?_
  refine z_aload_n h dX0_add_55 rfl ?_
  refine u_get h 0 dX0_add_56 fX0_21 rfl rfl ?_
  refine z_ishl h dX0_add_59 ?_
  rw [show zshl 1 0 = 1 by decide]
  refine z_ior h dX0_add_60 ?_
  rw [show zor 0 1 = 1 by decide]
  refine u_iast (L' := [eO a5 0 [.ref a6, .ref a7, .ref a8, zi 0], eI (zw Γ) a6 0 8 (upd f0 0 (Int32.ofInt 2)), eI (zw Γ) a7 0 8 (upd f0 0 (Int32.ofInt 1)), eI (zw Γ) a8 0 100 (upd f0 1 (Int32.ofInt 1))]) h 3 dX0_add_61 rfl (by decide) (by decide) rfl ?_
  refine z_aload_n h dX0_add_62 rfl ?_
  refine z_dup h dX0_add_63 rfl ?_
  refine u_get h 0 dX0_add_64 fX0_21 rfl rfl ?_
  refine z_iconst h dX0_add_67 ?_
  refine z_iadd h dX0_add_68 ?_
  show zVw Γ (w0 ++ [eO a5 0 [.ref a6, .ref a7, .ref a8, zi 0], eI (zw Γ) a6 0 8 (upd f0 0 (Int32.ofInt 2)), eI (zw Γ) a7 0 8 (upd f0 0 (Int32.ofInt 1)), eI (zw Γ) a8 0 100 (upd f0 1 (Int32.ofInt 1))]) 0 0 69 [some (.ref a5), some (zi 2), some (zi 1)] [zi 1, .ref a5]
  refine u_put (L' := [eO a5 0 [.ref a6, .ref a7, .ref a8, zi 1], eI (zw Γ) a6 0 8 (upd f0 0 (Int32.ofInt 2)), eI (zw Γ) a7 0 8 (upd f0 0 (Int32.ofInt 1)), eI (zw Γ) a8 0 100 (upd f0 1 (Int32.ofInt 1))]) h 0 dX0_add_69 fX0_21 pX0_3 rfl rfl rfl (Nat.le_of_ble_eq_true rfl) rfl ?_
  refine z_iconst h dX0_add_72 ?_
  exact u_zret h hr dX0_add_73 (by decide) ⟨_, ⟨rfl, rfl⟩, rfl⟩
set_option maxHeartbeats 4000000 in
set_option maxRecDepth 100000 in
theorem k_X4_addCry (w : zW) (w0 : va_W) (a a1 a2 a3 a4 a5 a6 a7 a8 : Nat) : zKT w mX4_addCry [.ref a, zi 2, zi 1] (w0 ++ [eO a 4 [.ref a1, .ref a2, .ref a3, .ref a4, .ref a5, zi 3, zi 0, zi 1, zi 2, zi 99, zi 0], eI w a1 0 10 (upd (upd (upd f0 0 (Int32.ofInt 0)) 1 (Int32.ofInt 0)) 2 (Int32.ofInt 0)), eI w a2 0 10 (upd (upd (upd f0 0 (Int32.ofInt 0)) 1 (Int32.ofInt 0)) 2 (Int32.ofInt 1)), eI w a3 0 10 (upd (upd (upd f0 0 (Int32.ofInt 50)) 1 (Int32.ofInt 50)) 2 (Int32.ofInt 50)), eI w a4 0 10 (upd (upd (upd f0 0 (Int32.ofInt 0)) 1 (Int32.ofInt 1)) 2 (Int32.ofInt 2)), eO a5 0 [.ref a6, .ref a7, .ref a8, zi 0], eI w a6 0 8 f0, eI w a7 0 8 f0, eI w a8 0 100 f0]) 0 0 (fun r ws' => ∃ b', (r = some (zi 1) ∧ b' = [eO a 4 [.ref a1, .ref a2, .ref a3, .ref a4, .ref a5, zi 3, zi 0, zi 1, zi 2, zi 99, zi 0], eI w a1 0 10 (upd (upd (upd f0 0 (Int32.ofInt 0)) 1 (Int32.ofInt 0)) 2 (Int32.ofInt 0)), eI w a2 0 10 (upd (upd (upd f0 0 (Int32.ofInt 0)) 1 (Int32.ofInt 0)) 2 (Int32.ofInt 1)), eI w a3 0 10 (upd (upd (upd f0 0 (Int32.ofInt 50)) 1 (Int32.ofInt 50)) 2 (Int32.ofInt 50)), eI w a4 0 10 (upd (upd (upd f0 0 (Int32.ofInt 0)) 1 (Int32.ofInt 1)) 2 (Int32.ofInt 2)), eO a5 0 [.ref a6, .ref a7, .ref a8, zi 1], eI w a6 0 8 (upd f0 0 (Int32.ofInt 2)), eI w a7 0 8 (upd f0 0 (Int32.ofInt 1)), eI w a8 0 100 (upd f0 1 (Int32.ofInt 1))]) ∧ ws' = w0 ++ b') := by
  refine zKT_mk (own := RX4) rfl (by decide +kernel) [some (.ref a), some (zi 2), some (zi 1)] rfl (Nat.le_of_ble_eq_true rfl) ?_
  intro Γ h hon hr
  obtain ⟨rfl, hw, hnm, hkc, hks⟩ := hon
  have hkc : (zRm Γ).cells = 0 := hkc
  have hks : (zRm Γ).slots = 0 := hks
  refine z_aload_n h dX4_addCry_0 rfl ?_
  refine u_get h 0 dX4_addCry_1 fX4_27 rfl rfl ?_
  refine z_iload_n h dX4_addCry_4 rfl ?_
  refine z_iload_n h dX4_addCry_5 rfl ?_
  refine u_callB (L := [eO a 4 [.ref a1, .ref a2, .ref a3, .ref a4, .ref a5, zi 3, zi 0, zi 1, zi 2, zi 99, zi 0], eI (zw Γ) a1 0 10 (upd (upd (upd f0 0 (Int32.ofInt 0)) 1 (Int32.ofInt 0)) 2 (Int32.ofInt 0)), eI (zw Γ) a2 0 10 (upd (upd (upd f0 0 (Int32.ofInt 0)) 1 (Int32.ofInt 0)) 2 (Int32.ofInt 1)), eI (zw Γ) a3 0 10 (upd (upd (upd f0 0 (Int32.ofInt 50)) 1 (Int32.ofInt 50)) 2 (Int32.ofInt 50)), eI (zw Γ) a4 0 10 (upd (upd (upd f0 0 (Int32.ofInt 0)) 1 (Int32.ofInt 1)) 2 (Int32.ofInt 2))]) (bl := [eO a5 0 [.ref a6, .ref a7, .ref a8, zi 0], eI (zw Γ) a6 0 8 f0, eI (zw Γ) a7 0 8 f0, eI (zw Γ) a8 0 100 f0]) (As := [zi 2, zi 1]) (i := 0) h hw dX4_addCry_6 lX4_72 vX0_add rfl rfl (k_X0_add (zw Γ) (w0 ++ [eO a 4 [.ref a1, .ref a2, .ref a3, .ref a4, .ref a5, zi 3, zi 0, zi 1, zi 2, zi 99, zi 0], eI (zw Γ) a1 0 10 (upd (upd (upd f0 0 (Int32.ofInt 0)) 1 (Int32.ofInt 0)) 2 (Int32.ofInt 0)), eI (zw Γ) a2 0 10 (upd (upd (upd f0 0 (Int32.ofInt 0)) 1 (Int32.ofInt 0)) 2 (Int32.ofInt 1)), eI (zw Γ) a3 0 10 (upd (upd (upd f0 0 (Int32.ofInt 50)) 1 (Int32.ofInt 50)) 2 (Int32.ofInt 50)), eI (zw Γ) a4 0 10 (upd (upd (upd f0 0 (Int32.ofInt 0)) 1 (Int32.ofInt 1)) 2 (Int32.ofInt 2))]) a5 a6 a7 a8) rfl rfl (Nat.le_of_ble_eq_true rfl) (by decide) ⟨by omega, by omega⟩ (fun r bl' hp => ?_)
  obtain ⟨rfl, rfl⟩ := hp
  show zVw Γ (w0 ++ [eO a 4 [.ref a1, .ref a2, .ref a3, .ref a4, .ref a5, zi 3, zi 0, zi 1, zi 2, zi 99, zi 0], eI (zw Γ) a1 0 10 (upd (upd (upd f0 0 (Int32.ofInt 0)) 1 (Int32.ofInt 0)) 2 (Int32.ofInt 0)), eI (zw Γ) a2 0 10 (upd (upd (upd f0 0 (Int32.ofInt 0)) 1 (Int32.ofInt 0)) 2 (Int32.ofInt 1)), eI (zw Γ) a3 0 10 (upd (upd (upd f0 0 (Int32.ofInt 50)) 1 (Int32.ofInt 50)) 2 (Int32.ofInt 50)), eI (zw Γ) a4 0 10 (upd (upd (upd f0 0 (Int32.ofInt 0)) 1 (Int32.ofInt 1)) 2 (Int32.ofInt 2)), eO a5 0 [.ref a6, .ref a7, .ref a8, zi 1], eI (zw Γ) a6 0 8 (upd f0 0 (Int32.ofInt 2)), eI (zw Γ) a7 0 8 (upd f0 0 (Int32.ofInt 1)), eI (zw Γ) a8 0 100 (upd f0 1 (Int32.ofInt 1))]) 0 0 9 [some (.ref a), some (zi 2), some (zi 1)] [zi 1]
  exact u_zret h hr dX4_addCry_9 (by decide) ⟨_, ⟨rfl, rfl⟩, rfl⟩

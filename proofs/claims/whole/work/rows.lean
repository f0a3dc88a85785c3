section
-- ===== PART A: goes FIRST, ahead of the names: the tables' words, and 'selects' of the private methods out of them =====
/-- a private method of a class that the tables say can be made, by its rows of tables_1 -/
def lw_okq (q : MethodName × Nat) : Prop := (q.1.cls ≠ "java/lang/invoke/MethodHandle" ∧ q.1.cls ≠ "java/lang/invoke/VarHandle") ∧ Cond.instantiable q.1.cls q.2 ∈ tables_1 ∧ Cond.privateMethod q.1 ∈ tables_1 ∧ Cond.instanceMethod q.1 ∈ tables_1
theorem lw_p0 : lw_okq (⟨"QueueTurns", "isPerson", "(I)Z"⟩, 10) := ⟨⟨by decide +kernel, by decide +kernel⟩, List.mem_of_getElem? (i := 13) (by decide +kernel), List.mem_of_getElem? (i := 409) (by decide +kernel), List.mem_of_getElem? (i := 410) (by decide +kernel)⟩
theorem lw_p1 : lw_okq (⟨"QueueTurns", "runAsTold", "()V"⟩, 10) := ⟨⟨by decide +kernel, by decide +kernel⟩, List.mem_of_getElem? (i := 13) (by decide +kernel), List.mem_of_getElem? (i := 414) (by decide +kernel), List.mem_of_getElem? (i := 415) (by decide +kernel)⟩
theorem lw_p2 : lw_okq (⟨"QueueTurnsModel", "noMorning", "(I)V"⟩, 35) := ⟨⟨by decide +kernel, by decide +kernel⟩, List.mem_of_getElem? (i := 701) (by decide +kernel), List.mem_of_getElem? (i := 707) (by decide +kernel), List.mem_of_getElem? (i := 708) (by decide +kernel)⟩
theorem lw_p3 : lw_okq (⟨"QueueTurnsModel", "readAll", "()I"⟩, 35) := ⟨⟨by decide +kernel, by decide +kernel⟩, List.mem_of_getElem? (i := 701) (by decide +kernel), List.mem_of_getElem? (i := 834) (by decide +kernel), List.mem_of_getElem? (i := 835) (by decide +kernel)⟩
theorem lw_p4 : lw_okq (⟨"QueueTurnsModel", "item", "()Z"⟩, 35) := ⟨⟨by decide +kernel, by decide +kernel⟩, List.mem_of_getElem? (i := 701) (by decide +kernel), List.mem_of_getElem? (i := 838) (by decide +kernel), List.mem_of_getElem? (i := 839) (by decide +kernel)⟩
theorem lw_p5 : lw_okq (⟨"QueueTurnsModel", "byteAt", "(I)I"⟩, 35) := ⟨⟨by decide +kernel, by decide +kernel⟩, List.mem_of_getElem? (i := 701) (by decide +kernel), List.mem_of_getElem? (i := 842) (by decide +kernel), List.mem_of_getElem? (i := 843) (by decide +kernel)⟩
theorem lw_p6 : lw_okq (⟨"QueueTurnsModel", "figures", "(I)Z"⟩, 35) := ⟨⟨by decide +kernel, by decide +kernel⟩, List.mem_of_getElem? (i := 701) (by decide +kernel), List.mem_of_getElem? (i := 846) (by decide +kernel), List.mem_of_getElem? (i := 847) (by decide +kernel)⟩
theorem lw_p7 : lw_okq (⟨"QueueTurnsModel", "copyCries", "(II)V"⟩, 35) := ⟨⟨by decide +kernel, by decide +kernel⟩, List.mem_of_getElem? (i := 701) (by decide +kernel), List.mem_of_getElem? (i := 858) (by decide +kernel), List.mem_of_getElem? (i := 859) (by decide +kernel)⟩
theorem lw_p8 : lw_okq (⟨"QueueTurnsModel", "isPerson", "(I)Z"⟩, 35) := ⟨⟨by decide +kernel, by decide +kernel⟩, List.mem_of_getElem? (i := 701) (by decide +kernel), List.mem_of_getElem? (i := 866) (by decide +kernel), List.mem_of_getElem? (i := 867) (by decide +kernel)⟩
theorem lw_p9 : lw_okq (⟨"QueueTurnsModel", "goAsItIs", "()V"⟩, 35) := ⟨⟨by decide +kernel, by decide +kernel⟩, List.mem_of_getElem? (i := 701) (by decide +kernel), List.mem_of_getElem? (i := 871) (by decide +kernel), List.mem_of_getElem? (i := 872) (by decide +kernel)⟩
theorem lw_p10 : lw_okq (⟨"QueueTurnsModel", "asItIs", "()V"⟩, 35) := ⟨⟨by decide +kernel, by decide +kernel⟩, List.mem_of_getElem? (i := 701) (by decide +kernel), List.mem_of_getElem? (i := 875) (by decide +kernel), List.mem_of_getElem? (i := 876) (by decide +kernel)⟩
theorem lw_p11 : lw_okq (⟨"QueueTurnsModel", "go", "(I)V"⟩, 35) := ⟨⟨by decide +kernel, by decide +kernel⟩, List.mem_of_getElem? (i := 701) (by decide +kernel), List.mem_of_getElem? (i := 879) (by decide +kernel), List.mem_of_getElem? (i := 880) (by decide +kernel)⟩
theorem lw_p12 : lw_okq (⟨"QueueTurnsModel", "end", "(III)V"⟩, 35) := ⟨⟨by decide +kernel, by decide +kernel⟩, List.mem_of_getElem? (i := 701) (by decide +kernel), List.mem_of_getElem? (i := 883) (by decide +kernel), List.mem_of_getElem? (i := 884) (by decide +kernel)⟩
theorem lw_p13 : lw_okq (⟨"QueueTurnsModel", "takeOut", "(I)V"⟩, 35) := ⟨⟨by decide +kernel, by decide +kernel⟩, List.mem_of_getElem? (i := 701) (by decide +kernel), List.mem_of_getElem? (i := 887) (by decide +kernel), List.mem_of_getElem? (i := 888) (by decide +kernel)⟩
theorem lw_p14 : lw_okq (⟨"QueueTurnsModel", "doesCry", "(I)Z"⟩, 35) := ⟨⟨by decide +kernel, by decide +kernel⟩, List.mem_of_getElem? (i := 701) (by decide +kernel), List.mem_of_getElem? (i := 891) (by decide +kernel), List.mem_of_getElem? (i := 892) (by decide +kernel)⟩
theorem lw_p15 : lw_okq (⟨"QueueTurnsModel", "isInLine", "(I)Z"⟩, 35) := ⟨⟨by decide +kernel, by decide +kernel⟩, List.mem_of_getElem? (i := 701) (by decide +kernel), List.mem_of_getElem? (i := 900) (by decide +kernel), List.mem_of_getElem? (i := 901) (by decide +kernel)⟩
def lw_privs_1 : List (MethodName × Nat) := [(⟨"QueueTurns", "isPerson", "(I)Z"⟩, 10), (⟨"QueueTurns", "runAsTold", "()V"⟩, 10), (⟨"QueueTurnsModel", "noMorning", "(I)V"⟩, 35), (⟨"QueueTurnsModel", "readAll", "()I"⟩, 35), (⟨"QueueTurnsModel", "item", "()Z"⟩, 35), (⟨"QueueTurnsModel", "byteAt", "(I)I"⟩, 35), (⟨"QueueTurnsModel", "figures", "(I)Z"⟩, 35), (⟨"QueueTurnsModel", "copyCries", "(II)V"⟩, 35), (⟨"QueueTurnsModel", "isPerson", "(I)Z"⟩, 35), (⟨"QueueTurnsModel", "goAsItIs", "()V"⟩, 35), (⟨"QueueTurnsModel", "asItIs", "()V"⟩, 35), (⟨"QueueTurnsModel", "go", "(I)V"⟩, 35), (⟨"QueueTurnsModel", "end", "(III)V"⟩, 35), (⟨"QueueTurnsModel", "takeOut", "(I)V"⟩, 35), (⟨"QueueTurnsModel", "doesCry", "(I)Z"⟩, 35), (⟨"QueueTurnsModel", "isInLine", "(I)Z"⟩, 35)]
theorem lw_r1 : ∀ q ∈ lw_privs_1, lw_okq q := List.forall_mem_cons.mpr ⟨lw_p0, List.forall_mem_cons.mpr ⟨lw_p1, List.forall_mem_cons.mpr ⟨lw_p2, List.forall_mem_cons.mpr ⟨lw_p3, List.forall_mem_cons.mpr ⟨lw_p4, List.forall_mem_cons.mpr ⟨lw_p5, List.forall_mem_cons.mpr ⟨lw_p6, List.forall_mem_cons.mpr ⟨lw_p7, List.forall_mem_cons.mpr ⟨lw_p8, List.forall_mem_cons.mpr ⟨lw_p9, List.forall_mem_cons.mpr ⟨lw_p10, List.forall_mem_cons.mpr ⟨lw_p11, List.forall_mem_cons.mpr ⟨lw_p12, List.forall_mem_cons.mpr ⟨lw_p13, List.forall_mem_cons.mpr ⟨lw_p14, List.forall_mem_cons.mpr ⟨lw_p15, fun _ h => absurd h List.not_mem_nil⟩⟩⟩⟩⟩⟩⟩⟩⟩⟩⟩⟩⟩⟩⟩⟩
theorem lw_p16 : lw_okq (⟨"QueueTurnsModel", "turnLine", "()V"⟩, 35) := ⟨⟨by decide +kernel, by decide +kernel⟩, List.mem_of_getElem? (i := 701) (by decide +kernel), List.mem_of_getElem? (i := 907) (by decide +kernel), List.mem_of_getElem? (i := 908) (by decide +kernel)⟩
theorem lw_p17 : lw_okq (⟨"QueueTurnsModel", "putIn", "(II)V"⟩, 35) := ⟨⟨by decide +kernel, by decide +kernel⟩, List.mem_of_getElem? (i := 701) (by decide +kernel), List.mem_of_getElem? (i := 911) (by decide +kernel), List.mem_of_getElem? (i := 912) (by decide +kernel)⟩
theorem lw_p18 : lw_okq (⟨"QueueTurnsModel", "howMany", "(I)I"⟩, 35) := ⟨⟨by decide +kernel, by decide +kernel⟩, List.mem_of_getElem? (i := 701) (by decide +kernel), List.mem_of_getElem? (i := 929) (by decide +kernel), List.mem_of_getElem? (i := 930) (by decide +kernel)⟩
theorem lw_p19 : lw_okq (⟨"QueueTurnsModel", "unfair", "()I"⟩, 35) := ⟨⟨by decide +kernel, by decide +kernel⟩, List.mem_of_getElem? (i := 701) (by decide +kernel), List.mem_of_getElem? (i := 933) (by decide +kernel), List.mem_of_getElem? (i := 934) (by decide +kernel)⟩
theorem lw_p20 : lw_okq (⟨"QueueTurnsModel", "gainedOf", "(I)I"⟩, 35) := ⟨⟨by decide +kernel, by decide +kernel⟩, List.mem_of_getElem? (i := 701) (by decide +kernel), List.mem_of_getElem? (i := 941) (by decide +kernel), List.mem_of_getElem? (i := 942) (by decide +kernel)⟩
theorem lw_p21 : lw_okq (⟨"QueueTurnsModel", "timeOf", "(I)I"⟩, 35) := ⟨⟨by decide +kernel, by decide +kernel⟩, List.mem_of_getElem? (i := 701) (by decide +kernel), List.mem_of_getElem? (i := 945) (by decide +kernel), List.mem_of_getElem? (i := 946) (by decide +kernel)⟩
theorem lw_p22 : lw_okq (⟨"QueueTurnsModel", "unfairBy", "(I)I"⟩, 35) := ⟨⟨by decide +kernel, by decide +kernel⟩, List.mem_of_getElem? (i := 701) (by decide +kernel), List.mem_of_getElem? (i := 983) (by decide +kernel), List.mem_of_getElem? (i := 984) (by decide +kernel)⟩
theorem lw_p23 : lw_okq (⟨"QueueTurnsModel", "layMeans", "(II)V"⟩, 35) := ⟨⟨by decide +kernel, by decide +kernel⟩, List.mem_of_getElem? (i := 701) (by decide +kernel), List.mem_of_getElem? (i := 995) (by decide +kernel), List.mem_of_getElem? (i := 996) (by decide +kernel)⟩
theorem lw_p24 : lw_okq (⟨"QueueTurnsModel", "behindOf", "(III)J"⟩, 35) := ⟨⟨by decide +kernel, by decide +kernel⟩, List.mem_of_getElem? (i := 701) (by decide +kernel), List.mem_of_getElem? (i := 999) (by decide +kernel), List.mem_of_getElem? (i := 1000) (by decide +kernel)⟩
theorem lw_p25 : lw_okq (⟨"QueueTurnsModel", "layBy", "(III)V"⟩, 35) := ⟨⟨by decide +kernel, by decide +kernel⟩, List.mem_of_getElem? (i := 701) (by decide +kernel), List.mem_of_getElem? (i := 1013) (by decide +kernel), List.mem_of_getElem? (i := 1014) (by decide +kernel)⟩
theorem lw_p26 : lw_okq (⟨"QueueTurnsModel", "isFit", "(I)Z"⟩, 35) := ⟨⟨by decide +kernel, by decide +kernel⟩, List.mem_of_getElem? (i := 701) (by decide +kernel), List.mem_of_getElem? (i := 1033) (by decide +kernel), List.mem_of_getElem? (i := 1034) (by decide +kernel)⟩
def lw_privs_2 : List (MethodName × Nat) := [(⟨"QueueTurnsModel", "turnLine", "()V"⟩, 35), (⟨"QueueTurnsModel", "putIn", "(II)V"⟩, 35), (⟨"QueueTurnsModel", "howMany", "(I)I"⟩, 35), (⟨"QueueTurnsModel", "unfair", "()I"⟩, 35), (⟨"QueueTurnsModel", "gainedOf", "(I)I"⟩, 35), (⟨"QueueTurnsModel", "timeOf", "(I)I"⟩, 35), (⟨"QueueTurnsModel", "unfairBy", "(I)I"⟩, 35), (⟨"QueueTurnsModel", "layMeans", "(II)V"⟩, 35), (⟨"QueueTurnsModel", "behindOf", "(III)J"⟩, 35), (⟨"QueueTurnsModel", "layBy", "(III)V"⟩, 35), (⟨"QueueTurnsModel", "isFit", "(I)Z"⟩, 35)]
theorem lw_r2 : ∀ q ∈ lw_privs_2, lw_okq q := List.forall_mem_cons.mpr ⟨lw_p16, List.forall_mem_cons.mpr ⟨lw_p17, List.forall_mem_cons.mpr ⟨lw_p18, List.forall_mem_cons.mpr ⟨lw_p19, List.forall_mem_cons.mpr ⟨lw_p20, List.forall_mem_cons.mpr ⟨lw_p21, List.forall_mem_cons.mpr ⟨lw_p22, List.forall_mem_cons.mpr ⟨lw_p23, List.forall_mem_cons.mpr ⟨lw_p24, List.forall_mem_cons.mpr ⟨lw_p25, List.forall_mem_cons.mpr ⟨lw_p26, fun _ h => absurd h List.not_mem_nil⟩⟩⟩⟩⟩⟩⟩⟩⟩⟩⟩
def lw_privs : List (MethodName × Nat) := lw_privs_1 ++ (lw_privs_2)
def lw_tbl : List Cond := k2_sels lw_privs ++ tables_1
theorem lw_privs_ok : ∀ q ∈ lw_privs, lw_okq q := by
  show ∀ q ∈ lw_privs_1 ++ (lw_privs_2), lw_okq q
  exact List.forall_mem_append.mpr ⟨lw_r1, lw_r2⟩

-- names of this text: z..
/-- the words that hold along a run -/
def zAL : List Cond := lw_tbl.filter goodWord
theorem zAL_of {w : Cond} (i : Nat) (h : lw_tbl[i]? = some w) (g : goodWord w = true) : w ∈ zAL := List.mem_filter.mpr ⟨List.mem_of_getElem? h, g⟩
theorem zAL_ws {ws : List Cond} (ps : List Nat) (hp : ws = ps.filterMap (fun i => lw_tbl[i]?)) (h : ws.all goodWord = true) : ∀ w ∈ ws, w ∈ zAL := by
  intro w hw
  have h1 := List.all_eq_true.mp h w hw
  rw [hp] at hw
  obtain ⟨i, -, hi⟩ := List.mem_filterMap.mp hw
  exact zAL_of i hi h1
/-- an instruction at a place, and the place behind it -/
def zD (b : ByteArray) (pc : Nat) (i : Instr) (k n : Nat) : Prop := decode b pc = .ok (i, k) ∧ pc + k = n
/-- a jump: the place behind it, and its target -/
def zJ (b : ByteArray) (pc : Nat) (i : Int → Instr) (n t : Nat) : Prop := ∃ off : Int, decode b pc = .ok (i off, 3) ∧ pc + 3 = n ∧ (pc : Int) + off = (t : Int)

def RX0 : String := "QueueTurns$CryList"
def TX0 : u_T := fun k => match k with
  | 0 => ("QueueTurns$CryList", "who", "[I", true)
  | 1 => ("QueueTurns$CryList", "minute", "[I", true)
  | 2 => ("QueueTurns$CryList", "bitsAt", "[I", true)
  | _ => ("QueueTurns$CryList", "size", "I", false)
def tyX0 : Nat → FieldType := fun k => match k with
  | 0 => .array .int
  | 1 => .array .int
  | 2 => .array .int
  | _ => .int
theorem nmX0 : ∀ a, a < 4 → ∀ b, b < 4 → a ≠ b → (TX0 a).2.1 ≠ (TX0 b).2.1 := by decide +kernel
theorem tyX0_ok : ∀ k, k < 4 → parseFieldDescriptor (TX0 k).2.2.1 = some (tyX0 k) := by decide +kernel
set_option maxRecDepth 100000 in
theorem inX0 : ∀ w ∈ u_ws RX0 TX0 4, w ∈ zAL := zAL_ws [105, 107, 109, 111] (by rfl) (by decide +kernel)
def RX1 : String := "QueueTurns$Morning"
def TX1 : u_T := fun k => match k with
  | 0 => ("QueueTurns$Morning", "how", "[I", true)
  | 1 => ("QueueTurns$Morning", "when", "[I", true)
  | 2 => ("QueueTurns$Morning", "here", "[Z", true)
  | 3 => ("QueueTurns$Morning", "inRow", "[I", true)
  | 4 => ("QueueTurns$Morning", "extraWho", "[I", true)
  | 5 => ("QueueTurns$Morning", "extraMinute", "[I", true)
  | 6 => ("QueueTurns$Morning", "plan", "LQueueTurns$Plan;", false)
  | 7 => ("QueueTurns$Morning", "law", "I", false)
  | 8 => ("QueueTurns$Morning", "hushed", "I", false)
  | 9 => ("QueueTurns$Morning", "draw", "I", false)
  | 10 => ("QueueTurns$Morning", "size", "I", false)
  | 11 => ("QueueTurns$Morning", "came", "I", false)
  | 12 => ("QueueTurns$Morning", "ended", "I", false)
  | 13 => ("QueueTurns$Morning", "loaves", "I", false)
  | 14 => ("QueueTurns$Morning", "turns", "I", false)
  | _ => ("QueueTurns$Morning", "lastTurn", "I", false)
def tyX1 : Nat → FieldType := fun k => match k with
  | 0 => .array .int
  | 1 => .array .int
  | 2 => .array .boolean
  | 3 => .array .int
  | 4 => .array .int
  | 5 => .array .int
  | 6 => .object "QueueTurns$Plan"
  | 7 => .int
  | 8 => .int
  | 9 => .int
  | 10 => .int
  | 11 => .int
  | 12 => .int
  | 13 => .int
  | 14 => .int
  | _ => .int
theorem nmX1 : ∀ a, a < 16 → ∀ b, b < 16 → a ≠ b → (TX1 a).2.1 ≠ (TX1 b).2.1 := by decide +kernel
theorem tyX1_ok : ∀ k, k < 16 → parseFieldDescriptor (TX1 k).2.2.1 = some (tyX1 k) := by decide +kernel
set_option maxRecDepth 100000 in
theorem inX1 : ∀ w ∈ u_ws RX1 TX1 16, w ∈ zAL := zAL_ws [203, 205, 207, 209, 211, 213, 215, 217, 219, 221, 223, 225, 227, 229, 231, 233] (by rfl) (by decide +kernel)
def RX2 : String := "QueueTurns$Names"
def TX2 : u_T := fun k => match k with
  | 0 => ("QueueTurns$Names", "served", "[I", true)
  | 1 => ("QueueTurns$Names", "stood", "[I", true)
  | 2 => ("QueueTurns$Names", "servedMany", "I", false)
  | 3 => ("QueueTurns$Names", "stoodMany", "I", false)
  | 4 => ("QueueTurns$Names", "fitting", "I", false)
  | _ => ("QueueTurns$Names", "lowestFitting", "I", false)
def tyX2 : Nat → FieldType := fun k => match k with
  | 0 => .array .int
  | 1 => .array .int
  | 2 => .int
  | 3 => .int
  | 4 => .int
  | _ => .int
theorem nmX2 : ∀ a, a < 6 → ∀ b, b < 6 → a ≠ b → (TX2 a).2.1 ≠ (TX2 b).2.1 := by decide +kernel
theorem tyX2_ok : ∀ k, k < 6 → parseFieldDescriptor (TX2 k).2.2.1 = some (tyX2 k) := by decide +kernel
set_option maxRecDepth 100000 in
theorem inX2 : ∀ w ∈ u_ws RX2 TX2 6, w ∈ zAL := zAL_ws [300, 302, 304, 306, 308, 310] (by rfl) (by decide +kernel)
def RX3 : String := "QueueTurns$Odds"
def TX3 : u_T := fun k => match k with
  | 0 => ("QueueTurns$Odds", "weight", "[J", true)
  | 1 => ("QueueTurns$Odds", "turned", "[J", true)
  | _ => ("QueueTurns$Odds", "servedAt", "[J", true)
def tyX3 : Nat → FieldType := fun k => match k with
  | 0 => .array .long
  | 1 => .array .long
  | _ => .array .long
theorem nmX3 : ∀ a, a < 3 → ∀ b, b < 3 → a ≠ b → (TX3 a).2.1 ≠ (TX3 b).2.1 := by decide +kernel
theorem tyX3_ok : ∀ k, k < 3 → parseFieldDescriptor (TX3 k).2.2.1 = some (tyX3 k) := by decide +kernel
set_option maxRecDepth 100000 in
theorem inX3 : ∀ w ∈ u_ws RX3 TX3 3, w ∈ zAL := zAL_ws [276, 278, 280] (by rfl) (by decide +kernel)
def RX4 : String := "QueueTurns$Plan"
def TX4 : u_T := fun k => match k with
  | 0 => ("QueueTurns$Plan", "comes", "[I", true)
  | 1 => ("QueueTurns$Plan", "child", "[I", true)
  | 2 => ("QueueTurns$Plan", "waits", "[I", true)
  | 3 => ("QueueTurns$Plan", "order", "[I", true)
  | 4 => ("QueueTurns$Plan", "cries", "LQueueTurns$CryList;", true)
  | 5 => ("QueueTurns$Plan", "persons", "I", false)
  | 6 => ("QueueTurns$Plan", "quiet", "I", false)
  | 7 => ("QueueTurns$Plan", "atOnce", "I", false)
  | 8 => ("QueueTurns$Plan", "every", "I", false)
  | 9 => ("QueueTurns$Plan", "loaves", "I", false)
  | _ => ("QueueTurns$Plan", "law", "I", false)
def tyX4 : Nat → FieldType := fun k => match k with
  | 0 => .array .int
  | 1 => .array .int
  | 2 => .array .int
  | 3 => .array .int
  | 4 => .object "QueueTurns$CryList"
  | 5 => .int
  | 6 => .int
  | 7 => .int
  | 8 => .int
  | 9 => .int
  | _ => .int
theorem nmX4 : ∀ a, a < 11 → ∀ b, b < 11 → a ≠ b → (TX4 a).2.1 ≠ (TX4 b).2.1 := by decide +kernel
theorem tyX4_ok : ∀ k, k < 11 → parseFieldDescriptor (TX4 k).2.2.1 = some (tyX4 k) := by decide +kernel
set_option maxRecDepth 100000 in
theorem inX4 : ∀ w ∈ u_ws RX4 TX4 11, w ∈ zAL := zAL_ws [156, 158, 160, 162, 164, 166, 168, 170, 172, 174, 176] (by rfl) (by decide +kernel)
def RX5 : String := "QueueTurns$Study"
def TX5 : u_T := fun k => match k with
  | 0 => ("QueueTurns$Study", "morning", "LQueueTurns$Morning;", true)
  | 1 => ("QueueTurns$Study", "timesOfI", "[I", true)
  | 2 => ("QueueTurns$Study", "timesOfJ", "[I", true)
  | 3 => ("QueueTurns$Study", "bestMinute", "I", false)
  | 4 => ("QueueTurns$Study", "worth", "I", false)
  | 5 => ("QueueTurns$Study", "rests", "I", false)
  | 6 => ("QueueTurns$Study", "firstOfI", "I", false)
  | _ => ("QueueTurns$Study", "firstOfJ", "I", false)
def tyX5 : Nat → FieldType := fun k => match k with
  | 0 => .object "QueueTurns$Morning"
  | 1 => .array .int
  | 2 => .array .int
  | 3 => .int
  | 4 => .int
  | 5 => .int
  | 6 => .int
  | _ => .int
theorem nmX5 : ∀ a, a < 8 → ∀ b, b < 8 → a ≠ b → (TX5 a).2.1 ≠ (TX5 b).2.1 := by decide +kernel
theorem tyX5_ok : ∀ k, k < 8 → parseFieldDescriptor (TX5 k).2.2.1 = some (tyX5 k) := by decide +kernel
set_option maxRecDepth 100000 in
theorem inX5 : ∀ w ∈ u_ws RX5 TX5 8, w ∈ zAL := zAL_ws [250, 252, 254, 256, 258, 260, 262, 264] (by rfl) (by decide +kernel)
def RX6 : String := "QueueTurns$Text"
def TX6 : u_T := fun k => match k with
  | 0 => ("QueueTurns$Text", "bytes", "[B", true)
  | 1 => ("QueueTurns$Text", "numbers", "[I", true)
  | 2 => ("QueueTurns$Text", "length", "I", false)
  | _ => ("QueueTurns$Text", "at", "I", false)
def tyX6 : Nat → FieldType := fun k => match k with
  | 0 => .array .byte
  | 1 => .array .int
  | 2 => .int
  | _ => .int
theorem nmX6 : ∀ a, a < 4 → ∀ b, b < 4 → a ≠ b → (TX6 a).2.1 ≠ (TX6 b).2.1 := by decide +kernel
theorem tyX6_ok : ∀ k, k < 4 → parseFieldDescriptor (TX6 k).2.2.1 = some (tyX6 k) := by decide +kernel
set_option maxRecDepth 100000 in
theorem inX6 : ∀ w ∈ u_ws RX6 TX6 4, w ∈ zAL := zAL_ws [58, 60, 62, 64] (by rfl) (by decide +kernel)
def RX7 : String := "QueueTurns"
def TX7 : u_T := fun k => match k with
  | 0 => ("QueueTurns", "text", "LQueueTurns$Text;", true)
  | 1 => ("QueueTurns", "study", "LQueueTurns$Study;", true)
  | 2 => ("QueueTurns", "morning", "LQueueTurns$Morning;", true)
  | 3 => ("QueueTurns", "odds", "LQueueTurns$Odds;", true)
  | 4 => ("QueueTurns", "names", "LQueueTurns$Names;", true)
  | 5 => ("QueueTurns", "kept", "[LQueueTurns$CryList;", true)
  | 6 => ("QueueTurns", "keptMany", "I", false)
  | 7 => ("QueueTurns", "laid", "LQueueTurns$Plan;", false)
  | 8 => ("QueueTurns", "spare", "LQueueTurns$Plan;", false)
  | _ => ("QueueTurns", "fixedCries", "I", false)
def tyX7 : Nat → FieldType := fun k => match k with
  | 0 => .object "QueueTurns$Text"
  | 1 => .object "QueueTurns$Study"
  | 2 => .object "QueueTurns$Morning"
  | 3 => .object "QueueTurns$Odds"
  | 4 => .object "QueueTurns$Names"
  | 5 => .array (.object "QueueTurns$CryList")
  | 6 => .int
  | 7 => .object "QueueTurns$Plan"
  | 8 => .object "QueueTurns$Plan"
  | _ => .int
theorem nmX7 : ∀ a, a < 10 → ∀ b, b < 10 → a ≠ b → (TX7 a).2.1 ≠ (TX7 b).2.1 := by decide +kernel
theorem tyX7_ok : ∀ k, k < 10 → parseFieldDescriptor (TX7 k).2.2.1 = some (tyX7 k) := by decide +kernel
set_option maxRecDepth 100000 in
theorem inX7 : ∀ w ∈ u_ws RX7 TX7 10, w ∈ zAL := zAL_ws [340, 342, 344, 346, 348, 350, 352, 354, 356, 358] (by rfl) (by decide +kernel)
def RX8 : String := "QueueTurnsModel"
def TX8 : u_T := fun k => match k with
  | 0 => ("QueueTurnsModel", "length", "I", false)
  | 1 => ("QueueTurnsModel", "text", "[I", true)
  | 2 => ("QueueTurnsModel", "many", "[I", true)
  | 3 => ("QueueTurnsModel", "comes", "[I", true)
  | 4 => ("QueueTurnsModel", "hasChild", "[I", true)
  | 5 => ("QueueTurnsModel", "waits", "[I", true)
  | 6 => ("QueueTurnsModel", "quiet", "[I", true)
  | 7 => ("QueueTurnsModel", "serves", "[I", true)
  | 8 => ("QueueTurnsModel", "each", "[I", true)
  | 9 => ("QueueTurnsModel", "loaves", "[I", true)
  | 10 => ("QueueTurnsModel", "law", "[I", true)
  | 11 => ("QueueTurnsModel", "cryMany", "[I", true)
  | 12 => ("QueueTurnsModel", "cryOf", "[I", true)
  | 13 => ("QueueTurnsModel", "cryAt", "[I", true)
  | 14 => ("QueueTurnsModel", "keptMany", "I", false)
  | 15 => ("QueueTurnsModel", "toldMany", "I", false)
  | 16 => ("QueueTurnsModel", "nameMany", "[I", true)
  | 17 => ("QueueTurnsModel", "names", "[I", true)
  | 18 => ("QueueTurnsModel", "place", "I", false)
  | 19 => ("QueueTurnsModel", "told", "[I", true)
  | 20 => ("QueueTurnsModel", "heard", "I", false)
  | 21 => ("QueueTurnsModel", "moreOne", "I", false)
  | 22 => ("QueueTurnsModel", "moreOneAt", "I", false)
  | 23 => ("QueueTurnsModel", "moreTwo", "I", false)
  | 24 => ("QueueTurnsModel", "moreTwoAt", "I", false)
  | 25 => ("QueueTurnsModel", "byLaw", "I", false)
  | 26 => ("QueueTurnsModel", "byDraw", "I", false)
  | 27 => ("QueueTurnsModel", "line", "[I", true)
  | 28 => ("QueueTurnsModel", "lineMany", "I", false)
  | 29 => ("QueueTurnsModel", "how", "[I", true)
  | 30 => ("QueueTurnsModel", "when", "[I", true)
  | 31 => ("QueueTurnsModel", "turns", "I", false)
  | 32 => ("QueueTurnsModel", "timeOne", "[I", true)
  | 33 => ("QueueTurnsModel", "timeTwo", "[I", true)
  | _ => ("QueueTurnsModel", "sums", "[J", true)
def tyX8 : Nat → FieldType := fun k => match k with
  | 0 => .int
  | 1 => .array .int
  | 2 => .array .int
  | 3 => .array .int
  | 4 => .array .int
  | 5 => .array .int
  | 6 => .array .int
  | 7 => .array .int
  | 8 => .array .int
  | 9 => .array .int
  | 10 => .array .int
  | 11 => .array .int
  | 12 => .array .int
  | 13 => .array .int
  | 14 => .int
  | 15 => .int
  | 16 => .array .int
  | 17 => .array .int
  | 18 => .int
  | 19 => .array .int
  | 20 => .int
  | 21 => .int
  | 22 => .int
  | 23 => .int
  | 24 => .int
  | 25 => .int
  | 26 => .int
  | 27 => .array .int
  | 28 => .int
  | 29 => .array .int
  | 30 => .array .int
  | 31 => .int
  | 32 => .array .int
  | 33 => .array .int
  | _ => .array .long
theorem nmX8 : ∀ a, a < 35 → ∀ b, b < 35 → a ≠ b → (TX8 a).2.1 ≠ (TX8 b).2.1 := by decide +kernel
theorem tyX8_ok : ∀ k, k < 35 → parseFieldDescriptor (TX8 k).2.2.1 = some (tyX8 k) := by decide +kernel
set_option maxRecDepth 100000 in
theorem inX8 : ∀ w ∈ u_ws RX8 TX8 35, w ∈ zAL := zAL_ws [772, 774, 776, 778, 780, 782, 784, 786, 788, 790, 792, 794, 796, 798, 800, 802, 804, 806, 808, 810, 812, 814, 816, 818, 820, 822, 824, 826, 828, 830, 832, 834, 836, 838, 840] (by rfl) (by decide +kernel)
def RL : String := "QueueTurnsLaw"
def RJ6 : String := "java/lang/Integer"
def RJ9 : String := "java/lang/Math"
abbrev vwCl : List vw_C := [(RX0, TX0, 4), (RX1, TX1, 16), (RX2, TX2, 6), (RX3, TX3, 3), (RX4, TX4, 11), (RX5, TX5, 8), (RX6, TX6, 4), (RX7, TX7, 10), (RX8, TX8, 35)]
abbrev cX0_init : ByteArray := prog_2_method_1_code
def yX0_init : MethodName := ⟨RX0, "<init>", "()V"⟩
abbrev cX0_add : ByteArray := prog_2_method_2_code
def yX0_add : MethodName := ⟨RX0, "add", "(II)Z"⟩
abbrev cX0_dropLast : ByteArray := prog_2_method_3_code
def yX0_dropLast : MethodName := ⟨RX0, "dropLast", "()V"⟩
abbrev cX0_clear : ByteArray := prog_2_method_4_code
def yX0_clear : MethodName := ⟨RX0, "clear", "()V"⟩
abbrev cX0_copyFrom : ByteArray := prog_2_method_5_code
def yX0_copyFrom : MethodName := ⟨RX0, "copyFrom", "(LQueueTurns$CryList;)V"⟩
abbrev cX1_init : ByteArray := prog_3_method_1_code
def yX1_init : MethodName := ⟨RX1, "<init>", "()V"⟩
abbrev cX1_asTold : ByteArray := prog_3_method_2_code
def yX1_asTold : MethodName := ⟨RX1, "asTold", "(LQueueTurns$Plan;)V"⟩
abbrev cX1_addExtra : ByteArray := prog_3_method_3_code
def yX1_addExtra : MethodName := ⟨RX1, "addExtra", "(III)V"⟩
abbrev cX1_runTo : ByteArray := prog_3_method_4_code
def yX1_runTo : MethodName := ⟨RX1, "runTo", "(I)V"⟩
abbrev cX1_begin : ByteArray := prog_3_method_5_code
def yX1_begin : MethodName := ⟨RX1, "begin", "()V"⟩
abbrev cX1_letGoAway : ByteArray := prog_3_method_6_code
def yX1_letGoAway : MethodName := ⟨RX1, "letGoAway", "(I)V"⟩
abbrev cX1_isToldCry : ByteArray := prog_3_method_7_code
def yX1_isToldCry : MethodName := ⟨RX1, "isToldCry", "(I)Z"⟩
abbrev cX1_isExtraCry : ByteArray := prog_3_method_8_code
def yX1_isExtraCry : MethodName := ⟨RX1, "isExtraCry", "(I)Z"⟩
abbrev cX1_isDrawnCry : ByteArray := prog_3_method_9_code
def yX1_isDrawnCry : MethodName := ⟨RX1, "isDrawnCry", "(I)Z"⟩
abbrev cX1_isDrawn : ByteArray := prog_3_method_10_code
def yX1_isDrawn : MethodName := ⟨RX1, "isDrawn", "(II)Z"⟩
abbrev cX1_turn : ByteArray := prog_3_method_11_code
def yX1_turn : MethodName := ⟨RX1, "turn", "(I)V"⟩
abbrev cX1_letCome : ByteArray := prog_3_method_12_code
def yX1_letCome : MethodName := ⟨RX1, "letCome", "(I)V"⟩
abbrev cX1_join : ByteArray := prog_3_method_13_code
def yX1_join : MethodName := ⟨RX1, "join", "(I)V"⟩
abbrev cX1_serve : ByteArray := prog_3_method_14_code
def yX1_serve : MethodName := ⟨RX1, "serve", "(I)V"⟩
abbrev cX1_sendHome : ByteArray := prog_3_method_15_code
def yX1_sendHome : MethodName := ⟨RX1, "sendHome", "(I)V"⟩
abbrev cX1_end : ByteArray := prog_3_method_16_code
def yX1_end : MethodName := ⟨RX1, "end", "(III)V"⟩
abbrev cX1_placeOf : ByteArray := prog_3_method_17_code
def yX1_placeOf : MethodName := ⟨RX1, "placeOf", "(I)I"⟩
abbrev cX1_manyOf : ByteArray := prog_3_method_18_code
def yX1_manyOf : MethodName := ⟨RX1, "manyOf", "(I)I"⟩
abbrev cX1_timeOf : ByteArray := prog_3_method_19_code
def yX1_timeOf : MethodName := ⟨RX1, "timeOf", "(I)I"⟩
abbrev cX1_unfair : ByteArray := prog_3_method_20_code
def yX1_unfair : MethodName := ⟨RX1, "unfair", "()I"⟩
abbrev cX2_init : ByteArray := prog_4_method_1_code
def yX2_init : MethodName := ⟨RX2, "<init>", "()V"⟩
abbrev cX2_manyIn : ByteArray := prog_4_method_2_code
def yX2_manyIn : MethodName := ⟨RX2, "manyIn", "(I)I"⟩
abbrev cX2_isIn : ByteArray := prog_4_method_3_code
def yX2_isIn : MethodName := ⟨RX2, "isIn", "(II)Z"⟩
abbrev cX2_add : ByteArray := prog_4_method_4_code
def yX2_add : MethodName := ⟨RX2, "add", "(II)V"⟩
abbrev cX2_forget : ByteArray := prog_4_method_5_code
def yX2_forget : MethodName := ⟨RX2, "forget", "()V"⟩
abbrev cX2_findTurns : ByteArray := prog_4_method_6_code
def yX2_findTurns : MethodName := ⟨RX2, "findTurns", "()V"⟩
abbrev cX2_isFitting : ByteArray := prog_4_method_7_code
def yX2_isFitting : MethodName := ⟨RX2, "isFitting", "(I)Z"⟩
abbrev cX3_init : ByteArray := prog_5_method_1_code
def yX3_init : MethodName := ⟨RX3, "<init>", "()V"⟩
abbrev cX3_findChances : ByteArray := prog_5_method_2_code
def yX3_findChances : MethodName := ⟨RX3, "findChances", "(III)V"⟩
abbrev cX3_meanAbove : ByteArray := prog_5_method_3_code
def yX3_meanAbove : MethodName := ⟨RX3, "meanAbove", "(III)J"⟩
abbrev cX3_chanceAbove : ByteArray := prog_5_method_4_code
def yX3_chanceAbove : MethodName := ⟨RX3, "chanceAbove", "(IIII)J"⟩
abbrev cX3_lowest : ByteArray := prog_5_method_5_code
def yX3_lowest : MethodName := ⟨RX3, "lowest", "(JI)J"⟩
abbrev cX3_bestPlace : ByteArray := prog_5_method_6_code
def yX3_bestPlace : MethodName := ⟨RX3, "bestPlace", "(II)I"⟩
abbrev cX3_bestEnd : ByteArray := prog_5_method_7_code
def yX3_bestEnd : MethodName := ⟨RX3, "bestEnd", "(II)I"⟩
abbrev cX4_init : ByteArray := prog_6_method_1_code
def yX4_init : MethodName := ⟨RX4, "<init>", "()V"⟩
abbrev cX4_clear : ByteArray := prog_6_method_2_code
def yX4_clear : MethodName := ⟨RX4, "clear", "()V"⟩
abbrev cX4_isTold : ByteArray := prog_6_method_3_code
def yX4_isTold : MethodName := ⟨RX4, "isTold", "(I)Z"⟩
abbrev cX4_hasChild : ByteArray := prog_6_method_4_code
def yX4_hasChild : MethodName := ⟨RX4, "hasChild", "(I)Z"⟩
abbrev cX4_take : ByteArray := prog_6_method_5_code
def yX4_take : MethodName := ⟨RX4, "take", "(IIII)Z"⟩
abbrev cX4_addPerson : ByteArray := prog_6_method_6_code
def yX4_addPerson : MethodName := ⟨RX4, "addPerson", "(III)Z"⟩
abbrev cX4_addCry : ByteArray := prog_6_method_7_code
def yX4_addCry : MethodName := ⟨RX4, "addCry", "(II)Z"⟩
abbrev cX4_setService : ByteArray := prog_6_method_8_code
def yX4_setService : MethodName := ⟨RX4, "setService", "(II)Z"⟩
abbrev cX5_init : ByteArray := prog_7_method_1_code
def yX5_init : MethodName := ⟨RX5, "<init>", "()V"⟩
abbrev cX5_timeWithout : ByteArray := prog_7_method_2_code
def yX5_timeWithout : MethodName := ⟨RX5, "timeWithout", "(LQueueTurns$Plan;II)I"⟩
abbrev cX5_gainedBy : ByteArray := prog_7_method_3_code
def yX5_gainedBy : MethodName := ⟨RX5, "gainedBy", "(LQueueTurns$Plan;I)I"⟩
abbrev cX5_mostGained : ByteArray := prog_7_method_4_code
def yX5_mostGained : MethodName := ⟨RX5, "mostGained", "(LQueueTurns$Plan;)I"⟩
abbrev cX5_fewestHushed : ByteArray := prog_7_method_5_code
def yX5_fewestHushed : MethodName := ⟨RX5, "fewestHushed", "(LQueueTurns$Plan;II)I"⟩
abbrev cX5_isServedBy : ByteArray := prog_7_method_6_code
def yX5_isServedBy : MethodName := ⟨RX5, "isServedBy", "(LQueueTurns$Plan;III)Z"⟩
abbrev cX5_cryOnceMore : ByteArray := prog_7_method_7_code
def yX5_cryOnceMore : MethodName := ⟨RX5, "cryOnceMore", "(LQueueTurns$Plan;I)V"⟩
abbrev cX5_play : ByteArray := prog_7_method_8_code
def yX5_play : MethodName := ⟨RX5, "play", "(LQueueTurns$Plan;II)V"⟩
abbrev cX5_isRest : ByteArray := prog_7_method_9_code
def yX5_isRest : MethodName := ⟨RX5, "isRest", "(II)Z"⟩
abbrev cX5_unfairBy : ByteArray := prog_7_method_10_code
def yX5_unfairBy : MethodName := ⟨RX5, "unfairBy", "(LQueueTurns$Plan;I)I"⟩
abbrev cX5_bestLaw : ByteArray := prog_7_method_11_code
def yX5_bestLaw : MethodName := ⟨RX5, "bestLaw", "(LQueueTurns$Plan;)I"⟩
abbrev cX6_init : ByteArray := prog_8_method_1_code
def yX6_init : MethodName := ⟨RX6, "<init>", "()V"⟩
abbrev cX6_append : ByteArray := prog_8_method_2_code
def yX6_append : MethodName := ⟨RX6, "append", "(B)V"⟩
abbrev cX6_readInto : ByteArray := prog_8_method_3_code
def yX6_readInto : MethodName := ⟨RX6, "readInto", "(LQueueTurns$Plan;)I"⟩
abbrev cX6_readItem : ByteArray := prog_8_method_4_code
def yX6_readItem : MethodName := ⟨RX6, "readItem", "(LQueueTurns$Plan;)Z"⟩
abbrev cX6_numbersOf : ByteArray := prog_8_method_5_code
def yX6_numbersOf : MethodName := ⟨RX6, "numbersOf", "(I)I"⟩
abbrev cX6_readNumbers : ByteArray := prog_8_method_6_code
def yX6_readNumbers : MethodName := ⟨RX6, "readNumbers", "(I)Z"⟩
abbrev cX6_readNumber : ByteArray := prog_8_method_7_code
def yX6_readNumber : MethodName := ⟨RX6, "readNumber", "()I"⟩
abbrev cX6_figureAt : ByteArray := prog_8_method_8_code
def yX6_figureAt : MethodName := ⟨RX6, "figureAt", "()I"⟩
abbrev cX6_nextByte : ByteArray := prog_8_method_9_code
def yX6_nextByte : MethodName := ⟨RX6, "nextByte", "()I"⟩
abbrev cX7_init : ByteArray := prog_1_method_1_code
def yX7_init : MethodName := ⟨RX7, "<init>", "()V"⟩
abbrev cX7_write : ByteArray := prog_1_method_2_code
def yX7_write : MethodName := ⟨RX7, "write", "(IJ)I"⟩
abbrev cX7_wipe : ByteArray := prog_1_method_3_code
def yX7_wipe : MethodName := ⟨RX7, "wipe", "()I"⟩
abbrev cX7_fault : ByteArray := prog_1_method_4_code
def yX7_fault : MethodName := ⟨RX7, "fault", "()I"⟩
abbrev cX7_lay : ByteArray := prog_1_method_5_code
def yX7_lay : MethodName := ⟨RX7, "lay", "()I"⟩
abbrev cX7_person : ByteArray := prog_1_method_6_code
def yX7_person : MethodName := ⟨RX7, "person", "(II)I"⟩
abbrev cX7_place : ByteArray := prog_1_method_7_code
def yX7_place : MethodName := ⟨RX7, "place", "(II)I"⟩
abbrev cX7_row : ByteArray := prog_1_method_8_code
def yX7_row : MethodName := ⟨RX7, "row", "(I)I"⟩
abbrev cX7_all : ByteArray := prog_1_method_9_code
def yX7_all : MethodName := ⟨RX7, "all", "(I)I"⟩
abbrev cX7_cry : ByteArray := prog_1_method_10_code
def yX7_cry : MethodName := ⟨RX7, "cry", "(II)I"⟩
abbrev cX7_suspect : ByteArray := prog_1_method_11_code
def yX7_suspect : MethodName := ⟨RX7, "suspect", "()I"⟩
abbrev cX7_tell : ByteArray := prog_1_method_12_code
def yX7_tell : MethodName := ⟨RX7, "tell", "(II)I"⟩
abbrev cX7_takeBack : ByteArray := prog_1_method_13_code
def yX7_takeBack : MethodName := ⟨RX7, "takeBack", "()I"⟩
abbrev cX7_hush : ByteArray := prog_1_method_14_code
def yX7_hush : MethodName := ⟨RX7, "hush", "(II)I"⟩
abbrev cX7_again : ByteArray := prog_1_method_15_code
def yX7_again : MethodName := ⟨RX7, "again", "(II)I"⟩
abbrev cX7_game : ByteArray := prog_1_method_16_code
def yX7_game : MethodName := ⟨RX7, "game", "(III)I"⟩
abbrev cX7_laws : ByteArray := prog_1_method_17_code
def yX7_laws : MethodName := ⟨RX7, "laws", "(I)I"⟩
abbrev cX7_mean : ByteArray := prog_1_method_18_code
def yX7_mean : MethodName := ⟨RX7, "mean", "(IIII)J"⟩
abbrev cX7_by : ByteArray := prog_1_method_19_code
def yX7_by : MethodName := ⟨RX7, "by", "(IIIII)J"⟩
abbrev cX7_best : ByteArray := prog_1_method_20_code
def yX7_best : MethodName := ⟨RX7, "best", "(III)I"⟩
abbrev cX7_name : ByteArray := prog_1_method_21_code
def yX7_name : MethodName := ⟨RX7, "name", "(II)I"⟩
abbrev cX7_noNames : ByteArray := prog_1_method_22_code
def yX7_noNames : MethodName := ⟨RX7, "noNames", "()I"⟩
abbrev cX7_fits : ByteArray := prog_1_method_23_code
def yX7_fits : MethodName := ⟨RX7, "fits", "(I)I"⟩
abbrev cX7_drawn : ByteArray := prog_1_method_24_code
def yX7_drawn : MethodName := ⟨RX7, "drawn", "(II)I"⟩
abbrev cX7_keep : ByteArray := prog_1_method_25_code
def yX7_keep : MethodName := ⟨RX7, "keep", "()I"⟩
abbrev cX7_back : ByteArray := prog_1_method_26_code
def yX7_back : MethodName := ⟨RX7, "back", "()I"⟩
abbrev cX7_count : ByteArray := prog_1_method_27_code
def yX7_count : MethodName := ⟨RX7, "count", "(I)I"⟩
abbrev cX7_isPerson : ByteArray := prog_1_method_28_code
def yX7_isPerson : MethodName := ⟨RX7, "isPerson", "(I)Z"⟩
abbrev cX7_isMinute : ByteArray := prog_1_method_29_code
def yX7_isMinute : MethodName := ⟨RX7, "isMinute", "(I)Z"⟩
abbrev cX7_areOdds : ByteArray := prog_1_method_30_code
def yX7_areOdds : MethodName := ⟨RX7, "areOdds", "(II)Z"⟩
abbrev cX7_runAsTold : ByteArray := prog_1_method_31_code
def yX7_runAsTold : MethodName := ⟨RX7, "runAsTold", "()V"⟩
abbrev cX8_init : ByteArray := prog_10_method_1_code
def yX8_init : MethodName := ⟨RX8, "<init>", "()V"⟩
abbrev cX8_in : ByteArray := prog_10_method_2_code
def yX8_in : MethodName := ⟨RX8, "in", "(JJJ)Z"⟩
abbrev cX8_has : ByteArray := prog_10_method_3_code
def yX8_has : MethodName := ⟨RX8, "has", "(II)Z"⟩
abbrev cX8_noMorning : ByteArray := prog_10_method_4_code
def yX8_noMorning : MethodName := ⟨RX8, "noMorning", "(I)V"⟩
abbrev cX8_write : ByteArray := prog_10_method_5_code
def yX8_write : MethodName := ⟨RX8, "write", "(IJ)I"⟩
abbrev cX8_wipe : ByteArray := prog_10_method_6_code
def yX8_wipe : MethodName := ⟨RX8, "wipe", "()I"⟩
abbrev cX8_byteAt : ByteArray := prog_10_method_7_code
def yX8_byteAt : MethodName := ⟨RX8, "byteAt", "(I)I"⟩
abbrev cX8_figures : ByteArray := prog_10_method_8_code
def yX8_figures : MethodName := ⟨RX8, "figures", "(I)Z"⟩
abbrev cX8_item : ByteArray := prog_10_method_9_code
def yX8_item : MethodName := ⟨RX8, "item", "()Z"⟩
abbrev cX8_readAll : ByteArray := prog_10_method_10_code
def yX8_readAll : MethodName := ⟨RX8, "readAll", "()I"⟩
abbrev cX8_fault : ByteArray := prog_10_method_11_code
def yX8_fault : MethodName := ⟨RX8, "fault", "()I"⟩
abbrev cX8_copyCries : ByteArray := prog_10_method_12_code
def yX8_copyCries : MethodName := ⟨RX8, "copyCries", "(II)V"⟩
abbrev cX8_lay : ByteArray := prog_10_method_13_code
def yX8_lay : MethodName := ⟨RX8, "lay", "()I"⟩
abbrev cX8_isPerson : ByteArray := prog_10_method_14_code
def yX8_isPerson : MethodName := ⟨RX8, "isPerson", "(I)Z"⟩
abbrev cX8_asItIs : ByteArray := prog_10_method_15_code
def yX8_asItIs : MethodName := ⟨RX8, "asItIs", "()V"⟩
abbrev cX8_isInLine : ByteArray := prog_10_method_16_code
def yX8_isInLine : MethodName := ⟨RX8, "isInLine", "(I)Z"⟩
abbrev cX8_takeOut : ByteArray := prog_10_method_17_code
def yX8_takeOut : MethodName := ⟨RX8, "takeOut", "(I)V"⟩
abbrev cX8_putIn : ByteArray := prog_10_method_18_code
def yX8_putIn : MethodName := ⟨RX8, "putIn", "(II)V"⟩
abbrev cX8_doesCry : ByteArray := prog_10_method_19_code
def yX8_doesCry : MethodName := ⟨RX8, "doesCry", "(I)Z"⟩
abbrev cX8_turnLine : ByteArray := prog_10_method_20_code
def yX8_turnLine : MethodName := ⟨RX8, "turnLine", "()V"⟩
abbrev cX8_end : ByteArray := prog_10_method_21_code
def yX8_end : MethodName := ⟨RX8, "end", "(III)V"⟩
abbrev cX8_go : ByteArray := prog_10_method_22_code
def yX8_go : MethodName := ⟨RX8, "go", "(I)V"⟩
abbrev cX8_goAsItIs : ByteArray := prog_10_method_23_code
def yX8_goAsItIs : MethodName := ⟨RX8, "goAsItIs", "()V"⟩
abbrev cX8_timeOf : ByteArray := prog_10_method_24_code
def yX8_timeOf : MethodName := ⟨RX8, "timeOf", "(I)I"⟩
abbrev cX8_unfair : ByteArray := prog_10_method_25_code
def yX8_unfair : MethodName := ⟨RX8, "unfair", "()I"⟩
abbrev cX8_howMany : ByteArray := prog_10_method_26_code
def yX8_howMany : MethodName := ⟨RX8, "howMany", "(I)I"⟩
abbrev cX8_person : ByteArray := prog_10_method_27_code
def yX8_person : MethodName := ⟨RX8, "person", "(II)I"⟩
abbrev cX8_place : ByteArray := prog_10_method_28_code
def yX8_place : MethodName := ⟨RX8, "place", "(II)I"⟩
abbrev cX8_row : ByteArray := prog_10_method_29_code
def yX8_row : MethodName := ⟨RX8, "row", "(I)I"⟩
abbrev cX8_all : ByteArray := prog_10_method_30_code
def yX8_all : MethodName := ⟨RX8, "all", "(I)I"⟩
abbrev cX8_gainedOf : ByteArray := prog_10_method_31_code
def yX8_gainedOf : MethodName := ⟨RX8, "gainedOf", "(I)I"⟩
abbrev cX8_cry : ByteArray := prog_10_method_32_code
def yX8_cry : MethodName := ⟨RX8, "cry", "(II)I"⟩
abbrev cX8_suspect : ByteArray := prog_10_method_33_code
def yX8_suspect : MethodName := ⟨RX8, "suspect", "()I"⟩
abbrev cX8_tell : ByteArray := prog_10_method_34_code
def yX8_tell : MethodName := ⟨RX8, "tell", "(II)I"⟩
abbrev cX8_takeBack : ByteArray := prog_10_method_35_code
def yX8_takeBack : MethodName := ⟨RX8, "takeBack", "()I"⟩
abbrev cX8_ones : ByteArray := prog_10_method_36_code
def yX8_ones : MethodName := ⟨RX8, "ones", "(I)I"⟩
abbrev cX8_hush : ByteArray := prog_10_method_37_code
def yX8_hush : MethodName := ⟨RX8, "hush", "(II)I"⟩
abbrev cX8_again : ByteArray := prog_10_method_38_code
def yX8_again : MethodName := ⟨RX8, "again", "(II)I"⟩
abbrev cX8_game : ByteArray := prog_10_method_39_code
def yX8_game : MethodName := ⟨RX8, "game", "(III)I"⟩
abbrev cX8_unfairBy : ByteArray := prog_10_method_40_code
def yX8_unfairBy : MethodName := ⟨RX8, "unfairBy", "(I)I"⟩
abbrev cX8_laws : ByteArray := prog_10_method_41_code
def yX8_laws : MethodName := ⟨RX8, "laws", "(I)I"⟩
abbrev cX8_tens : ByteArray := prog_10_method_42_code
def yX8_tens : MethodName := ⟨RX8, "tens", "(I)J"⟩
abbrev cX8_behindOf : ByteArray := prog_10_method_43_code
def yX8_behindOf : MethodName := ⟨RX8, "behindOf", "(III)J"⟩
abbrev cX8_layMeans : ByteArray := prog_10_method_44_code
def yX8_layMeans : MethodName := ⟨RX8, "layMeans", "(II)V"⟩
abbrev cX8_layBy : ByteArray := prog_10_method_45_code
def yX8_layBy : MethodName := ⟨RX8, "layBy", "(III)V"⟩
abbrev cX8_lowest : ByteArray := prog_10_method_46_code
def yX8_lowest : MethodName := ⟨RX8, "lowest", "(JJI)J"⟩
abbrev cX8_areOf : ByteArray := prog_10_method_47_code
def yX8_areOf : MethodName := ⟨RX8, "areOf", "(II)Z"⟩
abbrev cX8_mean : ByteArray := prog_10_method_48_code
def yX8_mean : MethodName := ⟨RX8, "mean", "(IIII)J"⟩
abbrev cX8_by : ByteArray := prog_10_method_49_code
def yX8_by : MethodName := ⟨RX8, "by", "(IIIII)J"⟩
abbrev cX8_best : ByteArray := prog_10_method_50_code
def yX8_best : MethodName := ⟨RX8, "best", "(III)I"⟩
abbrev cX8_name : ByteArray := prog_10_method_51_code
def yX8_name : MethodName := ⟨RX8, "name", "(II)I"⟩
abbrev cX8_noNames : ByteArray := prog_10_method_52_code
def yX8_noNames : MethodName := ⟨RX8, "noNames", "()I"⟩
abbrev cX8_isFit : ByteArray := prog_10_method_53_code
def yX8_isFit : MethodName := ⟨RX8, "isFit", "(I)Z"⟩
abbrev cX8_fits : ByteArray := prog_10_method_54_code
def yX8_fits : MethodName := ⟨RX8, "fits", "(I)I"⟩
abbrev cX8_drawn : ByteArray := prog_10_method_55_code
def yX8_drawn : MethodName := ⟨RX8, "drawn", "(II)I"⟩
abbrev cX8_keep : ByteArray := prog_10_method_56_code
def yX8_keep : MethodName := ⟨RX8, "keep", "()I"⟩
abbrev cX8_back : ByteArray := prog_10_method_57_code
def yX8_back : MethodName := ⟨RX8, "back", "()I"⟩
abbrev cX8_count : ByteArray := prog_10_method_58_code
def yX8_count : MethodName := ⟨RX8, "count", "(I)I"⟩
abbrev cJ6_bitCount_0f7a4 : ByteArray := prog_11_method_49_code
def yJ6_bitCount_0f7a4 : MethodName := ⟨RJ6, "bitCount", "(I)I"⟩
abbrev cJ9_min_7cf53 : ByteArray := prog_12_method_69_code
def yJ9_min_7cf53 : MethodName := ⟨RJ9, "min", "(II)I"⟩
abbrev cL_law : ByteArray := code
end
section
def zlay : List (((Nat × List (Option (Option Nat))) ⊕ ((Nat × Nat) ⊕ List Nat))) := [
  .inl (7, [some (some 1), some (some 4), some (some 5), some (some 23), some (some 27), some (some 30), none, some none, some none, none]),
  .inl (6, [some (some 2), some (some 3), none, none]),
  .inr (.inl (1, 300)),
  .inr (.inl (0, 3)),
  .inl (5, [some (some 5), some (some 21), some (some 22), none, none, none, none, none]),
  .inl (1, [some (some 6), some (some 7), some (some 8), some (some 9), some (some 10), some (some 11), some none, none, none, none, none, none, none, none, none, none]),
  .inr (.inl (0, 10)),
  .inr (.inl (0, 10)),
  .inr (.inl (3, 10)),
  .inr (.inl (0, 10)),
  .inr (.inl (0, 2)),
  .inr (.inl (0, 2)),
  .inl (4, [some (some 13), some (some 14), some (some 15), some (some 16), some (some 17), none, none, none, none, none, none]),
  .inr (.inl (0, 10)),
  .inr (.inl (0, 10)),
  .inr (.inl (0, 10)),
  .inr (.inl (0, 10)),
  .inl (0, [some (some 18), some (some 19), some (some 20), none]),
  .inr (.inl (0, 8)),
  .inr (.inl (0, 8)),
  .inr (.inl (0, 100)),
  .inr (.inl (0, 144)),
  .inr (.inl (0, 144)),
  .inl (3, [some (some 24), some (some 25), some (some 26)]),
  .inr (.inl (2, 9)),
  .inr (.inl (2, 9)),
  .inr (.inl (2, 9)),
  .inl (2, [some (some 28), some (some 29), none, none, none, none]),
  .inr (.inl (0, 9)),
  .inr (.inl (0, 9)),
  .inr (.inr [31, 35]),
  .inl (0, [some (some 32), some (some 33), some (some 34), none]),
  .inr (.inl (0, 8)),
  .inr (.inl (0, 8)),
  .inr (.inl (0, 100)),
  .inl (0, [some (some 36), some (some 37), some (some 38), none]),
  .inr (.inl (0, 8)),
  .inr (.inl (0, 8)),
  .inr (.inl (0, 100)),
  .inl (4, [some (some 40), some (some 41), some (some 42), some (some 43), some (some 44), none, none, none, none, none, none]),
  .inr (.inl (0, 10)),
  .inr (.inl (0, 10)),
  .inr (.inl (0, 10)),
  .inr (.inl (0, 10)),
  .inl (0, [some (some 45), some (some 46), some (some 47), none]),
  .inr (.inl (0, 8)),
  .inr (.inl (0, 8)),
  .inr (.inl (0, 100)),
  .inl (4, [some (some 49), some (some 50), some (some 51), some (some 52), some (some 53), none, none, none, none, none, none]),
  .inr (.inl (0, 10)),
  .inr (.inl (0, 10)),
  .inr (.inl (0, 10)),
  .inr (.inl (0, 10)),
  .inl (0, [some (some 54), some (some 55), some (some 56), none]),
  .inr (.inl (0, 8)),
  .inr (.inl (0, 8)),
  .inr (.inl (0, 100)),
  .inl (8, [none, some (some 58), some (some 59), some (some 60), some (some 61), some (some 62), some (some 63), some (some 64), some (some 65), some (some 66), some (some 67), some (some 68), some (some 69), some (some 70), none, none, some (some 71), some (some 72), none, some (some 73), none, none, none, none, none, none, none, some (some 74), none, some (some 75), some (some 76), none, some (some 77), some (some 78), some (some 79)]),
  .inr (.inl (0, 300)),
  .inr (.inl (0, 2)),
  .inr (.inl (0, 20)),
  .inr (.inl (0, 20)),
  .inr (.inl (0, 20)),
  .inr (.inl (0, 2)),
  .inr (.inl (0, 2)),
  .inr (.inl (0, 2)),
  .inr (.inl (0, 2)),
  .inr (.inl (0, 2)),
  .inr (.inl (0, 4)),
  .inr (.inl (0, 32)),
  .inr (.inl (0, 32)),
  .inr (.inl (0, 2)),
  .inr (.inl (0, 18)),
  .inr (.inl (0, 3)),
  .inr (.inl (0, 10)),
  .inr (.inl (0, 10)),
  .inr (.inl (0, 10)),
  .inr (.inl (0, 144)),
  .inr (.inl (0, 144)),
  .inr (.inl (2, 100))]
/-! ===== the pure machine: memory, world, states ===== -/
abbrev zM : Type := Nat → Int → Int
def zup (σ : zM) (c : Nat) (i v : Int) : zM := fun c' i' => if c' = c ∧ i' = i then v else σ c' i'
def zi (a : Int) : Value := .int (Int32.ofInt a)
def zl (a : Int) : Value := .long (Int64.ofInt a)
abbrev zW : Type := va_G × (Nat → ClassId) × (Nat → Nat)
def zr (w : zW) (c : Nat) : Value := .ref (w.2.2 c)
abbrev zF : Type := Option (Option Nat)
abbrev zL : Type := (Nat × List zF) ⊕ ((Nat × Nat) ⊕ List Nat)
def zfv (w : zW) (σ : zM) (c j : Nat) (f : zF) : Value := match f with
  | none => zi (σ c j)
  | some none => zr w (σ c j).toNat
  | some (some d) => zr w d
def zfvs (w : zW) (σ : zM) (c : Nat) : Nat → List zF → List Value
  | _, [] => []
  | j, f :: t => zfv w σ c j f :: zfvs w σ c (j + 1) t
def zce (w : zW) (σ : zM) (c : Nat) (e : zL) : va_E := match e with
  | .inl (ci, fs) => .inr (ci, zfvs w σ c 0 fs)
  | .inr (.inl (ty, n)) => if ty = 2 then .inl (w.2.1 2, n, .inr (.inl (fun j => Int64.ofInt (σ c j)))) else .inl (w.2.1 ty, n, .inl (fun j => Int32.ofInt (σ c j)))
  | .inr (.inr ids) => .inl (w.2.1 4, ids.length, .inr (.inr (.inr (.inr (fun j => (ids[j]?).map w.2.2)))))
def zws (w : zW) (σ : zM) : Nat → List zL → va_W
  | _, [] => []
  | c, e :: t => (w.2.2 c, zce w σ c e) :: zws w σ (c + 1) t
def zwl (w : zW) (σ : zM) : va_W := zws w σ 0 zlay
theorem zfvs_at (w : zW) (σ : zM) (c : Nat) : ∀ (fs : List zF) (j k : Nat) (f : zF), fs[k]? = some f → (zfvs w σ c j fs)[k]? = some (zfv w σ c (j + k) f)
  | [], j, k, f, h => by simp at h
  | g :: t, j, 0, f, h => by simp at h; subst h; rfl
  | g :: t, j, k + 1, f, h => by
    simp only [List.getElem?_cons_succ] at h
    have := zfvs_at w σ c t (j + 1) k f h
    simp only [zfvs, List.getElem?_cons_succ]
    rw [this, show j + 1 + k = j + (k + 1) by omega]
theorem zfvs_len (w : zW) (σ : zM) (c : Nat) : ∀ (fs : List zF) (j : Nat), (zfvs w σ c j fs).length = fs.length
  | [], _ => rfl
  | _ :: t, j => by simp [zfvs, zfvs_len w σ c t (j + 1)]
theorem zfvs_congr (w : zW) (σ τ : zM) (c : Nat) (h : ∀ i, τ c i = σ c i) : ∀ (fs : List zF) (j : Nat), zfvs w τ c j fs = zfvs w σ c j fs
  | [], _ => rfl
  | f :: t, j => by
    simp only [zfvs, zfvs_congr w σ τ c h t (j + 1)]
    congr 1
    unfold zfv
    split <;> simp [h]
theorem zce_congr (w : zW) (σ τ : zM) (c : Nat) (e : zL) (h : ∀ i, τ c i = σ c i) : zce w τ c e = zce w σ c e := by
  unfold zce
  split
  · rw [zfvs_congr w σ τ c h]
  · simp [h]
  · rfl
theorem zws_at (w : zW) (σ : zM) : ∀ (L : List zL) (c0 c : Nat) (e : zL), L[c]? = some e → (zws w σ c0 L)[c]? = some (w.2.2 (c0 + c), zce w σ (c0 + c) e)
  | [], c0, c, e, h => by simp at h
  | g :: t, c0, 0, e, h => by simp at h; subst h; rfl
  | g :: t, c0, c + 1, e, h => by
    simp only [List.getElem?_cons_succ] at h
    have := zws_at w σ t (c0 + 1) c e h
    simp only [zws, List.getElem?_cons_succ]
    rw [this]; simp [Nat.add_assoc, Nat.add_comm 1 c]
theorem zws_same (w : zW) (σ τ : zM) : ∀ (L : List zL) (c0 : Nat), (∀ c, c0 ≤ c → ∀ i, τ c i = σ c i) → zws w τ c0 L = zws w σ c0 L
  | [], _, _ => rfl
  | e :: t, c0, h => by
    simp only [zws, zws_same w σ τ t (c0 + 1) (fun c hc => h c (by omega)), zce_congr w σ τ c0 e (h c0 (Nat.le_refl _))]
theorem zws_set (w : zW) (σ τ : zM) : ∀ (L : List zL) (c0 c : Nat) (e : zL), L[c]? = some e → (∀ c', c' ≠ c0 + c → ∀ i, τ c' i = σ c' i) → zws w τ c0 L = (zws w σ c0 L).set c (w.2.2 (c0 + c), zce w τ (c0 + c) e)
  | [], c0, c, e, h, _ => by simp at h
  | g :: t, c0, 0, e, h, hs => by
    simp at h; subst h
    simp only [zws, List.set_cons_zero, Nat.add_zero]
    rw [zws_same w σ τ t (c0 + 1) (fun c hc => hs c (by omega))]
  | g :: t, c0, c + 1, e, h, hs => by
    simp only [List.getElem?_cons_succ] at h
    simp only [zws, List.set_cons_succ]
    rw [zws_set w σ τ t (c0 + 1) c e h (fun c' hc => hs c' (by omega)), zce_congr w σ τ c0 g (hs c0 (by omega)), show c0 + 1 + c = c0 + (c + 1) by omega]
theorem zwl_at (w : zW) (σ : zM) {c : Nat} {e : zL} (h : zlay[c]? = some e) : (zwl w σ)[c]? = some (w.2.2 c, zce w σ c e) := by
  have := zws_at w σ zlay 0 c e h
  rwa [Nat.zero_add] at this
theorem zwl_set (w : zW) (σ τ : zM) {c : Nat} {e : zL} (h : zlay[c]? = some e) (hs : ∀ c', c' ≠ c → ∀ i, τ c' i = σ c' i) : (zwl w σ).set c (w.2.2 c, zce w τ c e) = zwl w τ := by
  have := zws_set w σ τ zlay 0 c e h (fun c' hc => hs c' (by omega))
  rw [Nat.zero_add] at this
  exact this.symm
theorem zup_c {σ : zM} {c : Nat} {i v : Int} : ∀ c', c' ≠ c → ∀ j, zup σ c i v c' j = σ c' j := fun c' h j => by simp [zup, h]
theorem zup_eq (σ : zM) (c : Nat) (i v : Int) : zup σ c i v c i = v := by simp [zup]
theorem zup_ne {σ : zM} {c c' : Nat} {i v j : Int} (h : c' ≠ c) : zup σ c i v c' j = σ c' j := by simp [zup, h]
theorem zup_nei {σ : zM} {c c' : Nat} {i v j : Int} (h : j ≠ i) : zup σ c i v c' j = σ c' j := by simp [zup, h]
theorem zup_eqi {σ : zM} {c : Nat} {i v j : Int} (h : j = i) : zup σ c i v c j = v := by simp [zup, h]
/-! numbers -/
theorem z32 {a : Int} (h : -2147483648 ≤ a ∧ a ≤ 2147483647) : (Int32.ofInt a).toInt = a := Int32.toInt_ofInt_of_le (by omega) (by omega)
theorem z64 {a : Int} (h : -9223372036854775808 ≤ a ∧ a ≤ 9223372036854775807) : (Int64.ofInt a).toInt = a := Int64.toInt_ofInt_of_le (by omega) (by omega)
theorem z32_lt {a b : Int} (ha : -2147483648 ≤ a ∧ a ≤ 2147483647) (hb : -2147483648 ≤ b ∧ b ≤ 2147483647) : Int32.ofInt a < Int32.ofInt b ↔ a < b := by
  rw [Int32.lt_iff_toInt_lt, z32 ha, z32 hb]
theorem z32_le {a b : Int} (ha : -2147483648 ≤ a ∧ a ≤ 2147483647) (hb : -2147483648 ≤ b ∧ b ≤ 2147483647) : Int32.ofInt a ≤ Int32.ofInt b ↔ a ≤ b := by
  rw [Int32.le_iff_toInt_le, z32 ha, z32 hb]
theorem z32_eq {a b : Int} (ha : -2147483648 ≤ a ∧ a ≤ 2147483647) (hb : -2147483648 ≤ b ∧ b ≤ 2147483647) : Int32.ofInt a = Int32.ofInt b ↔ a = b := by
  rw [← Int32.toInt_inj, z32 ha, z32 hb]
theorem z64_lt {a b : Int} (ha : -9223372036854775808 ≤ a ∧ a ≤ 9223372036854775807) (hb : -9223372036854775808 ≤ b ∧ b ≤ 9223372036854775807) : Int64.ofInt a < Int64.ofInt b ↔ a < b := by
  rw [Int64.lt_iff_toInt_lt, z64 ha, z64 hb]
theorem z64_eq {a b : Int} (ha : -9223372036854775808 ≤ a ∧ a ≤ 9223372036854775807) (hb : -9223372036854775808 ≤ b ∧ b ≤ 9223372036854775807) : Int64.ofInt a = Int64.ofInt b ↔ a = b := by
  rw [← Int64.toInt_inj, z64 ha, z64 hb]
theorem z32_0 : (0 : Int32) = Int32.ofInt 0 := by decide
theorem z32_all (x : Int32) : Int32.ofInt x.toInt = x := Int32.ofInt_toInt x
theorem z32_rg (x : Int32) : -2147483648 ≤ x.toInt ∧ x.toInt ≤ 2147483647 := by
  have h1 := Int32.le_toInt x
  have h2 := Int32.toInt_lt x
  omega
theorem z64_rg (x : Int64) : -9223372036854775808 ≤ x.toInt ∧ x.toInt ≤ 9223372036854775807 := by
  have h1 := Int64.le_toInt x
  have h2 := Int64.toInt_lt x
  omega
/-- the bit operations on ints, as numbers -/
def zand (a b : Int) : Int := (Int32.ofInt a &&& Int32.ofInt b).toInt
def zor (a b : Int) : Int := (Int32.ofInt a ||| Int32.ofInt b).toInt
def zxor (a b : Int) : Int := (Int32.ofInt a ^^^ Int32.ofInt b).toInt
def zshl (a b : Int) : Int := (Int32.ofInt a <<< (Int32.ofInt b &&& 31)).toInt
def zshr (a b : Int) : Int := (Int32.ofInt a >>> (Int32.ofInt b &&& 31)).toInt
def zushr (a b : Int) : Int := ((Int32.ofInt a).toUInt32 >>> ((Int32.ofInt b).toUInt32 &&& Int32.toUInt32 31)).toInt32.toInt
def zlushr (a b : Int) : Int := ((Int64.ofInt a).toUInt64 >>> ((Int32.ofInt b).toInt64.toUInt64 &&& Int64.toUInt64 63)).toInt64.toInt
def zlshl (a b : Int) : Int := (Int64.ofInt a <<< ((Int32.ofInt b).toInt64 &&& 63)).toInt
def zlshr (a b : Int) : Int := (Int64.ofInt a >>> ((Int32.ofInt b).toInt64 &&& 63)).toInt
def zland (a b : Int) : Int := (Int64.ofInt a &&& Int64.ofInt b).toInt
def zlor (a b : Int) : Int := (Int64.ofInt a ||| Int64.ofInt b).toInt
def zi2b (a : Int) : Int := (Int32.ofInt a).toInt8.toInt32.toInt
def zl2i (a : Int) : Int := (Int64.ofInt a).toInt32.toInt
def zcmp (a b : Int) : Int := if b < a then 1 else if a = b then 0 else -1
/-! locals -/
def zas : Nat → List (Option Value) → List (Nat × Value)
  | _, [] => []
  | i, none :: t => zas (i + 1) t
  | i, some v :: t => (i, v) :: zas (i + 1) t
def zlok (nL : Nat) (arr : Array Slot) (ls : List (Option Value)) : Prop := lv_has arr nL (zas 0 ls)
def zg : List (Option Value) → Nat → Option Value
  | [], _ => none
  | x :: _, 0 => x
  | _ :: t, i + 1 => zg t i
theorem zas_mem : ∀ (ls : List (Option Value)) (i0 : Nat) (q : Nat × Value), q ∈ zas i0 ls ↔ i0 ≤ q.1 ∧ zg ls (q.1 - i0) = some q.2
  | [], i0, q => by simp [zas, zg]
  | none :: t, i0, q => by
    rw [zas, zas_mem t (i0 + 1) q]
    by_cases h : q.1 ≤ i0
    · by_cases h2 : q.1 = i0
      · rw [h2]; simp only [Nat.sub_self, zg]; constructor
        · intro h3; omega
        · rintro ⟨-, h3⟩; cases h3
      · constructor <;> intro h3 <;> omega
    · have : q.1 - i0 = (q.1 - (i0 + 1)) + 1 := by omega
      rw [this, zg]
      constructor <;> rintro ⟨h1, h2⟩ <;> exact ⟨by omega, h2⟩
  | some v :: t, i0, q => by
    rw [zas, List.mem_cons, zas_mem t (i0 + 1) q]
    by_cases h : q.1 ≤ i0
    · by_cases h2 : q.1 = i0
      · obtain ⟨q1, q2⟩ := q
        simp only at h2
        subst h2
        simp only [Prod.mk.injEq, true_and, Nat.sub_self, zg, Option.some.injEq]
        constructor
        · rintro (h3 | h3)
          · exact ⟨Nat.le_refl _, h3.symm⟩
          · omega
        · rintro ⟨-, h3⟩; exact Or.inl h3.symm
      · constructor
        · rintro (h3 | h3)
          · rw [h3] at h2; exact absurd rfl h2
          · omega
        · intro h3; omega
    · have e : q.1 - i0 = (q.1 - (i0 + 1)) + 1 := by omega
      rw [e, zg]
      constructor
      · rintro (h3 | h3)
        · rw [h3] at h; simp at h
        · exact ⟨by omega, h3.2⟩
      · rintro ⟨h1, h2⟩; exact Or.inr ⟨by omega, h2⟩
theorem zlok_at {nL : Nat} {arr : Array Slot} {ls : List (Option Value)} (h : zlok nL arr ls) {i : Nat} {v : Value} (hg : zg ls i = some v) : arr[i]? = some (.val v) :=
  h.2.2 (i, v) ((zas_mem ls 0 (i, v)).mpr ⟨Nat.zero_le _, hg⟩)
theorem zlok_mono {nL : Nat} {arr : Array Slot} {l : List (Nat × Value)} {ls : List (Option Value)} (h : lv_has arr nL l) (hs : ∀ i v, zg ls i = some v → (i, v) ∈ l) : zlok nL arr ls :=
  ⟨h.1, h.2.1, fun q hq => h.2.2 q (hs q.1 q.2 ((zas_mem ls 0 q).mp hq).2)⟩
/-- a list of locals behind a store: place i holds v, a long before it is gone -/
def zst1 (ls : List (Option Value)) (i : Nat) (v : Value) (ls' : List (Option Value)) : Prop := ∀ j u, zg ls' j = some u → (j = i ∧ u = v) ∨ (j ≠ i ∧ zg ls j = some u ∧ ¬ (j + 1 = i ∧ u.category = 2))
def zst2 (ls : List (Option Value)) (i : Nat) (v : Value) (ls' : List (Option Value)) : Prop := ∀ j u, zg ls' j = some u → (j = i ∧ u = v) ∨ (j ≠ i ∧ j ≠ i + 1 ∧ zg ls j = some u ∧ ¬ (j + 1 = i ∧ u.category = 2))
theorem zlok_st1 {nL i : Nat} {arr : Array Slot} {ls ls' : List (Option Value)} {v : Value} (h : lv_has arr nL ((i, v) :: (zas 0 ls).filter (fun q => !(q.1 == i) && !(q.1 + 1 == i && q.2.category == 2)))) (hs : zst1 ls i v ls') : zlok nL arr ls' := by
  refine zlok_mono h fun j u hu => ?_
  rcases hs j u hu with ⟨rfl, rfl⟩ | ⟨h1, h2, h3⟩
  · exact List.mem_cons_self
  · refine List.mem_cons_of_mem _ (List.mem_filter.mpr ⟨(zas_mem ls 0 (j, u)).mpr ⟨Nat.zero_le _, h2⟩, ?_⟩)
    simp only [Bool.and_eq_true, Bool.not_eq_true', beq_eq_false_iff_ne, ne_eq, Bool.and_eq_false_iff]
    refine ⟨h1, ?_⟩
    by_cases h4 : j + 1 = i
    · exact Or.inr (fun h5 => h3 ⟨h4, h5⟩)
    · exact Or.inl h4
theorem zlok_st2 {nL i : Nat} {arr : Array Slot} {ls ls' : List (Option Value)} {v : Value} (h : lv_has arr nL ((i, v) :: (zas 0 ls).filter (fun q => !(q.1 == i) && (!(q.1 == i + 1) && !(q.1 + 1 == i && q.2.category == 2))))) (hs : zst2 ls i v ls') : zlok nL arr ls' := by
  refine zlok_mono h fun j u hu => ?_
  rcases hs j u hu with ⟨rfl, rfl⟩ | ⟨h1, h1', h2, h3⟩
  · exact List.mem_cons_self
  · refine List.mem_cons_of_mem _ (List.mem_filter.mpr ⟨(zas_mem ls 0 (j, u)).mpr ⟨Nat.zero_le _, h2⟩, ?_⟩)
    simp only [Bool.and_eq_true, Bool.not_eq_true', beq_eq_false_iff_ne, ne_eq, Bool.and_eq_false_iff]
    refine ⟨h1, h1', ?_⟩
    by_cases h4 : j + 1 = i
    · exact Or.inr (fun h5 => h3 ⟨h4, h5⟩)
    · exact Or.inl h4
/-- no long stands there -/
def zc1 (o : Option Value) : Bool := match o with
  | some (.long _) => false
  | some (.double _) => false
  | _ => true
theorem zst1_0 {a0 : Option Value} {t : List (Option Value)} {v : Value} : zst1 (a0 :: t) 0 v (some v :: t) := by
  intro j u hu
  rcases j with _ | j
  · have hu : some v = some u := hu
    exact Or.inl ⟨by omega, (Option.some.inj hu).symm⟩
  · exact Or.inr ⟨by omega, hu, fun h => by omega⟩
theorem zst1_1 {a0 a1 : Option Value} {t : List (Option Value)} {v : Value} (hc : zc1 a0 = true) : zst1 (a0 :: a1 :: t) 1 v (a0 :: some v :: t) := by
  intro j u hu
  rcases j with _ | j
  · refine Or.inr ⟨by omega, hu, fun h => ?_⟩
    have hu : a0 = some u := hu
    subst hu
    cases u <;> simp_all [zc1, Value.category]
  rcases j with _ | j
  · have hu : some v = some u := hu
    exact Or.inl ⟨by omega, (Option.some.inj hu).symm⟩
  · exact Or.inr ⟨by omega, hu, fun h => by omega⟩
theorem zst1_2 {a0 a1 a2 : Option Value} {t : List (Option Value)} {v : Value} (hc : zc1 a1 = true) : zst1 (a0 :: a1 :: a2 :: t) 2 v (a0 :: a1 :: some v :: t) := by
  intro j u hu
  rcases j with _ | j
  · exact Or.inr ⟨by omega, hu, fun h => by omega⟩
  rcases j with _ | j
  · refine Or.inr ⟨by omega, hu, fun h => ?_⟩
    have hu : a1 = some u := hu
    subst hu
    cases u <;> simp_all [zc1, Value.category]
  rcases j with _ | j
  · have hu : some v = some u := hu
    exact Or.inl ⟨by omega, (Option.some.inj hu).symm⟩
  · exact Or.inr ⟨by omega, hu, fun h => by omega⟩
theorem zst1_3 {a0 a1 a2 a3 : Option Value} {t : List (Option Value)} {v : Value} (hc : zc1 a2 = true) : zst1 (a0 :: a1 :: a2 :: a3 :: t) 3 v (a0 :: a1 :: a2 :: some v :: t) := by
  intro j u hu
  rcases j with _ | j
  · exact Or.inr ⟨by omega, hu, fun h => by omega⟩
  rcases j with _ | j
  · exact Or.inr ⟨by omega, hu, fun h => by omega⟩
  rcases j with _ | j
  · refine Or.inr ⟨by omega, hu, fun h => ?_⟩
    have hu : a2 = some u := hu
    subst hu
    cases u <;> simp_all [zc1, Value.category]
  rcases j with _ | j
  · have hu : some v = some u := hu
    exact Or.inl ⟨by omega, (Option.some.inj hu).symm⟩
  · exact Or.inr ⟨by omega, hu, fun h => by omega⟩
theorem zst1_4 {a0 a1 a2 a3 a4 : Option Value} {t : List (Option Value)} {v : Value} (hc : zc1 a3 = true) : zst1 (a0 :: a1 :: a2 :: a3 :: a4 :: t) 4 v (a0 :: a1 :: a2 :: a3 :: some v :: t) := by
  intro j u hu
  rcases j with _ | j
  · exact Or.inr ⟨by omega, hu, fun h => by omega⟩
  rcases j with _ | j
  · exact Or.inr ⟨by omega, hu, fun h => by omega⟩
  rcases j with _ | j
  · exact Or.inr ⟨by omega, hu, fun h => by omega⟩
  rcases j with _ | j
  · refine Or.inr ⟨by omega, hu, fun h => ?_⟩
    have hu : a3 = some u := hu
    subst hu
    cases u <;> simp_all [zc1, Value.category]
  rcases j with _ | j
  · have hu : some v = some u := hu
    exact Or.inl ⟨by omega, (Option.some.inj hu).symm⟩
  · exact Or.inr ⟨by omega, hu, fun h => by omega⟩
theorem zst1_5 {a0 a1 a2 a3 a4 a5 : Option Value} {t : List (Option Value)} {v : Value} (hc : zc1 a4 = true) : zst1 (a0 :: a1 :: a2 :: a3 :: a4 :: a5 :: t) 5 v (a0 :: a1 :: a2 :: a3 :: a4 :: some v :: t) := by
  intro j u hu
  rcases j with _ | j
  · exact Or.inr ⟨by omega, hu, fun h => by omega⟩
  rcases j with _ | j
  · exact Or.inr ⟨by omega, hu, fun h => by omega⟩
  rcases j with _ | j
  · exact Or.inr ⟨by omega, hu, fun h => by omega⟩
  rcases j with _ | j
  · exact Or.inr ⟨by omega, hu, fun h => by omega⟩
  rcases j with _ | j
  · refine Or.inr ⟨by omega, hu, fun h => ?_⟩
    have hu : a4 = some u := hu
    subst hu
    cases u <;> simp_all [zc1, Value.category]
  rcases j with _ | j
  · have hu : some v = some u := hu
    exact Or.inl ⟨by omega, (Option.some.inj hu).symm⟩
  · exact Or.inr ⟨by omega, hu, fun h => by omega⟩
theorem zst1_6 {a0 a1 a2 a3 a4 a5 a6 : Option Value} {t : List (Option Value)} {v : Value} (hc : zc1 a5 = true) : zst1 (a0 :: a1 :: a2 :: a3 :: a4 :: a5 :: a6 :: t) 6 v (a0 :: a1 :: a2 :: a3 :: a4 :: a5 :: some v :: t) := by
  intro j u hu
  rcases j with _ | j
  · exact Or.inr ⟨by omega, hu, fun h => by omega⟩
  rcases j with _ | j
  · exact Or.inr ⟨by omega, hu, fun h => by omega⟩
  rcases j with _ | j
  · exact Or.inr ⟨by omega, hu, fun h => by omega⟩
  rcases j with _ | j
  · exact Or.inr ⟨by omega, hu, fun h => by omega⟩
  rcases j with _ | j
  · exact Or.inr ⟨by omega, hu, fun h => by omega⟩
  rcases j with _ | j
  · refine Or.inr ⟨by omega, hu, fun h => ?_⟩
    have hu : a5 = some u := hu
    subst hu
    cases u <;> simp_all [zc1, Value.category]
  rcases j with _ | j
  · have hu : some v = some u := hu
    exact Or.inl ⟨by omega, (Option.some.inj hu).symm⟩
  · exact Or.inr ⟨by omega, hu, fun h => by omega⟩
theorem zst1_7 {a0 a1 a2 a3 a4 a5 a6 a7 : Option Value} {t : List (Option Value)} {v : Value} (hc : zc1 a6 = true) : zst1 (a0 :: a1 :: a2 :: a3 :: a4 :: a5 :: a6 :: a7 :: t) 7 v (a0 :: a1 :: a2 :: a3 :: a4 :: a5 :: a6 :: some v :: t) := by
  intro j u hu
  rcases j with _ | j
  · exact Or.inr ⟨by omega, hu, fun h => by omega⟩
  rcases j with _ | j
  · exact Or.inr ⟨by omega, hu, fun h => by omega⟩
  rcases j with _ | j
  · exact Or.inr ⟨by omega, hu, fun h => by omega⟩
  rcases j with _ | j
  · exact Or.inr ⟨by omega, hu, fun h => by omega⟩
  rcases j with _ | j
  · exact Or.inr ⟨by omega, hu, fun h => by omega⟩
  rcases j with _ | j
  · exact Or.inr ⟨by omega, hu, fun h => by omega⟩
  rcases j with _ | j
  · refine Or.inr ⟨by omega, hu, fun h => ?_⟩
    have hu : a6 = some u := hu
    subst hu
    cases u <;> simp_all [zc1, Value.category]
  rcases j with _ | j
  · have hu : some v = some u := hu
    exact Or.inl ⟨by omega, (Option.some.inj hu).symm⟩
  · exact Or.inr ⟨by omega, hu, fun h => by omega⟩
theorem zst1_8 {a0 a1 a2 a3 a4 a5 a6 a7 a8 : Option Value} {t : List (Option Value)} {v : Value} (hc : zc1 a7 = true) : zst1 (a0 :: a1 :: a2 :: a3 :: a4 :: a5 :: a6 :: a7 :: a8 :: t) 8 v (a0 :: a1 :: a2 :: a3 :: a4 :: a5 :: a6 :: a7 :: some v :: t) := by
  intro j u hu
  rcases j with _ | j
  · exact Or.inr ⟨by omega, hu, fun h => by omega⟩
  rcases j with _ | j
  · exact Or.inr ⟨by omega, hu, fun h => by omega⟩
  rcases j with _ | j
  · exact Or.inr ⟨by omega, hu, fun h => by omega⟩
  rcases j with _ | j
  · exact Or.inr ⟨by omega, hu, fun h => by omega⟩
  rcases j with _ | j
  · exact Or.inr ⟨by omega, hu, fun h => by omega⟩
  rcases j with _ | j
  · exact Or.inr ⟨by omega, hu, fun h => by omega⟩
  rcases j with _ | j
  · exact Or.inr ⟨by omega, hu, fun h => by omega⟩
  rcases j with _ | j
  · refine Or.inr ⟨by omega, hu, fun h => ?_⟩
    have hu : a7 = some u := hu
    subst hu
    cases u <;> simp_all [zc1, Value.category]
  rcases j with _ | j
  · have hu : some v = some u := hu
    exact Or.inl ⟨by omega, (Option.some.inj hu).symm⟩
  · exact Or.inr ⟨by omega, hu, fun h => by omega⟩
theorem zst1_9 {a0 a1 a2 a3 a4 a5 a6 a7 a8 a9 : Option Value} {t : List (Option Value)} {v : Value} (hc : zc1 a8 = true) : zst1 (a0 :: a1 :: a2 :: a3 :: a4 :: a5 :: a6 :: a7 :: a8 :: a9 :: t) 9 v (a0 :: a1 :: a2 :: a3 :: a4 :: a5 :: a6 :: a7 :: a8 :: some v :: t) := by
  intro j u hu
  rcases j with _ | j
  · exact Or.inr ⟨by omega, hu, fun h => by omega⟩
  rcases j with _ | j
  · exact Or.inr ⟨by omega, hu, fun h => by omega⟩
  rcases j with _ | j
  · exact Or.inr ⟨by omega, hu, fun h => by omega⟩
  rcases j with _ | j
  · exact Or.inr ⟨by omega, hu, fun h => by omega⟩
  rcases j with _ | j
  · exact Or.inr ⟨by omega, hu, fun h => by omega⟩
  rcases j with _ | j
  · exact Or.inr ⟨by omega, hu, fun h => by omega⟩
  rcases j with _ | j
  · exact Or.inr ⟨by omega, hu, fun h => by omega⟩
  rcases j with _ | j
  · exact Or.inr ⟨by omega, hu, fun h => by omega⟩
  rcases j with _ | j
  · refine Or.inr ⟨by omega, hu, fun h => ?_⟩
    have hu : a8 = some u := hu
    subst hu
    cases u <;> simp_all [zc1, Value.category]
  rcases j with _ | j
  · have hu : some v = some u := hu
    exact Or.inl ⟨by omega, (Option.some.inj hu).symm⟩
  · exact Or.inr ⟨by omega, hu, fun h => by omega⟩
theorem zst1_10 {a0 a1 a2 a3 a4 a5 a6 a7 a8 a9 a10 : Option Value} {t : List (Option Value)} {v : Value} (hc : zc1 a9 = true) : zst1 (a0 :: a1 :: a2 :: a3 :: a4 :: a5 :: a6 :: a7 :: a8 :: a9 :: a10 :: t) 10 v (a0 :: a1 :: a2 :: a3 :: a4 :: a5 :: a6 :: a7 :: a8 :: a9 :: some v :: t) := by
  intro j u hu
  rcases j with _ | j
  · exact Or.inr ⟨by omega, hu, fun h => by omega⟩
  rcases j with _ | j
  · exact Or.inr ⟨by omega, hu, fun h => by omega⟩
  rcases j with _ | j
  · exact Or.inr ⟨by omega, hu, fun h => by omega⟩
  rcases j with _ | j
  · exact Or.inr ⟨by omega, hu, fun h => by omega⟩
  rcases j with _ | j
  · exact Or.inr ⟨by omega, hu, fun h => by omega⟩
  rcases j with _ | j
  · exact Or.inr ⟨by omega, hu, fun h => by omega⟩
  rcases j with _ | j
  · exact Or.inr ⟨by omega, hu, fun h => by omega⟩
  rcases j with _ | j
  · exact Or.inr ⟨by omega, hu, fun h => by omega⟩
  rcases j with _ | j
  · exact Or.inr ⟨by omega, hu, fun h => by omega⟩
  rcases j with _ | j
  · refine Or.inr ⟨by omega, hu, fun h => ?_⟩
    have hu : a9 = some u := hu
    subst hu
    cases u <;> simp_all [zc1, Value.category]
  rcases j with _ | j
  · have hu : some v = some u := hu
    exact Or.inl ⟨by omega, (Option.some.inj hu).symm⟩
  · exact Or.inr ⟨by omega, hu, fun h => by omega⟩
theorem zst1_11 {a0 a1 a2 a3 a4 a5 a6 a7 a8 a9 a10 a11 : Option Value} {t : List (Option Value)} {v : Value} (hc : zc1 a10 = true) : zst1 (a0 :: a1 :: a2 :: a3 :: a4 :: a5 :: a6 :: a7 :: a8 :: a9 :: a10 :: a11 :: t) 11 v (a0 :: a1 :: a2 :: a3 :: a4 :: a5 :: a6 :: a7 :: a8 :: a9 :: a10 :: some v :: t) := by
  intro j u hu
  rcases j with _ | j
  · exact Or.inr ⟨by omega, hu, fun h => by omega⟩
  rcases j with _ | j
  · exact Or.inr ⟨by omega, hu, fun h => by omega⟩
  rcases j with _ | j
  · exact Or.inr ⟨by omega, hu, fun h => by omega⟩
  rcases j with _ | j
  · exact Or.inr ⟨by omega, hu, fun h => by omega⟩
  rcases j with _ | j
  · exact Or.inr ⟨by omega, hu, fun h => by omega⟩
  rcases j with _ | j
  · exact Or.inr ⟨by omega, hu, fun h => by omega⟩
  rcases j with _ | j
  · exact Or.inr ⟨by omega, hu, fun h => by omega⟩
  rcases j with _ | j
  · exact Or.inr ⟨by omega, hu, fun h => by omega⟩
  rcases j with _ | j
  · exact Or.inr ⟨by omega, hu, fun h => by omega⟩
  rcases j with _ | j
  · exact Or.inr ⟨by omega, hu, fun h => by omega⟩
  rcases j with _ | j
  · refine Or.inr ⟨by omega, hu, fun h => ?_⟩
    have hu : a10 = some u := hu
    subst hu
    cases u <;> simp_all [zc1, Value.category]
  rcases j with _ | j
  · have hu : some v = some u := hu
    exact Or.inl ⟨by omega, (Option.some.inj hu).symm⟩
  · exact Or.inr ⟨by omega, hu, fun h => by omega⟩
theorem zst2_1 {a0 a1 a2 : Option Value} {t : List (Option Value)} {v : Value} (hc : zc1 a0 = true) : zst2 (a0 :: a1 :: a2 :: t) 1 v (a0 :: some v :: none :: t) := by
  intro j u hu
  rcases j with _ | j
  · refine Or.inr ⟨by omega, by omega, hu, fun h => ?_⟩
    have hu : a0 = some u := hu
    subst hu
    cases u <;> simp_all [zc1, Value.category]
  rcases j with _ | j
  · have hu : some v = some u := hu
    exact Or.inl ⟨by omega, (Option.some.inj hu).symm⟩
  rcases j with _ | j
  · have hu : (none : Option Value) = some u := hu
    cases hu
  · exact Or.inr ⟨by omega, by omega, hu, fun h => by omega⟩
theorem zst2_2 {a0 a1 a2 a3 : Option Value} {t : List (Option Value)} {v : Value} (hc : zc1 a1 = true) : zst2 (a0 :: a1 :: a2 :: a3 :: t) 2 v (a0 :: a1 :: some v :: none :: t) := by
  intro j u hu
  rcases j with _ | j
  · exact Or.inr ⟨by omega, by omega, hu, fun h => by omega⟩
  rcases j with _ | j
  · refine Or.inr ⟨by omega, by omega, hu, fun h => ?_⟩
    have hu : a1 = some u := hu
    subst hu
    cases u <;> simp_all [zc1, Value.category]
  rcases j with _ | j
  · have hu : some v = some u := hu
    exact Or.inl ⟨by omega, (Option.some.inj hu).symm⟩
  rcases j with _ | j
  · have hu : (none : Option Value) = some u := hu
    cases hu
  · exact Or.inr ⟨by omega, by omega, hu, fun h => by omega⟩
theorem zst2_3 {a0 a1 a2 a3 a4 : Option Value} {t : List (Option Value)} {v : Value} (hc : zc1 a2 = true) : zst2 (a0 :: a1 :: a2 :: a3 :: a4 :: t) 3 v (a0 :: a1 :: a2 :: some v :: none :: t) := by
  intro j u hu
  rcases j with _ | j
  · exact Or.inr ⟨by omega, by omega, hu, fun h => by omega⟩
  rcases j with _ | j
  · exact Or.inr ⟨by omega, by omega, hu, fun h => by omega⟩
  rcases j with _ | j
  · refine Or.inr ⟨by omega, by omega, hu, fun h => ?_⟩
    have hu : a2 = some u := hu
    subst hu
    cases u <;> simp_all [zc1, Value.category]
  rcases j with _ | j
  · have hu : some v = some u := hu
    exact Or.inl ⟨by omega, (Option.some.inj hu).symm⟩
  rcases j with _ | j
  · have hu : (none : Option Value) = some u := hu
    cases hu
  · exact Or.inr ⟨by omega, by omega, hu, fun h => by omega⟩
theorem zst2_4 {a0 a1 a2 a3 a4 a5 : Option Value} {t : List (Option Value)} {v : Value} (hc : zc1 a3 = true) : zst2 (a0 :: a1 :: a2 :: a3 :: a4 :: a5 :: t) 4 v (a0 :: a1 :: a2 :: a3 :: some v :: none :: t) := by
  intro j u hu
  rcases j with _ | j
  · exact Or.inr ⟨by omega, by omega, hu, fun h => by omega⟩
  rcases j with _ | j
  · exact Or.inr ⟨by omega, by omega, hu, fun h => by omega⟩
  rcases j with _ | j
  · exact Or.inr ⟨by omega, by omega, hu, fun h => by omega⟩
  rcases j with _ | j
  · refine Or.inr ⟨by omega, by omega, hu, fun h => ?_⟩
    have hu : a3 = some u := hu
    subst hu
    cases u <;> simp_all [zc1, Value.category]
  rcases j with _ | j
  · have hu : some v = some u := hu
    exact Or.inl ⟨by omega, (Option.some.inj hu).symm⟩
  rcases j with _ | j
  · have hu : (none : Option Value) = some u := hu
    cases hu
  · exact Or.inr ⟨by omega, by omega, hu, fun h => by omega⟩
theorem zst2_5 {a0 a1 a2 a3 a4 a5 a6 : Option Value} {t : List (Option Value)} {v : Value} (hc : zc1 a4 = true) : zst2 (a0 :: a1 :: a2 :: a3 :: a4 :: a5 :: a6 :: t) 5 v (a0 :: a1 :: a2 :: a3 :: a4 :: some v :: none :: t) := by
  intro j u hu
  rcases j with _ | j
  · exact Or.inr ⟨by omega, by omega, hu, fun h => by omega⟩
  rcases j with _ | j
  · exact Or.inr ⟨by omega, by omega, hu, fun h => by omega⟩
  rcases j with _ | j
  · exact Or.inr ⟨by omega, by omega, hu, fun h => by omega⟩
  rcases j with _ | j
  · exact Or.inr ⟨by omega, by omega, hu, fun h => by omega⟩
  rcases j with _ | j
  · refine Or.inr ⟨by omega, by omega, hu, fun h => ?_⟩
    have hu : a4 = some u := hu
    subst hu
    cases u <;> simp_all [zc1, Value.category]
  rcases j with _ | j
  · have hu : some v = some u := hu
    exact Or.inl ⟨by omega, (Option.some.inj hu).symm⟩
  rcases j with _ | j
  · have hu : (none : Option Value) = some u := hu
    cases hu
  · exact Or.inr ⟨by omega, by omega, hu, fun h => by omega⟩
theorem zst2_6 {a0 a1 a2 a3 a4 a5 a6 a7 : Option Value} {t : List (Option Value)} {v : Value} (hc : zc1 a5 = true) : zst2 (a0 :: a1 :: a2 :: a3 :: a4 :: a5 :: a6 :: a7 :: t) 6 v (a0 :: a1 :: a2 :: a3 :: a4 :: a5 :: some v :: none :: t) := by
  intro j u hu
  rcases j with _ | j
  · exact Or.inr ⟨by omega, by omega, hu, fun h => by omega⟩
  rcases j with _ | j
  · exact Or.inr ⟨by omega, by omega, hu, fun h => by omega⟩
  rcases j with _ | j
  · exact Or.inr ⟨by omega, by omega, hu, fun h => by omega⟩
  rcases j with _ | j
  · exact Or.inr ⟨by omega, by omega, hu, fun h => by omega⟩
  rcases j with _ | j
  · exact Or.inr ⟨by omega, by omega, hu, fun h => by omega⟩
  rcases j with _ | j
  · refine Or.inr ⟨by omega, by omega, hu, fun h => ?_⟩
    have hu : a5 = some u := hu
    subst hu
    cases u <;> simp_all [zc1, Value.category]
  rcases j with _ | j
  · have hu : some v = some u := hu
    exact Or.inl ⟨by omega, (Option.some.inj hu).symm⟩
  rcases j with _ | j
  · have hu : (none : Option Value) = some u := hu
    cases hu
  · exact Or.inr ⟨by omega, by omega, hu, fun h => by omega⟩
theorem zst2_7 {a0 a1 a2 a3 a4 a5 a6 a7 a8 : Option Value} {t : List (Option Value)} {v : Value} (hc : zc1 a6 = true) : zst2 (a0 :: a1 :: a2 :: a3 :: a4 :: a5 :: a6 :: a7 :: a8 :: t) 7 v (a0 :: a1 :: a2 :: a3 :: a4 :: a5 :: a6 :: some v :: none :: t) := by
  intro j u hu
  rcases j with _ | j
  · exact Or.inr ⟨by omega, by omega, hu, fun h => by omega⟩
  rcases j with _ | j
  · exact Or.inr ⟨by omega, by omega, hu, fun h => by omega⟩
  rcases j with _ | j
  · exact Or.inr ⟨by omega, by omega, hu, fun h => by omega⟩
  rcases j with _ | j
  · exact Or.inr ⟨by omega, by omega, hu, fun h => by omega⟩
  rcases j with _ | j
  · exact Or.inr ⟨by omega, by omega, hu, fun h => by omega⟩
  rcases j with _ | j
  · exact Or.inr ⟨by omega, by omega, hu, fun h => by omega⟩
  rcases j with _ | j
  · refine Or.inr ⟨by omega, by omega, hu, fun h => ?_⟩
    have hu : a6 = some u := hu
    subst hu
    cases u <;> simp_all [zc1, Value.category]
  rcases j with _ | j
  · have hu : some v = some u := hu
    exact Or.inl ⟨by omega, (Option.some.inj hu).symm⟩
  rcases j with _ | j
  · have hu : (none : Option Value) = some u := hu
    cases hu
  · exact Or.inr ⟨by omega, by omega, hu, fun h => by omega⟩
theorem zst2_8 {a0 a1 a2 a3 a4 a5 a6 a7 a8 a9 : Option Value} {t : List (Option Value)} {v : Value} (hc : zc1 a7 = true) : zst2 (a0 :: a1 :: a2 :: a3 :: a4 :: a5 :: a6 :: a7 :: a8 :: a9 :: t) 8 v (a0 :: a1 :: a2 :: a3 :: a4 :: a5 :: a6 :: a7 :: some v :: none :: t) := by
  intro j u hu
  rcases j with _ | j
  · exact Or.inr ⟨by omega, by omega, hu, fun h => by omega⟩
  rcases j with _ | j
  · exact Or.inr ⟨by omega, by omega, hu, fun h => by omega⟩
  rcases j with _ | j
  · exact Or.inr ⟨by omega, by omega, hu, fun h => by omega⟩
  rcases j with _ | j
  · exact Or.inr ⟨by omega, by omega, hu, fun h => by omega⟩
  rcases j with _ | j
  · exact Or.inr ⟨by omega, by omega, hu, fun h => by omega⟩
  rcases j with _ | j
  · exact Or.inr ⟨by omega, by omega, hu, fun h => by omega⟩
  rcases j with _ | j
  · exact Or.inr ⟨by omega, by omega, hu, fun h => by omega⟩
  rcases j with _ | j
  · refine Or.inr ⟨by omega, by omega, hu, fun h => ?_⟩
    have hu : a7 = some u := hu
    subst hu
    cases u <;> simp_all [zc1, Value.category]
  rcases j with _ | j
  · have hu : some v = some u := hu
    exact Or.inl ⟨by omega, (Option.some.inj hu).symm⟩
  rcases j with _ | j
  · have hu : (none : Option Value) = some u := hu
    cases hu
  · exact Or.inr ⟨by omega, by omega, hu, fun h => by omega⟩
theorem zst2_9 {a0 a1 a2 a3 a4 a5 a6 a7 a8 a9 a10 : Option Value} {t : List (Option Value)} {v : Value} (hc : zc1 a8 = true) : zst2 (a0 :: a1 :: a2 :: a3 :: a4 :: a5 :: a6 :: a7 :: a8 :: a9 :: a10 :: t) 9 v (a0 :: a1 :: a2 :: a3 :: a4 :: a5 :: a6 :: a7 :: a8 :: some v :: none :: t) := by
  intro j u hu
  rcases j with _ | j
  · exact Or.inr ⟨by omega, by omega, hu, fun h => by omega⟩
  rcases j with _ | j
  · exact Or.inr ⟨by omega, by omega, hu, fun h => by omega⟩
  rcases j with _ | j
  · exact Or.inr ⟨by omega, by omega, hu, fun h => by omega⟩
  rcases j with _ | j
  · exact Or.inr ⟨by omega, by omega, hu, fun h => by omega⟩
  rcases j with _ | j
  · exact Or.inr ⟨by omega, by omega, hu, fun h => by omega⟩
  rcases j with _ | j
  · exact Or.inr ⟨by omega, by omega, hu, fun h => by omega⟩
  rcases j with _ | j
  · exact Or.inr ⟨by omega, by omega, hu, fun h => by omega⟩
  rcases j with _ | j
  · exact Or.inr ⟨by omega, by omega, hu, fun h => by omega⟩
  rcases j with _ | j
  · refine Or.inr ⟨by omega, by omega, hu, fun h => ?_⟩
    have hu : a8 = some u := hu
    subst hu
    cases u <;> simp_all [zc1, Value.category]
  rcases j with _ | j
  · have hu : some v = some u := hu
    exact Or.inl ⟨by omega, (Option.some.inj hu).symm⟩
  rcases j with _ | j
  · have hu : (none : Option Value) = some u := hu
    cases hu
  · exact Or.inr ⟨by omega, by omega, hu, fun h => by omega⟩
theorem zst2_10 {a0 a1 a2 a3 a4 a5 a6 a7 a8 a9 a10 a11 : Option Value} {t : List (Option Value)} {v : Value} (hc : zc1 a9 = true) : zst2 (a0 :: a1 :: a2 :: a3 :: a4 :: a5 :: a6 :: a7 :: a8 :: a9 :: a10 :: a11 :: t) 10 v (a0 :: a1 :: a2 :: a3 :: a4 :: a5 :: a6 :: a7 :: a8 :: a9 :: some v :: none :: t) := by
  intro j u hu
  rcases j with _ | j
  · exact Or.inr ⟨by omega, by omega, hu, fun h => by omega⟩
  rcases j with _ | j
  · exact Or.inr ⟨by omega, by omega, hu, fun h => by omega⟩
  rcases j with _ | j
  · exact Or.inr ⟨by omega, by omega, hu, fun h => by omega⟩
  rcases j with _ | j
  · exact Or.inr ⟨by omega, by omega, hu, fun h => by omega⟩
  rcases j with _ | j
  · exact Or.inr ⟨by omega, by omega, hu, fun h => by omega⟩
  rcases j with _ | j
  · exact Or.inr ⟨by omega, by omega, hu, fun h => by omega⟩
  rcases j with _ | j
  · exact Or.inr ⟨by omega, by omega, hu, fun h => by omega⟩
  rcases j with _ | j
  · exact Or.inr ⟨by omega, by omega, hu, fun h => by omega⟩
  rcases j with _ | j
  · exact Or.inr ⟨by omega, by omega, hu, fun h => by omega⟩
  rcases j with _ | j
  · refine Or.inr ⟨by omega, by omega, hu, fun h => ?_⟩
    have hu : a9 = some u := hu
    subst hu
    cases u <;> simp_all [zc1, Value.category]
  rcases j with _ | j
  · have hu : some v = some u := hu
    exact Or.inl ⟨by omega, (Option.some.inj hu).symm⟩
  rcases j with _ | j
  · have hu : (none : Option Value) = some u := hu
    cases hu
  · exact Or.inr ⟨by omega, by omega, hu, fun h => by omega⟩
end
section
/-! ===== the judgement, its rows ===== -/
abbrev zMc : Type := Program × Launch × Env × Room × State × MethodId × Array Value × List Frame × Method × Code
abbrev zG : Type := zMc × zW × (Nat → Prop) × (State → Prop)
abbrev zp (Γ : zG) : Program := Γ.1.1
abbrev zln (Γ : zG) : Launch := Γ.1.2.1
abbrev zen (Γ : zG) : Env := Γ.1.2.2.1
abbrev zRm (Γ : zG) : Room := Γ.1.2.2.2.1
abbrev zs (Γ : zG) : State := Γ.1.2.2.2.2.1
abbrev zmi (Γ : zG) : MethodId := Γ.1.2.2.2.2.2.1
abbrev za (Γ : zG) : Array Value := Γ.1.2.2.2.2.2.2.1
abbrev zbl (Γ : zG) : List Frame := Γ.1.2.2.2.2.2.2.2.1
abbrev zmt (Γ : zG) : Method := Γ.1.2.2.2.2.2.2.2.2.1
abbrev zcd (Γ : zG) : Code := Γ.1.2.2.2.2.2.2.2.2.2
abbrev zw (Γ : zG) : zW := Γ.2.1
abbrev zA (Γ : zG) : Nat → Prop := Γ.2.2.1
abbrev zQ (Γ : zG) : State → Prop := Γ.2.2.2
abbrev zWW (Γ : zG) (H : Heap) (locs : List Loc) (k n : Nat) (g : JFrame) : Prop := W (zp Γ) (zln Γ) (zen Γ) (zRm Γ) (zs Γ) (zmi Γ) (za Γ) (zbl Γ) (zmt Γ) (zcd Γ) H locs k n (zQ Γ) g
/-- the array classes -/
def zty (w : zW) : List (ClassId × FieldType) := [(w.2.1 0, .int), (w.2.1 1, .byte), (w.2.1 2, .long), (w.2.1 3, .boolean), (w.2.1 4, .object RX0)]
/-- what a method's body knows of the machine -/
def zOk (Γ : zG) (own : String) (b : ByteArray) (mL d : Nat) : Prop :=
  (zp Γ).tables.exec = Jvm.exec ∧ (zcd Γ).code = b ∧ (zcd Γ).maxLocals = mL ∧ (zs Γ).vm.findClass own = some (zmi Γ).cls ∧ (∀ w ∈ zAL, w.before (za Γ) (zs Γ) = true) ∧ va_K (zw Γ).1 vwCl (zty (zw Γ)) (zs Γ) ∧ (∀ q, (zs Γ).heap.size ≤ q → zA Γ q) ∧ (d ≤ (zRm Γ).frames ∧ 36 * d ≤ (zRm Γ).locals) ∧ (zmt Γ).locks = false
/-- from here on, with the world ws, k cells and n slots made, at pc with these locals and stack: the run comes to its end -/
def zVw (Γ : zG) (ws : va_W) (k n : Nat) (pc : Nat) (ls : List (Option Value)) (st : List Value) : Prop :=
  ∀ (H : Heap) (locs : List Loc) (arr : Array Slot), va_P (zw Γ).1 vwCl ws H → va_D (zA Γ) ws → va_S (zA Γ) (zs Γ).heap H locs → zlok (zcd Γ).maxLocals arr ls → zWW Γ H locs k n (F0 (zmi Γ) pc arr st)
abbrev zV (Γ : zG) (σ : zM) (pc : Nat) (ls : List (Option Value)) (st : List Value) : Prop := zVw Γ (zwl (zw Γ) σ) 0 0 pc ls st
section ZR
variable {Γ : zG} {own : String} {b : ByteArray} {mL d : Nat} {ws : va_W} {k n : Nat} {pc q t : Nat} {ls : List (Option Value)} {st : List Value} {x y : Int}
theorem z_iconst (h : zOk Γ own b mL d) (hd : zD b pc (.iconst x) 1 q) (kk : zVw Γ ws k n q ls (zi x :: st)) : zVw Γ ws k n pc ls st := by
  obtain ⟨hd, rfl⟩ := hd
  intro H locs arr hP hD hS hl
  exact lv_iconst h.1 h.2.1 hd rfl (kk H locs arr hP hD hS hl)
theorem z_bipush (h : zOk Γ own b mL d) (hd : zD b pc (.bipush x) 2 q) (hv : (Int8.ofInt x).toInt32 = Int32.ofInt x) (kk : zVw Γ ws k n q ls (zi x :: st)) : zVw Γ ws k n pc ls st := by
  obtain ⟨hd, rfl⟩ := hd
  intro H locs arr hP hD hS hl
  exact lv_bipush h.1 h.2.1 hd hv (kk H locs arr hP hD hS hl)
theorem z_sipush (h : zOk Γ own b mL d) (hd : zD b pc (.sipush x) 3 q) (hv : (Int16.ofInt x).toInt32 = Int32.ofInt x) (kk : zVw Γ ws k n q ls (zi x :: st)) : zVw Γ ws k n pc ls st := by
  obtain ⟨hd, rfl⟩ := hd
  intro H locs arr hP hD hS hl
  exact lv_sipush h.1 h.2.1 hd hv (kk H locs arr hP hD hS hl)
theorem z_lconst (h : zOk Γ own b mL d) {f : Fin 2} (hd : zD b pc (.lconst f) 1 q) (hv : Int64.ofNat (f : Nat) = Int64.ofInt x) (kk : zVw Γ ws k n q ls (zl x :: st)) : zVw Γ ws k n pc ls st := by
  obtain ⟨hd, rfl⟩ := hd
  intro H locs arr hP hD hS hl
  exact lv_lconst h.1 h.2.1 hd hv (kk H locs arr hP hD hS hl)
theorem z_ldc2 (h : zOk Γ own b mL d) {idx : Nat} {v : Int64} (hd : zD b pc (.ldc2_w idx) 3 q) (hc : Cond.constantLong own idx v ∈ zAL) (hv : v = Int64.ofInt x) (kk : zVw Γ ws k n q ls (zl x :: st)) : zVw Γ ws k n pc ls st := by
  obtain ⟨hd, rfl⟩ := hd
  intro H locs arr hP hD hS hl
  subst hv
  exact lv_ldc2 h.1 h.2.1 h.2.2.2.1 (h.2.2.2.2.1 _ hc) hd (kk H locs arr hP hD hS hl)
theorem z_ldcw (h : zOk Γ own b mL d) {idx : Nat} {v : Int32} (hd : zD b pc (.ldc_w idx) 3 q) (hc : Cond.constant own idx v ∈ zAL) (hv : v = Int32.ofInt x) (kk : zVw Γ ws k n q ls (zi x :: st)) : zVw Γ ws k n pc ls st := by
  obtain ⟨hd, rfl⟩ := hd
  intro H locs arr hP hD hS hl
  subst hv
  intro T hT X
  obtain ⟨t, a, b'⟩ := kk H locs arr hP hD hS hl T hT X
  exact ⟨t, va_ldcwI X h.1 h.2.2.2.1 (h.2.2.2.2.1 _ hc) (g := F0 (zmi Γ) pc arr st) rfl (by rw [h.2.1]; exact hd) t a, b'⟩
theorem z_iload_n (h : zOk Γ own b mL d) {f : Fin 4} (hd : zD b pc (.iload_n f) 1 q) (hl : zg ls f.val = some (zi x)) (kk : zVw Γ ws k n q ls (zi x :: st)) : zVw Γ ws k n pc ls st := by
  obtain ⟨hd, rfl⟩ := hd
  intro H locs arr hP hD hS hl'
  exact lv_iload_n h.1 h.2.1 hd rfl (zlok_at hl' hl) (kk H locs arr hP hD hS hl')
theorem z_iload (h : zOk Γ own b mL d) {i : Nat} (hd : zD b pc (.iload i) 2 q) (hl : zg ls i = some (zi x)) (kk : zVw Γ ws k n q ls (zi x :: st)) : zVw Γ ws k n pc ls st := by
  obtain ⟨hd, rfl⟩ := hd
  intro H locs arr hP hD hS hl'
  exact lv_iload h.1 h.2.1 hd (zlok_at hl' hl) (kk H locs arr hP hD hS hl')
theorem z_lload_n (h : zOk Γ own b mL d) {f : Fin 4} (hd : zD b pc (.lload_n f) 1 q) (hl : zg ls f.val = some (zl x)) (kk : zVw Γ ws k n q ls (zl x :: st)) : zVw Γ ws k n pc ls st := by
  obtain ⟨hd, rfl⟩ := hd
  intro H locs arr hP hD hS hl'
  exact lv_lload_n h.1 h.2.1 hd rfl (zlok_at hl' hl) (kk H locs arr hP hD hS hl')
theorem z_lload (h : zOk Γ own b mL d) {i : Nat} (hd : zD b pc (.lload i) 2 q) (hl : zg ls i = some (zl x)) (kk : zVw Γ ws k n q ls (zl x :: st)) : zVw Γ ws k n pc ls st := by
  obtain ⟨hd, rfl⟩ := hd
  intro H locs arr hP hD hS hl'
  exact lv_lload h.1 h.2.1 hd (zlok_at hl' hl) (kk H locs arr hP hD hS hl')
theorem z_aload_n (h : zOk Γ own b mL d) {f : Fin 4} {a : Nat} (hd : zD b pc (.aload_n f) 1 q) (hl : zg ls f.val = some (.ref a)) (kk : zVw Γ ws k n q ls (.ref a :: st)) : zVw Γ ws k n pc ls st := by
  obtain ⟨hd, rfl⟩ := hd
  intro H locs arr hP hD hS hl'
  exact lv_aload_n h.1 h.2.1 hd rfl (zlok_at hl' hl) (kk H locs arr hP hD hS hl')
theorem z_raload_n (h : zOk Γ own b mL d) {f : Fin 4} {w : zW} {c : Nat} (hd : zD b pc (.aload_n f) 1 q) (hl : zg ls f.val = some (zr w c)) (kk : zVw Γ ws k n q ls (zr w c :: st)) : zVw Γ ws k n pc ls st := z_aload_n h hd hl kk
theorem z_ist1_n (h : zOk Γ own b mL d) {f : Fin 4} {ls' : List (Option Value)} (hd : zD b pc (.istore_n f) 1 q) (hi : f.val < mL) (hs : zst1 ls f.val (zi x) ls') (kk : zVw Γ ws k n q ls' st) : zVw Γ ws k n pc ls (zi x :: st) := by
  obtain ⟨hd, rfl⟩ := hd
  intro H locs arr hP hD hS hl'
  exact lv_istore_n h.1 h.2.1 hd rfl hl' (by rw [h.2.2.1]; exact hi) rfl (fun arr' h' => kk H locs arr' hP hD hS (zlok_st1 h' hs))
theorem z_ist1 (h : zOk Γ own b mL d) {i : Nat} {ls' : List (Option Value)} (hd : zD b pc (.istore i) 2 q) (hi : i < mL) (hs : zst1 ls i (zi x) ls') (kk : zVw Γ ws k n q ls' st) : zVw Γ ws k n pc ls (zi x :: st) := by
  obtain ⟨hd, rfl⟩ := hd
  intro H locs arr hP hD hS hl'
  exact lv_istore h.1 h.2.1 hd hl' (by rw [h.2.2.1]; exact hi) rfl (fun arr' h' => kk H locs arr' hP hD hS (zlok_st1 h' hs))
theorem z_ast1_n (h : zOk Γ own b mL d) {f : Fin 4} {a : Nat} {ls' : List (Option Value)} (hd : zD b pc (.astore_n f) 1 q) (hi : f.val < mL) (hs : zst1 ls f.val (.ref a) ls') (kk : zVw Γ ws k n q ls' st) : zVw Γ ws k n pc ls (.ref a :: st) := by
  obtain ⟨hd, rfl⟩ := hd
  intro H locs arr hP hD hS hl'
  exact lv_astore_n h.1 h.2.1 hd rfl hl' (by rw [h.2.2.1]; exact hi) rfl (fun arr' h' => kk H locs arr' hP hD hS (zlok_st1 h' hs))
theorem z_rst1_n (h : zOk Γ own b mL d) {f : Fin 4} {w : zW} {c : Nat} {ls' : List (Option Value)} (hd : zD b pc (.astore_n f) 1 q) (hi : f.val < mL) (hs : zst1 ls f.val (zr w c) ls') (kk : zVw Γ ws k n q ls' st) : zVw Γ ws k n pc ls (zr w c :: st) := z_ast1_n h hd hi hs kk
theorem z_lst_n (h : zOk Γ own b mL d) {f : Fin 4} {ls' : List (Option Value)} (hd : zD b pc (.lstore_n f) 1 q) (hi : f.val + 1 < mL) (hs : zst2 ls f.val (zl x) ls') (kk : zVw Γ ws k n q ls' st) : zVw Γ ws k n pc ls (zl x :: st) := by
  obtain ⟨hd, rfl⟩ := hd
  intro H locs arr hP hD hS hl'
  exact lv_lstore_n h.1 h.2.1 hd rfl hl' (by rw [h.2.2.1]; exact hi) rfl (fun arr' h' => kk H locs arr' hP hD hS (zlok_st2 h' hs))
theorem z_lst (h : zOk Γ own b mL d) {i : Nat} {ls' : List (Option Value)} (hd : zD b pc (.lstore i) 2 q) (hi : i + 1 < mL) (hs : zst2 ls i (zl x) ls') (kk : zVw Γ ws k n q ls' st) : zVw Γ ws k n pc ls (zl x :: st) := by
  obtain ⟨hd, rfl⟩ := hd
  intro H locs arr hP hD hS hl'
  exact lv_lstore h.1 h.2.1 hd hl' (by rw [h.2.2.1]; exact hi) rfl (fun arr' h' => kk H locs arr' hP hD hS (zlok_st2 h' hs))
theorem z_iinc (h : zOk Γ own b mL d) {i : Nat} {ls' : List (Option Value)} (hd : zD b pc (.iinc i y) 3 q) (hi : i < mL) (hl : zg ls i = some (zi x)) (hs : zst1 ls i (zi (x + y)) ls') (kk : zVw Γ ws k n q ls' st) : zVw Γ ws k n pc ls st := by
  obtain ⟨hd, rfl⟩ := hd
  intro H locs arr hP hD hS hl'
  have hm := (zas_mem ls 0 (i, zi x)).mpr ⟨Nat.zero_le _, hl⟩
  obtain ⟨j, hj⟩ := List.getElem?_of_mem hm
  exact lv_iinc h.1 h.2.1 hd hl' hj (show _ = Int32.ofInt (x + y) from (Int32.ofInt_add x y).symm) (by rw [h.2.2.1]; exact hi) rfl (fun arr' h' => kk H locs arr' hP hD hS (zlok_st1 h' hs))
theorem z_iadd (h : zOk Γ own b mL d) (hd : zD b pc .iadd 1 q) (kk : zVw Γ ws k n q ls (zi (x + y) :: st)) : zVw Γ ws k n pc ls (zi y :: zi x :: st) := by
  obtain ⟨hd, rfl⟩ := hd
  intro H locs arr hP hD hS hl'
  refine lv_iadd h.1 h.2.1 hd ?_
  rw [← Int32.ofInt_add]
  exact kk H locs arr hP hD hS hl'
theorem z_isub (h : zOk Γ own b mL d) (hd : zD b pc .isub 1 q) (kk : zVw Γ ws k n q ls (zi (x - y) :: st)) : zVw Γ ws k n pc ls (zi y :: zi x :: st) := by
  obtain ⟨hd, rfl⟩ := hd
  intro H locs arr hP hD hS hl'
  refine lv_isub h.1 h.2.1 hd ?_
  rw [← Int32.ofInt_sub]
  exact kk H locs arr hP hD hS hl'
theorem z_imul (h : zOk Γ own b mL d) (hd : zD b pc .imul 1 q) (kk : zVw Γ ws k n q ls (zi (x * y) :: st)) : zVw Γ ws k n pc ls (zi y :: zi x :: st) := by
  obtain ⟨hd, rfl⟩ := hd
  intro H locs arr hP hD hS hl'
  refine lv_imul h.1 h.2.1 hd ?_
  rw [← Int32.ofInt_mul]
  exact kk H locs arr hP hD hS hl'
theorem z_ladd (h : zOk Γ own b mL d) (hd : zD b pc .ladd 1 q) (kk : zVw Γ ws k n q ls (zl (x + y) :: st)) : zVw Γ ws k n pc ls (zl y :: zl x :: st) := by
  obtain ⟨hd, rfl⟩ := hd
  intro H locs arr hP hD hS hl'
  refine lv_ladd h.1 h.2.1 hd ?_
  rw [← Int64.ofInt_add]
  exact kk H locs arr hP hD hS hl'
theorem z_lmul (h : zOk Γ own b mL d) (hd : zD b pc .lmul 1 q) (kk : zVw Γ ws k n q ls (zl (x * y) :: st)) : zVw Γ ws k n pc ls (zl y :: zl x :: st) := by
  obtain ⟨hd, rfl⟩ := hd
  intro H locs arr hP hD hS hl'
  refine lv_lmul h.1 h.2.1 hd ?_
  rw [← Int64.ofInt_mul]
  exact kk H locs arr hP hD hS hl'
theorem z32_of {a : Int32} {v : Int} (h : a.toInt = v) : a = Int32.ofInt v := by rw [← h, Int32.ofInt_toInt]
theorem z64_of {a : Int64} {v : Int} (h : a.toInt = v) : a = Int64.ofInt v := by rw [← h, Int64.ofInt_toInt]
theorem z32_nat {x : Int} (h : 0 ≤ x) : Int32.ofInt x = nI x.toNat := by
  show Int32.ofInt x = Int32.ofNat x.toNat
  rw [← Int32.ofInt_eq_ofNat, Int.toNat_of_nonneg h]
theorem z64_nat {x : Int} (h : 0 ≤ x) : Int64.ofInt x = lN x.toNat := by
  show Int64.ofInt x = Int64.ofNat x.toNat
  rw [← Int64.ofInt_eq_ofNat, Int.toNat_of_nonneg h]
theorem z_idiv (h : zOk Γ own b mL d) (hd : zD b pc .idiv 1 q) (hx : 0 ≤ x ∧ x ≤ 2147483647) (hy : 0 < y ∧ y ≤ 2147483647) (kk : zVw Γ ws k n q ls (zi (x / y) :: st)) : zVw Γ ws k n pc ls (zi y :: zi x :: st) := by
  obtain ⟨hd, rfl⟩ := hd
  intro H locs arr hP hD hS hl'
  refine lv_idiv h.1 h.2.1 hd (fun e => ?_) ?_
  · rw [z32_0, z32_eq (by omega) (by omega)] at e; omega
  · have e : Int32.ofInt x / Int32.ofInt y = Int32.ofInt (x / y) := by
      rw [z32_nat hx.1, z32_nat (Int.le_of_lt hy.1), pk_div (by omega) (by omega) (by omega), z32_nat (Int.ediv_nonneg hx.1 (Int.le_of_lt hy.1))]
      congr 1
      obtain ⟨a, rfl⟩ := Int.eq_ofNat_of_zero_le hx.1
      obtain ⟨c, rfl⟩ := Int.eq_ofNat_of_zero_le (Int.le_of_lt hy.1)
      first | (simp [← Int.natCast_ediv]; done) | rfl
    rw [e]
    exact kk H locs arr hP hD hS hl'
theorem z_irem (h : zOk Γ own b mL d) (hd : zD b pc .irem 1 q) (hx : 0 ≤ x ∧ x ≤ 2147483647) (hy : 0 < y ∧ y ≤ 2147483647) (kk : zVw Γ ws k n q ls (zi (x % y) :: st)) : zVw Γ ws k n pc ls (zi y :: zi x :: st) := by
  obtain ⟨hd, rfl⟩ := hd
  intro H locs arr hP hD hS hl'
  refine lv_irem h.1 h.2.1 hd (fun e => ?_) ?_
  · rw [z32_0, z32_eq (by omega) (by omega)] at e; omega
  · have e : Int32.ofInt x - Int32.ofInt x / Int32.ofInt y * Int32.ofInt y = Int32.ofInt (x % y) := by
      rw [z32_nat hx.1, z32_nat (Int.le_of_lt hy.1), pk_rem (by omega) (by omega) (by omega), z32_nat (Int.emod_nonneg x (by omega))]
      congr 1
      obtain ⟨a, rfl⟩ := Int.eq_ofNat_of_zero_le hx.1
      obtain ⟨c, rfl⟩ := Int.eq_ofNat_of_zero_le (Int.le_of_lt hy.1)
      simp [← Int.natCast_emod]
    rw [e]
    exact kk H locs arr hP hD hS hl'
theorem z_ldiv (h : zOk Γ own b mL d) (hd : zD b pc .ldiv 1 q) (hx : 0 ≤ x ∧ x ≤ 9223372036854775807) (hy : 0 < y ∧ y ≤ 9223372036854775807) (kk : zVw Γ ws k n q ls (zl (x / y) :: st)) : zVw Γ ws k n pc ls (zl y :: zl x :: st) := by
  obtain ⟨hd, rfl⟩ := hd
  intro H locs arr hP hD hS hl'
  refine lv_ldiv h.1 h.2.1 hd (fun e => ?_) ?_
  · rw [show (0 : Int64) = Int64.ofInt 0 by decide, z64_eq (by omega) (by omega)] at e; omega
  · have e : Int64.ofInt x / Int64.ofInt y = Int64.ofInt (x / y) := by
      rw [z64_nat hx.1, z64_nat (Int.le_of_lt hy.1), pk_lDiv (by omega) (by omega) (by omega), z64_nat (Int.ediv_nonneg hx.1 (Int.le_of_lt hy.1))]
      congr 1
      obtain ⟨a, rfl⟩ := Int.eq_ofNat_of_zero_le hx.1
      obtain ⟨c, rfl⟩ := Int.eq_ofNat_of_zero_le (Int.le_of_lt hy.1)
      first | (simp [← Int.natCast_ediv]; done) | rfl
    rw [e]
    exact kk H locs arr hP hD hS hl'
theorem z_lrem (h : zOk Γ own b mL d) (hd : zD b pc .lrem 1 q) (hx : 0 ≤ x ∧ x ≤ 9223372036854775807) (hy : 0 < y ∧ y ≤ 9223372036854775807) (kk : zVw Γ ws k n q ls (zl (x % y) :: st)) : zVw Γ ws k n pc ls (zl y :: zl x :: st) := by
  obtain ⟨hd, rfl⟩ := hd
  intro H locs arr hP hD hS hl'
  refine lv_lrem h.1 h.2.1 hd (fun e => ?_) ?_
  · rw [show (0 : Int64) = Int64.ofInt 0 by decide, z64_eq (by omega) (by omega)] at e; omega
  · have e : Int64.ofInt x - Int64.ofInt x / Int64.ofInt y * Int64.ofInt y = Int64.ofInt (x % y) := by
      rw [z64_nat hx.1, z64_nat (Int.le_of_lt hy.1), pk_lRem (by omega) (by omega) (by omega), z64_nat (Int.emod_nonneg x (by omega))]
      congr 1
      obtain ⟨a, rfl⟩ := Int.eq_ofNat_of_zero_le hx.1
      obtain ⟨c, rfl⟩ := Int.eq_ofNat_of_zero_le (Int.le_of_lt hy.1)
      simp [← Int.natCast_emod]
    rw [e]
    exact kk H locs arr hP hD hS hl'
theorem z_iand (h : zOk Γ own b mL d) (hd : zD b pc .iand 1 q) (kk : zVw Γ ws k n q ls (zi (zand x y) :: st)) : zVw Γ ws k n pc ls (zi y :: zi x :: st) := by
  obtain ⟨hd, rfl⟩ := hd
  intro H locs arr hP hD hS hl'
  refine lv_iand h.1 h.2.1 hd ?_
  rw [show (Int32.ofInt x &&& Int32.ofInt y) = Int32.ofInt (zand x y) from (z32_all _).symm]
  exact kk H locs arr hP hD hS hl'
theorem z_ior (h : zOk Γ own b mL d) (hd : zD b pc .ior 1 q) (kk : zVw Γ ws k n q ls (zi (zor x y) :: st)) : zVw Γ ws k n pc ls (zi y :: zi x :: st) := by
  obtain ⟨hd, rfl⟩ := hd
  intro H locs arr hP hD hS hl'
  refine lv_ior h.1 h.2.1 hd ?_
  rw [show (Int32.ofInt x ||| Int32.ofInt y) = Int32.ofInt (zor x y) from (z32_all _).symm]
  exact kk H locs arr hP hD hS hl'
theorem z_ixor (h : zOk Γ own b mL d) (hd : zD b pc .ixor 1 q) (kk : zVw Γ ws k n q ls (zi (zxor x y) :: st)) : zVw Γ ws k n pc ls (zi y :: zi x :: st) := by
  obtain ⟨hd, rfl⟩ := hd
  intro H locs arr hP hD hS hl'
  refine lv_ixor h.1 h.2.1 hd ?_
  rw [show (Int32.ofInt x ^^^ Int32.ofInt y) = Int32.ofInt (zxor x y) from (z32_all _).symm]
  exact kk H locs arr hP hD hS hl'
theorem z_ishl (h : zOk Γ own b mL d) (hd : zD b pc .ishl 1 q) (kk : zVw Γ ws k n q ls (zi (zshl x y) :: st)) : zVw Γ ws k n pc ls (zi y :: zi x :: st) := by
  obtain ⟨hd, rfl⟩ := hd
  intro H locs arr hP hD hS hl'
  refine lv_ishl h.1 h.2.1 hd ?_
  rw [show (Int32.ofInt x <<< (Int32.ofInt y &&& 31)) = Int32.ofInt (zshl x y) from (z32_all _).symm]
  exact kk H locs arr hP hD hS hl'
theorem z_ishr (h : zOk Γ own b mL d) (hd : zD b pc .ishr 1 q) (kk : zVw Γ ws k n q ls (zi (zshr x y) :: st)) : zVw Γ ws k n pc ls (zi y :: zi x :: st) := by
  obtain ⟨hd, rfl⟩ := hd
  intro H locs arr hP hD hS hl'
  refine lv_ishr h.1 h.2.1 hd ?_
  rw [show (Int32.ofInt x >>> (Int32.ofInt y &&& 31)) = Int32.ofInt (zshr x y) from (z32_all _).symm]
  exact kk H locs arr hP hD hS hl'
theorem z_iushr (h : zOk Γ own b mL d) (hd : zD b pc .iushr 1 q) (kk : zVw Γ ws k n q ls (zi (zushr x y) :: st)) : zVw Γ ws k n pc ls (zi y :: zi x :: st) := by
  obtain ⟨hd, rfl⟩ := hd
  intro H locs arr hP hD hS hl'
  exact lv_iushr h.1 h.2.1 hd (z32_all _).symm (kk H locs arr hP hD hS hl')
theorem z_land (h : zOk Γ own b mL d) (hd : zD b pc .land 1 q) (kk : zVw Γ ws k n q ls (zl (zland x y) :: st)) : zVw Γ ws k n pc ls (zl y :: zl x :: st) := by
  obtain ⟨hd, rfl⟩ := hd
  intro H locs arr hP hD hS hl'
  refine lv_land h.1 h.2.1 hd ?_
  rw [show (Int64.ofInt x &&& Int64.ofInt y) = Int64.ofInt (zland x y) from (Int64.ofInt_toInt _).symm]
  exact kk H locs arr hP hD hS hl'
theorem z_lor (h : zOk Γ own b mL d) (hd : zD b pc .lor 1 q) (kk : zVw Γ ws k n q ls (zl (zlor x y) :: st)) : zVw Γ ws k n pc ls (zl y :: zl x :: st) := by
  obtain ⟨hd, rfl⟩ := hd
  intro H locs arr hP hD hS hl'
  refine lv_lor h.1 h.2.1 hd ?_
  rw [show (Int64.ofInt x ||| Int64.ofInt y) = Int64.ofInt (zlor x y) from (Int64.ofInt_toInt _).symm]
  exact kk H locs arr hP hD hS hl'
theorem z_lushr (h : zOk Γ own b mL d) (hd : zD b pc .lushr 1 q) (kk : zVw Γ ws k n q ls (zl (zlushr x y) :: st)) : zVw Γ ws k n pc ls (zi y :: zl x :: st) := by
  obtain ⟨hd, rfl⟩ := hd
  intro H locs arr hP hD hS hl'
  exact lv_lushr h.1 h.2.1 hd (Int64.ofInt_toInt _).symm (kk H locs arr hP hD hS hl')
theorem z_lshl (h : zOk Γ own b mL d) (hd : zD b pc .lshl 1 q) (kk : zVw Γ ws k n q ls (zl (zlshl x y) :: st)) : zVw Γ ws k n pc ls (zi y :: zl x :: st) := by
  obtain ⟨hd, rfl⟩ := hd
  intro H locs arr hP hD hS hl'
  exact lv_lshl h.1 h.2.1 hd (Int64.ofInt_toInt _).symm (kk H locs arr hP hD hS hl')
theorem z_lshr (h : zOk Γ own b mL d) (hd : zD b pc .lshr 1 q) (kk : zVw Γ ws k n q ls (zl (zlshr x y) :: st)) : zVw Γ ws k n pc ls (zi y :: zl x :: st) := by
  obtain ⟨hd, rfl⟩ := hd
  intro H locs arr hP hD hS hl'
  exact lv_lshr h.1 h.2.1 hd (Int64.ofInt_toInt _).symm (kk H locs arr hP hD hS hl')
theorem z_i2l (h : zOk Γ own b mL d) (hd : zD b pc .i2l 1 q) (hx : -2147483648 ≤ x ∧ x ≤ 2147483647) (kk : zVw Γ ws k n q ls (zl x :: st)) : zVw Γ ws k n pc ls (zi x :: st) := by
  obtain ⟨hd, rfl⟩ := hd
  intro H locs arr hP hD hS hl'
  exact lv_i2l h.1 h.2.1 hd (by rw [z64_of (show (Int32.ofInt x).toInt64.toInt = x by rw [Int32.toInt_toInt64, z32 hx])]) (kk H locs arr hP hD hS hl')
theorem z_l2i (h : zOk Γ own b mL d) (hd : zD b pc .l2i 1 q) (kk : zVw Γ ws k n q ls (zi (zl2i x) :: st)) : zVw Γ ws k n pc ls (zl x :: st) := by
  obtain ⟨hd, rfl⟩ := hd
  intro H locs arr hP hD hS hl'
  exact lv_l2i h.1 h.2.1 hd (z32_all _).symm (kk H locs arr hP hD hS hl')
theorem z_i2b (h : zOk Γ own b mL d) (hd : zD b pc .i2b 1 q) (kk : zVw Γ ws k n q ls (zi (zi2b x) :: st)) : zVw Γ ws k n pc ls (zi x :: st) := by
  obtain ⟨hd, rfl⟩ := hd
  intro H locs arr hP hD hS hl'
  exact lv_i2b h.1 h.2.1 hd (z32_all _).symm (kk H locs arr hP hD hS hl')
theorem z_lcmp (h : zOk Γ own b mL d) (hd : zD b pc .lcmp 1 q) (hx : -9223372036854775808 ≤ x ∧ x ≤ 9223372036854775807) (hy : -9223372036854775808 ≤ y ∧ y ≤ 9223372036854775807) (kk : zVw Γ ws k n q ls (zi (zcmp x y) :: st)) : zVw Γ ws k n pc ls (zl y :: zl x :: st) := by
  obtain ⟨hd, rfl⟩ := hd
  intro H locs arr hP hD hS hl'
  refine W.lcmp h.1 h.2.1 hd ?_
  have e : lg_cmp (Int64.ofInt x) (Int64.ofInt y) = Int32.ofInt (zcmp x y) := by
    unfold lg_cmp zcmp
    by_cases h1 : y < x
    · rw [if_pos h1, if_pos ((z64_lt hy hx).mpr h1)]; rfl
    · rw [if_neg h1, if_neg (fun z => h1 ((z64_lt hy hx).mp z))]
      by_cases h2 : x = y
      · rw [if_pos h2, if_pos ((z64_eq hx hy).mpr h2)]; rfl
      · rw [if_neg h2, if_neg (fun z => h2 ((z64_eq hx hy).mp z))]; rfl
  rw [e]
  exact kk H locs arr hP hD hS hl'
theorem z_dup (h : zOk Γ own b mL d) {va : Value} (hd : zD b pc .dup 1 q) (hc : va.category = 1) (kk : zVw Γ ws k n q ls (va :: va :: st)) : zVw Γ ws k n pc ls (va :: st) := by
  obtain ⟨hd, rfl⟩ := hd
  intro H locs arr hP hD hS hl'
  exact lv_dup h.1 h.2.1 hd hc (kk H locs arr hP hD hS hl')
theorem z_dup2 (h : zOk Γ own b mL d) {va vb : Value} (hd : zD b pc .dup2 1 q) (hc : va.category = 1) (hc' : vb.category = 1) (kk : zVw Γ ws k n q ls (va :: vb :: va :: vb :: st)) : zVw Γ ws k n pc ls (va :: vb :: st) := by
  obtain ⟨hd, rfl⟩ := hd
  intro H locs arr hP hD hS hl'
  exact lv_dup2_11 h.1 h.2.1 hd hc hc' (kk H locs arr hP hD hS hl')
theorem z_pop (h : zOk Γ own b mL d) {va : Value} (hd : zD b pc .pop 1 q) (hc : va.category = 1) (kk : zVw Γ ws k n q ls st) : zVw Γ ws k n pc ls (va :: st) := by
  obtain ⟨hd, rfl⟩ := hd
  intro H locs arr hP hD hS hl'
  exact lv_pop h.1 h.2.1 hd hc (kk H locs arr hP hD hS hl')
theorem z_goto (h : zOk Γ own b mL d) (hj : zJ b pc .goto q t) (kk : zVw Γ ws k n t ls st) : zVw Γ ws k n pc ls st := by
  obtain ⟨off, hd, -, ht⟩ := hj
  intro H locs arr hP hD hS hl'
  exact lv_goto h.1 h.2.1 hd ht (kk H locs arr hP hD hS hl')
theorem z_icmp_eq (h : zOk Γ own b mL d) (hj : zJ b pc (.if_icmp .eq) q t) (hx : -2147483648 ≤ x ∧ x ≤ 2147483647) (hy : -2147483648 ≤ y ∧ y ≤ 2147483647) (kt : x = y → zVw Γ ws k n t ls st) (kf : ¬ (x = y) → zVw Γ ws k n q ls st) : zVw Γ ws k n pc ls (zi y :: zi x :: st) := by
  obtain ⟨off, hd, rfl, ht⟩ := hj
  intro H locs arr hP hD hS hl'
  exact lv_icmp_eq h.1 h.2.1 hd ht (fun e => kt ((z32_eq hx hy).mp e) H locs arr hP hD hS hl') (fun e => kf (fun z => e ((z32_eq hx hy).mpr z)) H locs arr hP hD hS hl')
theorem z_if_eq (h : zOk Γ own b mL d) (hj : zJ b pc (.ifCond .eq) q t) (hx : -2147483648 ≤ x ∧ x ≤ 2147483647) (kt : x = 0 → zVw Γ ws k n t ls st) (kf : ¬ (x = 0) → zVw Γ ws k n q ls st) : zVw Γ ws k n pc ls (zi x :: st) := by
  obtain ⟨off, hd, rfl, ht⟩ := hj
  intro H locs arr hP hD hS hl'
  exact lv_if_eq h.1 h.2.1 hd ht (fun e => kt ((z32_eq hx (show -2147483648 ≤ (0 : Int) ∧ (0 : Int) ≤ 2147483647 by omega)).mp e) H locs arr hP hD hS hl') (fun e => kf (fun z => e ((z32_eq hx (show -2147483648 ≤ (0 : Int) ∧ (0 : Int) ≤ 2147483647 by omega)).mpr z)) H locs arr hP hD hS hl')
theorem z_icmp_ne (h : zOk Γ own b mL d) (hj : zJ b pc (.if_icmp .ne) q t) (hx : -2147483648 ≤ x ∧ x ≤ 2147483647) (hy : -2147483648 ≤ y ∧ y ≤ 2147483647) (kt : x ≠ y → zVw Γ ws k n t ls st) (kf : x = y → zVw Γ ws k n q ls st) : zVw Γ ws k n pc ls (zi y :: zi x :: st) := by
  obtain ⟨off, hd, rfl, ht⟩ := hj
  intro H locs arr hP hD hS hl'
  exact lv_icmp_ne h.1 h.2.1 hd ht (fun e => kt ((not_congr (z32_eq hx hy)).mp e) H locs arr hP hD hS hl') (fun e => kf ((z32_eq hx hy).mp e) H locs arr hP hD hS hl')
theorem z_if_ne (h : zOk Γ own b mL d) (hj : zJ b pc (.ifCond .ne) q t) (hx : -2147483648 ≤ x ∧ x ≤ 2147483647) (kt : x ≠ 0 → zVw Γ ws k n t ls st) (kf : x = 0 → zVw Γ ws k n q ls st) : zVw Γ ws k n pc ls (zi x :: st) := by
  obtain ⟨off, hd, rfl, ht⟩ := hj
  intro H locs arr hP hD hS hl'
  exact lv_if_ne h.1 h.2.1 hd ht (fun e => kt ((not_congr (z32_eq hx (show -2147483648 ≤ (0 : Int) ∧ (0 : Int) ≤ 2147483647 by omega))).mp e) H locs arr hP hD hS hl') (fun e => kf ((z32_eq hx (show -2147483648 ≤ (0 : Int) ∧ (0 : Int) ≤ 2147483647 by omega)).mp e) H locs arr hP hD hS hl')
theorem z_icmp_lt (h : zOk Γ own b mL d) (hj : zJ b pc (.if_icmp .lt) q t) (hx : -2147483648 ≤ x ∧ x ≤ 2147483647) (hy : -2147483648 ≤ y ∧ y ≤ 2147483647) (kt : x < y → zVw Γ ws k n t ls st) (kf : ¬ (x < y) → zVw Γ ws k n q ls st) : zVw Γ ws k n pc ls (zi y :: zi x :: st) := by
  obtain ⟨off, hd, rfl, ht⟩ := hj
  intro H locs arr hP hD hS hl'
  exact lv_icmp_lt h.1 h.2.1 hd ht (fun e => kt ((z32_lt hx hy).mp e) H locs arr hP hD hS hl') (fun e => kf (fun z => e ((z32_lt hx hy).mpr z)) H locs arr hP hD hS hl')
theorem z_if_lt (h : zOk Γ own b mL d) (hj : zJ b pc (.ifCond .lt) q t) (hx : -2147483648 ≤ x ∧ x ≤ 2147483647) (kt : x < 0 → zVw Γ ws k n t ls st) (kf : ¬ (x < 0) → zVw Γ ws k n q ls st) : zVw Γ ws k n pc ls (zi x :: st) := by
  obtain ⟨off, hd, rfl, ht⟩ := hj
  intro H locs arr hP hD hS hl'
  exact lv_if_lt h.1 h.2.1 hd ht (fun e => kt ((z32_lt hx (show -2147483648 ≤ (0 : Int) ∧ (0 : Int) ≤ 2147483647 by omega)).mp e) H locs arr hP hD hS hl') (fun e => kf (fun z => e ((z32_lt hx (show -2147483648 ≤ (0 : Int) ∧ (0 : Int) ≤ 2147483647 by omega)).mpr z)) H locs arr hP hD hS hl')
theorem z_icmp_ge (h : zOk Γ own b mL d) (hj : zJ b pc (.if_icmp .ge) q t) (hx : -2147483648 ≤ x ∧ x ≤ 2147483647) (hy : -2147483648 ≤ y ∧ y ≤ 2147483647) (kt : y ≤ x → zVw Γ ws k n t ls st) (kf : ¬ (y ≤ x) → zVw Γ ws k n q ls st) : zVw Γ ws k n pc ls (zi y :: zi x :: st) := by
  obtain ⟨off, hd, rfl, ht⟩ := hj
  intro H locs arr hP hD hS hl'
  exact lv_icmp_ge h.1 h.2.1 hd ht (fun e => kt ((z32_le hy hx).mp e) H locs arr hP hD hS hl') (fun e => kf (fun z => e ((z32_le hy hx).mpr z)) H locs arr hP hD hS hl')
theorem z_if_ge (h : zOk Γ own b mL d) (hj : zJ b pc (.ifCond .ge) q t) (hx : -2147483648 ≤ x ∧ x ≤ 2147483647) (kt : 0 ≤ x → zVw Γ ws k n t ls st) (kf : ¬ (0 ≤ x) → zVw Γ ws k n q ls st) : zVw Γ ws k n pc ls (zi x :: st) := by
  obtain ⟨off, hd, rfl, ht⟩ := hj
  intro H locs arr hP hD hS hl'
  exact lv_if_ge h.1 h.2.1 hd ht (fun e => kt ((z32_le (show -2147483648 ≤ (0 : Int) ∧ (0 : Int) ≤ 2147483647 by omega) hx).mp e) H locs arr hP hD hS hl') (fun e => kf (fun z => e ((z32_le (show -2147483648 ≤ (0 : Int) ∧ (0 : Int) ≤ 2147483647 by omega) hx).mpr z)) H locs arr hP hD hS hl')
theorem z_icmp_gt (h : zOk Γ own b mL d) (hj : zJ b pc (.if_icmp .gt) q t) (hx : -2147483648 ≤ x ∧ x ≤ 2147483647) (hy : -2147483648 ≤ y ∧ y ≤ 2147483647) (kt : y < x → zVw Γ ws k n t ls st) (kf : ¬ (y < x) → zVw Γ ws k n q ls st) : zVw Γ ws k n pc ls (zi y :: zi x :: st) := by
  obtain ⟨off, hd, rfl, ht⟩ := hj
  intro H locs arr hP hD hS hl'
  exact lv_icmp_gt h.1 h.2.1 hd ht (fun e => kt ((z32_lt hy hx).mp e) H locs arr hP hD hS hl') (fun e => kf (fun z => e ((z32_lt hy hx).mpr z)) H locs arr hP hD hS hl')
theorem z_if_gt (h : zOk Γ own b mL d) (hj : zJ b pc (.ifCond .gt) q t) (hx : -2147483648 ≤ x ∧ x ≤ 2147483647) (kt : 0 < x → zVw Γ ws k n t ls st) (kf : ¬ (0 < x) → zVw Γ ws k n q ls st) : zVw Γ ws k n pc ls (zi x :: st) := by
  obtain ⟨off, hd, rfl, ht⟩ := hj
  intro H locs arr hP hD hS hl'
  exact lv_if_gt h.1 h.2.1 hd ht (fun e => kt ((z32_lt (show -2147483648 ≤ (0 : Int) ∧ (0 : Int) ≤ 2147483647 by omega) hx).mp e) H locs arr hP hD hS hl') (fun e => kf (fun z => e ((z32_lt (show -2147483648 ≤ (0 : Int) ∧ (0 : Int) ≤ 2147483647 by omega) hx).mpr z)) H locs arr hP hD hS hl')
theorem z_icmp_le (h : zOk Γ own b mL d) (hj : zJ b pc (.if_icmp .le) q t) (hx : -2147483648 ≤ x ∧ x ≤ 2147483647) (hy : -2147483648 ≤ y ∧ y ≤ 2147483647) (kt : x ≤ y → zVw Γ ws k n t ls st) (kf : ¬ (x ≤ y) → zVw Γ ws k n q ls st) : zVw Γ ws k n pc ls (zi y :: zi x :: st) := by
  obtain ⟨off, hd, rfl, ht⟩ := hj
  intro H locs arr hP hD hS hl'
  exact lv_icmp_le h.1 h.2.1 hd ht (fun e => kt ((z32_le hx hy).mp e) H locs arr hP hD hS hl') (fun e => kf (fun z => e ((z32_le hx hy).mpr z)) H locs arr hP hD hS hl')
theorem z_if_le (h : zOk Γ own b mL d) (hj : zJ b pc (.ifCond .le) q t) (hx : -2147483648 ≤ x ∧ x ≤ 2147483647) (kt : x ≤ 0 → zVw Γ ws k n t ls st) (kf : ¬ (x ≤ 0) → zVw Γ ws k n q ls st) : zVw Γ ws k n pc ls (zi x :: st) := by
  obtain ⟨off, hd, rfl, ht⟩ := hj
  intro H locs arr hP hD hS hl'
  exact lv_if_le h.1 h.2.1 hd ht (fun e => kt ((z32_le hx (show -2147483648 ≤ (0 : Int) ∧ (0 : Int) ≤ 2147483647 by omega)).mp e) H locs arr hP hD hS hl') (fun e => kf (fun z => e ((z32_le hx (show -2147483648 ≤ (0 : Int) ∧ (0 : Int) ≤ 2147483647 by omega)).mpr z)) H locs arr hP hD hS hl')
theorem z_tabOut (h : zOk Γ own b mL d) {dflt lo hi : Int} {offs : Array Int} {len : Nat} (hd : zD b pc (.tableswitch dflt lo hi offs) len q) (hx : -2147483648 ≤ x ∧ x ≤ 2147483647) (ho : x < lo ∨ hi < x) (ht : (pc : Int) + dflt = (t : Int)) (kk : zVw Γ ws k n t ls st) : zVw Γ ws k n pc ls (zi x :: st) := by
  obtain ⟨hd, -⟩ := hd
  intro H locs arr hP hD hS hl'
  exact lv_tableOut h.1 h.2.1 hd (by rw [z32 hx]; exact ho) ht (kk H locs arr hP hD hS hl')
theorem z_tabIn (h : zOk Γ own b mL d) {dflt lo hi off : Int} {offs : Array Int} {len : Nat} (v : Int) (hd : zD b pc (.tableswitch dflt lo hi offs) len q) (hx : x = v) (hv : -2147483648 ≤ v ∧ v ≤ 2147483647 ∧ lo ≤ v ∧ v ≤ hi) (ho : offs[(v - lo).toNat]? = some off) (ht : (pc : Int) + off = (t : Int)) (kk : zVw Γ ws k n t ls st) : zVw Γ ws k n pc ls (zi x :: st) := by
  obtain ⟨hd, -⟩ := hd
  intro H locs arr hP hD hS hl'
  subst hx
  exact lv_tableIn h.1 h.2.1 hd (by rw [z32 ⟨hv.1, hv.2.1⟩]; omega) (by rw [z32 ⟨hv.1, hv.2.1⟩]; omega) (by rw [z32 ⟨hv.1, hv.2.1⟩]; exact ho) ht (kk H locs arr hP hD hS hl')
end ZR
end
section
/-! ===== rows of the heap ===== -/
/-- a field of the class ci, named by the pool of own -/
def zFl (own : String) (idx ci k : Nat) : Prop := ∃ (C : String) (T : u_T) (N : Nat), vwCl[ci]? = some (C, T, N) ∧ k < N ∧ (T k).1 = C ∧ Cond.fieldLink own idx C (T k).2.1 (T k).2.2.1 ∈ zAL ∧ (∀ w ∈ u_ws C T N, w ∈ zAL)
/-- it may be written by any method; its type -/
def zFp (ci k : Nat) (ft : FieldType) : Prop := ∃ (C : String) (T : u_T) (N : Nat) (ty : Nat → FieldType), vwCl[ci]? = some (C, T, N) ∧ (T k).2.2.2 = false ∧ (∀ j, j < N → parseFieldDescriptor (T j).2.2.1 = some (ty j)) ∧ (∀ a, a < N → ∀ b, b < N → a ≠ b → (T a).2.1 ≠ (T b).2.1) ∧ parseFieldDescriptor (T k).2.2.1 = some ft
theorem zup_fvs (w : zW) (σ : zM) (c : Nat) (v : Int) (f : zF) (val : Value) : ∀ (fs : List zF) (j k : Nat), fs[k]? = some f → zfv w (zup σ c ((j + k : Nat) : Int) v) c (j + k) f = val → zfvs w (zup σ c ((j + k : Nat) : Int) v) c j fs = (zfvs w σ c j fs).set k val
  | [], j, k, h, _ => by simp at h
  | g :: t, j, 0, h, hv => by
    simp at h; subst h
    simp only [zfvs, List.set_cons_zero]
    rw [show j + 0 = j from rfl] at hv ⊢
    rw [hv]
    congr 1
    have : ∀ (t : List zF) (i : Nat), j < i → zfvs w (zup σ c (j : Int) v) c i t = zfvs w σ c i t := by
      intro t
      induction t with
      | nil => intro i _; rfl
      | cons f t ih =>
        intro i hi
        simp only [zfvs]
        rw [ih (i + 1) (by omega)]
        congr 1
        unfold zfv
        have e : zup σ c (j : Int) v c (i : Int) = σ c i := zup_nei (by omega)
        split <;> simp [e]
    exact this t (j + 1) (by omega)
  | g :: t, j, k + 1, h, hv => by
    simp only [List.getElem?_cons_succ] at h
    simp only [zfvs, List.set_cons_succ]
    rw [show j + (k + 1) = j + 1 + k by omega] at hv ⊢
    rw [zup_fvs w σ c v f val t (j + 1) k h hv]
    congr 1
    unfold zfv
    have e : zup σ c ((j + 1 + k : Nat) : Int) v c (j : Int) = σ c j := zup_nei (by omega)
    split <;> first | rw [e] | rfl
section ZH
variable {Γ : zG} {own : String} {b : ByteArray} {mL d : Nat} {σ : zM} {k n : Nat} {pc q t : Nat} {ls : List (Option Value)} {st : List Value} {x y : Int} {c ci idx j : Nat} {fs : List zF}
theorem z_getw (h : zOk Γ own b mL d) {ws : va_W} {a : Nat} {vs : List Value} {v : Value} (hd : zD b pc (.getfield idx) 3 q) (hf : zFl own idx ci j) (p0 : Nat) (hc : ws[p0]? = some (a, .inr (ci, vs))) (hv : vs[j]? = some v) (kk : zVw Γ ws k n q ls (v :: st)) : zVw Γ ws k n pc ls (.ref a :: st) := by
  obtain ⟨hd, rfl⟩ := hd
  intro H locs arr hP hD hS hl'
  obtain ⟨C, T, N, h1, h2, h3, h4, h5⟩ := hf
  exact va_get h.1 h.2.1 h.2.2.2.2.1 h5 h.2.2.2.1 h.2.2.2.2.2.1 hP p0 hc h1 j h2 (h.2.2.2.2.1 _ h4) (fun _ h9 => by rw [h3] at h9; exact h9) hv hd (kk H locs arr hP hD hS hl')
theorem z_get (h : zOk Γ own b mL d) (hd : zD b pc (.getfield idx) 3 q) (hf : zFl own idx ci j) (hc : zlay[c]? = some (.inl (ci, fs))) (hj : fs[j]? = some none) (kk : zVw Γ (zwl (zw Γ) σ) k n q ls (zi (σ c j) :: st)) : zVw Γ (zwl (zw Γ) σ) k n pc ls (zr (zw Γ) c :: st) := by
  have e := zfvs_at (zw Γ) σ c fs 0 j none hj
  rw [Nat.zero_add] at e
  exact z_getw h hd hf c (zwl_at (zw Γ) σ hc) e kk
theorem z_getr (h : zOk Γ own b mL d) {r : Nat} (hd : zD b pc (.getfield idx) 3 q) (hf : zFl own idx ci j) (hc : zlay[c]? = some (.inl (ci, fs))) (hj : fs[j]? = some (some (some r))) (kk : zVw Γ (zwl (zw Γ) σ) k n q ls (zr (zw Γ) r :: st)) : zVw Γ (zwl (zw Γ) σ) k n pc ls (zr (zw Γ) c :: st) := by
  have e := zfvs_at (zw Γ) σ c fs 0 j (some (some r)) hj
  exact z_getw h hd hf c (zwl_at (zw Γ) σ hc) e kk
theorem z_getd (h : zOk Γ own b mL d) {r : Nat} (hd : zD b pc (.getfield idx) 3 q) (hf : zFl own idx ci j) (hc : zlay[c]? = some (.inl (ci, fs))) (hj : fs[j]? = some (some none)) (hr : σ c j = r) (kk : zVw Γ (zwl (zw Γ) σ) k n q ls (zr (zw Γ) r :: st)) : zVw Γ (zwl (zw Γ) σ) k n pc ls (zr (zw Γ) c :: st) := by
  have e := zfvs_at (zw Γ) σ c fs 0 j (some none) hj
  rw [Nat.zero_add] at e
  have e2 : zfv (zw Γ) σ c j (some none) = zr (zw Γ) r := by show zr (zw Γ) (σ c j).toNat = _; rw [hr]; rfl
  rw [e2] at e
  exact z_getw h hd hf c (zwl_at (zw Γ) σ hc) e kk
theorem z_putw (h : zOk Γ own b mL d) {ws : va_W} {a : Nat} {vs : List Value} {v : Value} {ft : FieldType} (hd : zD b pc (.putfield idx) 3 q) (hf : zFl own idx ci j) (hp : zFp ci j ft) (p0 : Nat) (hc : ws[p0]? = some (a, .inr (ci, vs))) (hn : narrow ft v = v) (hfit : fits ft v = true) (hl : j < vs.length) (kk : zVw Γ (ws.set p0 (a, .inr (ci, vs.set j v))) k n q ls st) : zVw Γ ws k n pc ls (v :: .ref a :: st) := by
  obtain ⟨hd, rfl⟩ := hd
  intro H locs arr hP hD hS hl'
  obtain ⟨C, T, N, h1, h2, h3, h4, h5⟩ := hf
  obtain ⟨C', T', N', ty, g1, g2, g3, g4, g5⟩ := hp
  cases h1.symm.trans g1
  exact va_put h.1 h.2.1 h.2.2.2.2.1 h5 ty g3 g4 h.2.2.2.1 h.2.2.2.2.2.1 hP hD hS p0 hc h1 j h2 (h.2.2.2.2.1 _ h4) (fun _ h9 => by rw [h3] at h9; exact h9) g2 g5 hn hfit hl hd (fun H1 locs1 hP1 hD1 hS1 => kk H1 locs1 arr hP1 hD1 hS1 hl')
theorem z_put (h : zOk Γ own b mL d) (hd : zD b pc (.putfield idx) 3 q) (hf : zFl own idx ci j) (hp : zFp ci j .int) (hc : zlay[c]? = some (.inl (ci, fs))) (hj : fs[j]? = some none) (kk : zVw Γ (zwl (zw Γ) (zup σ c j x)) k n q ls st) : zVw Γ (zwl (zw Γ) σ) k n pc ls (zi x :: zr (zw Γ) c :: st) := by
  refine z_putw h hd hf hp c (zwl_at (zw Γ) σ hc) rfl rfl (by rw [zfvs_len]; exact (List.getElem?_eq_some_iff.mp hj).1) ?_
  have e1 := zup_fvs (zw Γ) σ c x none (zi x) fs 0 j hj (by show zi _ = zi x; rw [Nat.zero_add, zup_eq])
  rw [Nat.zero_add] at e1
  have e2 := zwl_set (zw Γ) σ (zup σ c j x) hc zup_c
  rw [← e2] at kk
  show zVw Γ ((zwl (zw Γ) σ).set c ((zw Γ).2.2 c, .inr (ci, (zfvs (zw Γ) σ c 0 fs).set j (zi x)))) k n q ls st
  rw [← e1]
  exact kk
theorem z_putd (h : zOk Γ own b mL d) {r : Nat} {ft : FieldType} (hd : zD b pc (.putfield idx) 3 q) (hf : zFl own idx ci j) (hp : zFp ci j ft) (hc : zlay[c]? = some (.inl (ci, fs))) (hj : fs[j]? = some (some none)) (hn : ∀ a, narrow ft (.ref a) = .ref a) (hfit : ∀ a, fits ft (.ref a) = true) (kk : zVw Γ (zwl (zw Γ) (zup σ c j r)) k n q ls st) : zVw Γ (zwl (zw Γ) σ) k n pc ls (zr (zw Γ) r :: zr (zw Γ) c :: st) := by
  refine z_putw h hd hf hp c (zwl_at (zw Γ) σ hc) (hn _) (hfit _) (by rw [zfvs_len]; exact (List.getElem?_eq_some_iff.mp hj).1) ?_
  have e1 := zup_fvs (zw Γ) σ c r (some none) (zr (zw Γ) r) fs 0 j hj (by show zr _ _ = _; rw [Nat.zero_add, zup_eq]; rfl)
  rw [Nat.zero_add] at e1
  have e2 := zwl_set (zw Γ) σ (zup σ c j r) hc zup_c
  rw [← e2] at kk
  show zVw Γ ((zwl (zw Γ) σ).set c ((zw Γ).2.2 c, .inr (ci, (zfvs (zw Γ) σ c 0 fs).set j (zr (zw Γ) r)))) k n q ls st
  rw [← e1]
  exact kk
theorem z_in {i : Int} {N : Nat} (hi : 0 ≤ i ∧ i < N) (hN : N < 2147483648) : vp_in (Int32.ofInt i) N ∧ (Int32.ofInt i).toNatClampNeg = i.toNat := by
  have e := z32 (a := i) (by omega)
  refine ⟨vp_in_iff.mpr (by rw [e]; exact hi), ?_⟩
  show (Int32.ofInt i).toInt.toNat = i.toNat
  rw [e]
theorem z_alen (h : zOk Γ own b mL d) {ty N : Nat} (hd : zD b pc .arraylength 1 q) (hc : zlay[c]? = some (.inr (.inl (ty, N)))) (ht : ty < 4) (kk : zVw Γ (zwl (zw Γ) σ) k n q ls (zi N :: st)) : zVw Γ (zwl (zw Γ) σ) k n pc ls (zr (zw Γ) c :: st) := by
  obtain ⟨hd, rfl⟩ := hd
  intro H locs arr hP hD hS hl'
  have ha := zwl_at (zw Γ) σ hc
  have hv : Int32.ofNat N = Int32.ofInt N := by rw [← Int32.ofInt_eq_ofNat]
  rcases (show ty = 0 ∨ ty = 1 ∨ ty = 2 ∨ ty = 3 by omega) with rfl | rfl | rfl | rfl
  · exact va_alen h.1 h.2.1 h.2.2.2.2.2.1 hP c 0 ha rfl hv hd (kk H locs arr hP hD hS hl')
  · exact va_alen h.1 h.2.1 h.2.2.2.2.2.1 hP c 1 ha rfl hv hd (kk H locs arr hP hD hS hl')
  · exact va_alen h.1 h.2.1 h.2.2.2.2.2.1 hP c 2 ha rfl hv hd (kk H locs arr hP hD hS hl')
  · exact va_alen h.1 h.2.1 h.2.2.2.2.2.1 hP c 3 ha rfl hv hd (kk H locs arr hP hD hS hl')
theorem z_iald (h : zOk Γ own b mL d) {N : Nat} (hd : zD b pc .iaload 1 q) (hc : zlay[c]? = some (.inr (.inl (0, N)))) (hN : N < 2147483648) (hi : 0 ≤ x ∧ x < N) (kk : zVw Γ (zwl (zw Γ) σ) k n q ls (zi (σ c x) :: st)) : zVw Γ (zwl (zw Γ) σ) k n pc ls (zi x :: zr (zw Γ) c :: st) := by
  obtain ⟨hd, rfl⟩ := hd
  intro H locs arr hP hD hS hl'
  obtain ⟨h1, h2⟩ := z_in hi hN
  refine va_iald h.1 h.2.1 h.2.2.2.2.2.1 hP c 0 (zwl_at (zw Γ) σ hc) rfl h1 hd ?_
  rw [h2, Int.toNat_of_nonneg hi.1]
  exact kk H locs arr hP hD hS hl'
theorem z_bald (h : zOk Γ own b mL d) {N : Nat} (hd : zD b pc .baload 1 q) (hc : zlay[c]? = some (.inr (.inl (1, N)))) (hN : N < 2147483648) (hi : 0 ≤ x ∧ x < N) (kk : zVw Γ (zwl (zw Γ) σ) k n q ls (zi (σ c x) :: st)) : zVw Γ (zwl (zw Γ) σ) k n pc ls (zi x :: zr (zw Γ) c :: st) := by
  obtain ⟨hd, rfl⟩ := hd
  intro H locs arr hP hD hS hl'
  obtain ⟨h1, h2⟩ := z_in hi hN
  refine va_bald h.1 h.2.1 h.2.2.2.2.2.1 hP c 1 (zwl_at (zw Γ) σ hc) rfl h1 hd ?_
  rw [h2, Int.toNat_of_nonneg hi.1]
  exact kk H locs arr hP hD hS hl'
theorem z_zald (h : zOk Γ own b mL d) {N : Nat} (hd : zD b pc .baload 1 q) (hc : zlay[c]? = some (.inr (.inl (3, N)))) (hN : N < 2147483648) (hi : 0 ≤ x ∧ x < N) (kk : zVw Γ (zwl (zw Γ) σ) k n q ls (zi (σ c x) :: st)) : zVw Γ (zwl (zw Γ) σ) k n pc ls (zi x :: zr (zw Γ) c :: st) := by
  obtain ⟨hd, rfl⟩ := hd
  intro H locs arr hP hD hS hl'
  obtain ⟨h1, h2⟩ := z_in hi hN
  refine va_zald h.1 h.2.1 h.2.2.2.2.2.1 hP c 3 (zwl_at (zw Γ) σ hc) rfl h1 hd ?_
  rw [h2, Int.toNat_of_nonneg hi.1]
  exact kk H locs arr hP hD hS hl'
theorem z_lald (h : zOk Γ own b mL d) {N : Nat} (hd : zD b pc .laload 1 q) (hc : zlay[c]? = some (.inr (.inl (2, N)))) (hN : N < 2147483648) (hi : 0 ≤ x ∧ x < N) (kk : zVw Γ (zwl (zw Γ) σ) k n q ls (zl (σ c x) :: st)) : zVw Γ (zwl (zw Γ) σ) k n pc ls (zi x :: zr (zw Γ) c :: st) := by
  obtain ⟨hd, rfl⟩ := hd
  intro H locs arr hP hD hS hl'
  obtain ⟨h1, h2⟩ := z_in hi hN
  refine va_lald h.1 h.2.1 h.2.2.2.2.2.1 hP c 2 (zwl_at (zw Γ) σ hc) rfl h1 hd ?_
  rw [h2, Int.toNat_of_nonneg hi.1]
  exact kk H locs arr hP hD hS hl'
theorem z_aald (h : zOk Γ own b mL d) {ids : List Nat} {r : Nat} (hd : zD b pc .aaload 1 q) (hc : zlay[c]? = some (.inr (.inr ids))) (hN : ids.length < 2147483648) (hi : 0 ≤ x) (hr : ids[x.toNat]? = some r) (kk : zVw Γ (zwl (zw Γ) σ) k n q ls (zr (zw Γ) r :: st)) : zVw Γ (zwl (zw Γ) σ) k n pc ls (zi x :: zr (zw Γ) c :: st) := by
  obtain ⟨hd, rfl⟩ := hd
  intro H locs arr hP hD hS hl'
  have hlt := (List.getElem?_eq_some_iff.mp hr).1
  obtain ⟨h1, h2⟩ := z_in (i := x) (N := ids.length) (by omega) hN
  refine va_aldq h.1 h.2.1 h.2.2.2.2.2.1 hP c 4 (C := RX0) (zwl_at (zw Γ) σ hc) rfl h1 hd ?_
  rw [h2, hr]
  exact kk H locs arr hP hD hS hl'
theorem z_upd (w : zW) (σ : zM) (c : Nat) (x v : Int) (hx : 0 ≤ x) : (fun j : Nat => Int32.ofInt (zup σ c x v c j)) = upd (fun j : Nat => Int32.ofInt (σ c j)) x.toNat (Int32.ofInt v) := by
  funext j
  by_cases hj : j = x.toNat
  · subst hj
    rw [zup_eqi (Int.toNat_of_nonneg hx)]
    simp [upd]
  · rw [zup_nei (by omega)]
    simp [upd, hj]
theorem z_iast (h : zOk Γ own b mL d) {N : Nat} (hd : zD b pc .iastore 1 q) (hc : zlay[c]? = some (.inr (.inl (0, N)))) (hN : N < 2147483648) (hi : 0 ≤ x ∧ x < N) (kk : zVw Γ (zwl (zw Γ) (zup σ c x y)) k n q ls st) : zVw Γ (zwl (zw Γ) σ) k n pc ls (zi y :: zi x :: zr (zw Γ) c :: st) := by
  obtain ⟨hd, rfl⟩ := hd
  intro H locs arr hP hD hS hl'
  obtain ⟨h1, h2⟩ := z_in hi hN
  have e : (zwl (zw Γ) σ).set c ((zw Γ).2.2 c, .inl ((zw Γ).2.1 0, N, .inl (upd (fun j : Nat => Int32.ofInt (σ c j)) (Int32.ofInt x).toNatClampNeg (Int32.ofInt y)))) = zwl (zw Γ) (zup σ c x y) := by
    rw [h2, ← z_upd (zw Γ) σ c x y hi.1]
    exact zwl_set (zw Γ) σ (zup σ c x y) hc zup_c
  refine va_iast h.1 h.2.1 h.2.2.2.2.2.1 hP hD hS c 0 (zwl_at (zw Γ) σ hc) rfl h1 hd (fun H1 locs1 hP1 hD1 hS1 => ?_)
  rw [e] at hP1 hD1
  exact kk H1 locs1 arr hP1 hD1 hS1 hl'
theorem z_last (h : zOk Γ own b mL d) {N : Nat} (hd : zD b pc .lastore 1 q) (hc : zlay[c]? = some (.inr (.inl (2, N)))) (hN : N < 2147483648) (hi : 0 ≤ x ∧ x < N) (kk : zVw Γ (zwl (zw Γ) (zup σ c x y)) k n q ls st) : zVw Γ (zwl (zw Γ) σ) k n pc ls (zl y :: zi x :: zr (zw Γ) c :: st) := by
  obtain ⟨hd, rfl⟩ := hd
  intro H locs arr hP hD hS hl'
  obtain ⟨h1, h2⟩ := z_in hi hN
  have e : (zwl (zw Γ) σ).set c ((zw Γ).2.2 c, .inl ((zw Γ).2.1 2, N, .inr (.inl (vp_updL (fun j : Nat => Int64.ofInt (σ c j)) (Int32.ofInt x).toNatClampNeg (Int64.ofInt y))))) = zwl (zw Γ) (zup σ c x y) := by
    have e1 : (fun j : Nat => Int64.ofInt (zup σ c x y c j)) = vp_updL (fun j : Nat => Int64.ofInt (σ c j)) x.toNat (Int64.ofInt y) := by
      funext j
      by_cases hj : j = x.toNat
      · subst hj
        rw [zup_eqi (Int.toNat_of_nonneg hi.1)]
        simp [vp_updL]
      · rw [zup_nei (by omega)]
        simp [vp_updL, hj]
    rw [h2, ← e1]
    exact zwl_set (zw Γ) σ (zup σ c x y) hc zup_c
  refine va_last h.1 h.2.1 h.2.2.2.2.2.1 hP hD hS c 2 (zwl_at (zw Γ) σ hc) rfl h1 hd (fun H1 locs1 hP1 hD1 hS1 => ?_)
  rw [e] at hP1 hD1
  exact kk H1 locs1 arr hP1 hD1 hS1 hl'
theorem z_bast (h : zOk Γ own b mL d) {N : Nat} (hd : zD b pc .bastore 1 q) (hc : zlay[c]? = some (.inr (.inl (1, N)))) (hN : N < 2147483648) (hi : 0 ≤ x ∧ x < N) (hy : -128 ≤ y ∧ y < 128) (kk : zVw Γ (zwl (zw Γ) (zup σ c x y)) k n q ls st) : zVw Γ (zwl (zw Γ) σ) k n pc ls (zi y :: zi x :: zr (zw Γ) c :: st) := by
  obtain ⟨hd, rfl⟩ := hd
  intro H locs arr hP hD hS hl'
  obtain ⟨h1, h2⟩ := z_in hi hN
  have hb : vp_nar .byte (Int32.ofInt y) = Int32.ofInt y := by
    obtain ⟨z, rfl⟩ : ∃ z : Nat, y = (z : Int) - 128 := ⟨(y + 128).toNat, by omega⟩
    have : ∀ z : Fin 256, vp_nar .byte (Int32.ofInt (((z.val : Nat) : Int) - 128)) = Int32.ofInt (((z.val : Nat) : Int) - 128) := by decide +kernel
    exact this ⟨z, by omega⟩
  have e : (zwl (zw Γ) σ).set c ((zw Γ).2.2 c, .inl ((zw Γ).2.1 1, N, .inl (upd (fun j : Nat => Int32.ofInt (σ c j)) (Int32.ofInt x).toNatClampNeg (vp_nar .byte (Int32.ofInt y))))) = zwl (zw Γ) (zup σ c x y) := by
    rw [h2, hb, ← z_upd (zw Γ) σ c x y hi.1]
    exact zwl_set (zw Γ) σ (zup σ c x y) hc zup_c
  refine va_bast h.1 h.2.1 h.2.2.2.2.2.1 hP hD hS c 1 (zwl_at (zw Γ) σ hc) rfl h1 hd (fun H1 locs1 hP1 hD1 hS1 => ?_)
  rw [e] at hP1 hD1
  exact kk H1 locs1 arr hP1 hD1 hS1 hl'
theorem z_zast (h : zOk Γ own b mL d) {N : Nat} (hd : zD b pc .bastore 1 q) (hc : zlay[c]? = some (.inr (.inl (3, N)))) (hN : N < 2147483648) (hi : 0 ≤ x ∧ x < N) (hy : y = 0 ∨ y = 1) (kk : zVw Γ (zwl (zw Γ) (zup σ c x y)) k n q ls st) : zVw Γ (zwl (zw Γ) σ) k n pc ls (zi y :: zi x :: zr (zw Γ) c :: st) := by
  obtain ⟨hd, rfl⟩ := hd
  intro H locs arr hP hD hS hl'
  obtain ⟨h1, h2⟩ := z_in hi hN
  have hb : vp_nar .boolean (Int32.ofInt y) = Int32.ofInt y := by
    rcases hy with rfl | rfl <;> decide +kernel
  have e : (zwl (zw Γ) σ).set c ((zw Γ).2.2 c, .inl ((zw Γ).2.1 3, N, .inl (upd (fun j : Nat => Int32.ofInt (σ c j)) (Int32.ofInt x).toNatClampNeg (vp_nar .boolean (Int32.ofInt y))))) = zwl (zw Γ) (zup σ c x y) := by
    rw [h2, hb, ← z_upd (zw Γ) σ c x y hi.1]
    exact zwl_set (zw Γ) σ (zup σ c x y) hc zup_c
  refine va_zast h.1 h.2.1 h.2.2.2.2.2.1 hP hD hS c 3 (zwl_at (zw Γ) σ hc) rfl h1 hd (fun H1 locs1 hP1 hD1 hS1 => ?_)
  rw [e] at hP1 hD1
  exact kk H1 locs1 arr hP1 hD1 hS1 hl'
theorem z_min (h : zOk Γ own b mL d) {ws : va_W} (hd : zD b pc (.invokestatic idx) 3 q) (hl : Cond.methodLink own idx Lib.Math.min.name ∈ zAL) (hs : Cond.static Lib.Math.min.name ∈ zAL) (hi : Cond.initialized "java/lang/Math" ∈ zAL) (hc : Cond.code Lib.Math.min.name Lib.Math.min.code 2 (some .int) ∈ zAL) (hx : -2147483648 ≤ x ∧ x ≤ 2147483647) (hy : -2147483648 ≤ y ∧ y ≤ 2147483647) (hdd : 1 ≤ d) (hst : (st.map fun v => v.category).sum ≤ 20) (hk : k ≤ (zRm Γ).cells) (hn : n ≤ (zRm Γ).slots) (kk : zVw Γ ws k n q ls (zi (min x y) :: st)) : zVw Γ ws k n pc ls (zi y :: zi x :: st) := by
  obtain ⟨hd, rfl⟩ := hd
  intro H locs arr hP hD hS hl'
  have h8 := h.2.2.2.2.2.2.2.1
  refine va_mmin h.1 h.2.1 hl'.1.symm h.2.2.2.1 (h.2.2.2.2.1 _ hl) (h.2.2.2.2.1 _ hs) (h.2.2.2.2.1 _ hi) (h.2.2.2.2.1 _ hc) (by omega) (by omega) hk hn hd ?_
  have e : (if Int32.ofInt y < Int32.ofInt x then Int32.ofInt y else Int32.ofInt x) = Int32.ofInt (min x y) := by
    by_cases hxy : y < x
    · rw [if_pos ((z32_lt hy hx).mpr hxy), Int.min_eq_right (by omega)]
    · rw [if_neg (fun z => hxy ((z32_lt hy hx).mp z)), Int.min_eq_left (by omega)]
  rw [e]
  exact kk H locs arr hP hD hS hl'
end ZH
end
section
/-! ===== contracts, calls, returns ===== -/
def zPic (w : zW) (σ : zM) (U : State) : Prop := va_P w.1 vwCl (zwl w σ) U.heap ∧ va_K w.1 vwCl (zty w) U ∧ va_D (fun _ => True) (zwl w σ)
def zQc (w : zW) (P : Option Value → zM → Prop) (A : Nat → Prop) : Array Value → State → Outcome → State → Prop := fun _ st oc t => (∃ (r : Option Value) (σ' : zM), oc = .returned r ∧ P r σ' ∧ zPic w σ' t) ∧ va_F A st t
/-- a method: its name, code, locals, type, depth of calls -/
abbrev zQ6 : Type := MethodName × ByteArray × Nat × Option FieldType × Nat
/-- called with args on the memory σ, the method returns, with an answer and a memory as P says -/
def zCT (m : zQ6) (args : zW → List Value) (σ : zM) (P : Option Value → zM → Prop) : Prop := ∀ (l : Launch) (w : zW) (sz : Nat), Met l m.1 (Cond.code m.1 m.2.1 m.2.2.1 m.2.2.2.1 :: zAL) { frames := m.2.2.2.2, cells := 0, slots := 0, locals := 36 * m.2.2.2.2 } (va_Pc (args w) (fun U => U.heap.size = sz ∧ zPic w σ U)) (zQc w P (va_A (zwl w σ) sz)) 0 0 (va_A (zwl w σ) sz)
def zCi (m : zQ6) (args : zW → List Value) (σ : zM) (P : Int → zM → Prop) : Prop := zCT m args σ (fun r σ' => ∃ v, r = some (zi v) ∧ P v σ')
def zCl (m : zQ6) (args : zW → List Value) (σ : zM) (P : Int → zM → Prop) : Prop := zCT m args σ (fun r σ' => ∃ v, r = some (zl v) ∧ P v σ')
def zCv (m : zQ6) (args : zW → List Value) (σ : zM) (P : zM → Prop) : Prop := zCT m args σ (fun r σ' => r = none ∧ P σ')
/-- what a return needs -/
def zRt (Γ : zG) (ret : Option FieldType) (P : Option Value → zM → Prop) : Prop := (zmt Γ).sig.returnType = ret ∧ zQ Γ = MQ (zbl Γ) (zQc (zw Γ) P (zA Γ)) (za Γ) (zs Γ) 0 0 (zA Γ)
theorem zAl_addr (w : zW) (σ τ : zM) : ∀ (L : List zL) (c0 : Nat) (k a : Nat), (∃ e, (zws w σ c0 L)[k]? = some (a, e)) → ∃ e, (zws w τ c0 L)[k]? = some (a, e)
  | [], _, k, a, h => by obtain ⟨e, h⟩ := h; simp [zws] at h
  | g :: t, c0, 0, a, h => by
    obtain ⟨e, h⟩ := h
    simp only [zws, List.getElem?_cons_zero, Option.some.injEq, Prod.mk.injEq] at h ⊢
    exact ⟨_, h.1, rfl⟩
  | g :: t, c0, k + 1, a, h => by
    simp only [zws, List.getElem?_cons_succ] at h ⊢
    exact zAl_addr w σ τ t (c0 + 1) k a h
theorem zAl_A (w : zW) (σ τ : zM) {a : Nat} {k : Nat} {e : va_E} (h : (zwl w σ)[k]? = some (a, e)) : ∃ e', (zwl w τ)[k]? = some (a, e') := zAl_addr w σ τ zlay 0 k a ⟨e, h⟩
theorem zAl_D {A B : Nat → Prop} (w : zW) (σ τ : zM) (h : va_D A (zwl w σ)) (hB : ∀ (k : Nat) (q : Nat × va_E), (zwl w τ)[k]? = some q → B q.1) : va_D B (zwl w τ) := by
  refine ⟨fun i j x y hi hj hxy => ?_, hB⟩
  obtain ⟨e1, h1⟩ := zAl_A w τ σ (a := x.1) (e := x.2) hi
  obtain ⟨e2, h2⟩ := zAl_A w τ σ (a := y.1) (e := y.2) hj
  exact h.1 i j _ _ h1 h2 hxy
theorem zCT_mk {own : String} {m : zQ6} {args : zW → List Value} {σ : zM} {P : Option Value → zM → Prop} (hown : m.1.cls = own) (hy : plainName own = true) (ls : zW → List (Option Value)) (hls : ∀ w, zas 0 (ls w) = lv_args 0 (args w)) (hlen : ∀ w, (lg_sl (args w)).length ≤ m.2.2.1)
    (body : ∀ Γ, zOk Γ own m.2.1 m.2.2.1 m.2.2.2.2 → zRt Γ m.2.2.2.1 P → zV Γ σ 0 (ls (zw Γ)) []) : zCT m args σ P := by
  intro l w sz
  subst hown
  refine Met.ofW (cc := m.2.1) (maxL := m.2.2.1) (ret := m.2.2.2.1) hy rfl ?_
  intro p e s mi args' below meth c s₁ B hml hv
  obtain ⟨rfl, hsz, hP, hK, hD0⟩ := hv
  have hts := atoms_spec (ws := Cond.code m.1 m.2.1 m.2.2.1 m.2.2.2.1 :: zAL) B.pre
  subst hsz
  have hD := hD0.self (sz := s.heap.size)
  have hl := lv_entry (args w) (n := m.2.2.1) (hlen w)
  rw [lg_entry_eq]
  have hbody := body ((p, l, e, ({ frames := m.2.2.2.2, cells := 0, slots := 0, locals := 36 * m.2.2.2.2 } : Room), s, mi, (args w).toArray, below, meth, c), w, va_A (zwl w σ) s.heap.size, MQ below (zQc w P (va_A (zwl w σ) s.heap.size)) (args w).toArray s 0 0 (va_A (zwl w σ) s.heap.size))
    ⟨B.exec, B.bytes, hml, findClass_of_methodNamed B.named, fun w h => hts w (List.mem_cons_of_mem _ h), hK, fun q h => Or.inr h, ⟨Nat.le_refl _, Nat.le_refl _⟩, B.notSynchronized⟩ ⟨B.returns, rfl⟩
  refine hbody s.heap [] _ hP hD va_S.rf ?_
  show lv_has _ c.maxLocals _
  rw [hml, hls w]
  exact hl
section ZC
variable {Γ : zG} {own : String} {b : ByteArray} {mL d : Nat} {σ : zM} {k n : Nat} {pc q t : Nat} {ls : List (Option Value)} {st rest : List Value} {x y : Int} {c ci idx j : Nat} {fs : List zF} {P : Option Value → zM → Prop}
theorem zRt_end (h : zOk Γ own b mL d) {ret : Option FieldType} {H : Heap} {locs : List Loc} (hP : va_P (zw Γ).1 vwCl (zwl (zw Γ) σ) H) (hD : va_D (zA Γ) (zwl (zw Γ) σ)) (hS : va_S (zA Γ) (zs Γ).heap H locs) {r : Option Value} (hp : P r σ) : ∀ t : State, t.heap = H → (zs Γ).WarmedH t.vm → zQc (zw Γ) P (zA Γ) (za Γ) (zs Γ) (.returned r) t := by
  intro t ht hW
  exact ⟨⟨r, σ, rfl, hp, by rw [ht]; exact hP, va_K.moved hW.alike h.2.2.2.2.2.1, hD.weaken (fun _ _ _ _ => trivial)⟩, hS.F ht⟩
theorem z_iret (h : zOk Γ own b mL d) (hr : zRt Γ (some .int) P) (hd : zD b pc .ireturn 1 q) (hp : P (some (zi x)) σ) : zV Γ σ pc ls [zi x] := by
  obtain ⟨hd, -⟩ := hd
  intro H locs arr hP hD hS hl'
  show W _ _ _ _ _ _ _ _ _ _ _ _ _ _ (zQ Γ) _
  rw [hr.2]
  exact W.iret h.1 h.2.1 hr.1 (zRt_end (ret := some .int) h hP hD hS hp) hS.2.2 hd h.2.2.2.2.2.2.2.2
theorem z_zret (h : zOk Γ own b mL d) (hr : zRt Γ (some .boolean) P) (hd : zD b pc .ireturn 1 q) (hx : x = 0 ∨ x = 1) (hp : P (some (zi x)) σ) : zV Γ σ pc ls [zi x] := by
  obtain ⟨hd, -⟩ := hd
  intro H locs arr hP hD hS hl'
  show W _ _ _ _ _ _ _ _ _ _ _ _ _ _ (zQ Γ) _
  rw [hr.2]
  exact W.zret h.1 h.2.1 hr.1 (by rcases hx with rfl | rfl <;> rfl) (zRt_end (ret := some .boolean) h hP hD hS hp) hS.2.2 hd h.2.2.2.2.2.2.2.2
theorem z_lret (h : zOk Γ own b mL d) (hr : zRt Γ (some .long) P) (hd : zD b pc .lreturn 1 q) (hp : P (some (zl x)) σ) : zV Γ σ pc ls [zl x] := by
  obtain ⟨hd, -⟩ := hd
  intro H locs arr hP hD hS hl'
  show W _ _ _ _ _ _ _ _ _ _ _ _ _ _ (zQ Γ) _
  rw [hr.2]
  exact W.lret h.1 h.2.1 hr.1 (zRt_end (ret := some .long) h hP hD hS hp) hS.2.2 hd h.2.2.2.2.2.2.2.2
theorem z_vret (h : zOk Γ own b mL d) (hr : zRt Γ none P) (hd : zD b pc .return_ 1 q) (hp : P none σ) : zV Γ σ pc ls [] := by
  obtain ⟨hd, -⟩ := hd
  intro H locs arr hP hD hS hl'
  show W _ _ _ _ _ _ _ _ _ _ _ _ _ _ (zQ Γ) _
  rw [hr.2]
  exact W.vret h.1 h.2.1 hr.1 (zRt_end (ret := none) h hP hD hS hp) hS.2.2 hd h.2.2.2.2.2.2.2.2
/-- what a call's pool entry says -/
def zMl (own : String) (idx : Nat) (m : zQ6) (np : Nat) : Prop := Cond.methodLink own idx m.1 ∈ zAL ∧ Cond.initialized m.1.cls ∈ zAL ∧ Cond.code m.1 m.2.1 m.2.2.1 m.2.2.2.1 ∈ zAL ∧ (m.1.cls ≠ "java/lang/invoke/MethodHandle" ∧ m.1.cls ≠ "java/lang/invoke/VarHandle" ∧ (parseMethodDescriptor m.1.desc).map (fun d => d.parameters.length) = some np) ∧ m.2.2.1 ≤ 17
def zMv (m : zQ6) : Prop := Cond.instanceMethod m.1 ∈ zAL ∧ Cond.selects m.1.cls m.1 m.1 ∈ zAL
theorem zAL_good : ∀ w ∈ zAL, w ∈ zAL ∧ ((w.onTables && w.keeps) = true ∨ ∃ ty, w = .arrayClass ty) := fun w h => ⟨h, good_of_word (List.mem_filter.mp h).2⟩
theorem zRunEnd {m : zQ6} {args : zW → List Value} {g : JFrame} {H : Heap} {locs : List Loc} (hS : va_S (zA Γ) (zs Γ).heap H locs) (hD : va_D (zA Γ) (zwl (zw Γ) σ)) (h : zOk Γ own b mL d)
    (hr : va_Run (zp Γ) (zln Γ) (zen Γ) (zRm Γ) (zs Γ) (zmi Γ) (za Γ) (zbl Γ) (zmt Γ) (zcd Γ) H locs k n 0 0 (F0 (zmi Γ) pc g.locals st) rest (zQc (zw Γ) P (va_A (zwl (zw Γ) σ) H.size) (args (zw Γ)).toArray) (va_A (zwl (zw Γ) σ) H.size)) (hl : zlok (zcd Γ).maxLocals g.locals ls)
    (kk : ∀ (r : Option Value) (σ' : zM), P r σ' → zVw Γ (zwl (zw Γ) σ') k n (pc + 3) ls (r.toList ++ rest)) : zWW Γ H locs k n (F0 (zmi Γ) pc g.locals st) := by
  intro T hT X
  obtain ⟨v, st₀, t, T', L, h0, X', hL, e1, e2, ⟨⟨r, σ', hv, hp, hP1, hK1, hD1⟩, hz, hk⟩, hst⟩ := hr T hT X
  cases hv
  rw [h0] at hz hk
  have hAq : ∀ q, va_A (zwl (zw Γ) σ) H.size q → zA Γ q := by
    intro q hq
    rcases hq with ⟨j, e, hj⟩ | hq
    · exact hD.2 j (q, e) hj
    · exact h.2.2.2.2.2.2.1 q (Nat.le_trans hS.1 hq)
  have hS1 : va_S (zA Γ) (zs Γ).heap T'.heap (locs ++ L) := ⟨Nat.le_trans hS.1 (by rw [e1]; exact hz), fun q h1 h2 => by
      rw [e1, hk q (Nat.lt_of_lt_of_le h1 hS.1) (fun z => h2 (hAq q z))]; exact hS.2.1 q h1 h2, fun q hq => by
      rcases List.mem_append.mp hq with h | h
      · exact hS.2.2 q h
      · exact hAq _ (hL q h)⟩
  have hD2 : va_D (zA Γ) (zwl (zw Γ) σ') := zAl_D (zw Γ) σ σ' hD (fun j q hq => by
    obtain ⟨e', he⟩ := zAl_A (zw Γ) σ' σ (a := q.1) (e := q.2) hq
    exact hD.2 j (q.1, e') he)
  obtain ⟨t2, a1, b1⟩ := kk v σ' hp T'.heap (locs ++ L) g.locals (by rw [e1]; exact hP1) hD2 hS1 hl T' rfl X'
  exact ⟨t2, hst t2 a1, b1⟩
theorem z_callV (h : zOk Γ own b mL d) {m : zQ6} {np : Nat} {args : zW → List Value} {As : List Value} (hd : zD b pc (.invokevirtual idx) 3 q) (hm : zMl own idx m np) (hv : zMv m) (hci : (vwCl[ci]?).map (fun r => r.1) = some m.1.cls) (hc : zlay[c]? = some (.inl (ci, fs))) (hM : zCT m args σ P)
    (ha : args (zw Γ) = zr (zw Γ) c :: As) (hn : As.length = np) (hst : st = As.reverse ++ zr (zw Γ) c :: rest) (hrest : (rest.map fun v => v.category).sum ≤ 8) (hdd : m.2.2.2.2 + 1 ≤ d) (hk : k ≤ (zRm Γ).cells ∧ n ≤ (zRm Γ).slots)
    (kk : ∀ (r : Option Value) (σ' : zM), P r σ' → zVw Γ (zwl (zw Γ) σ') k n q ls (r.toList ++ rest)) : zVw Γ (zwl (zw Γ) σ) k n pc ls st := by
  obtain ⟨hd, rfl⟩ := hd
  obtain ⟨m1, m2, m3, m4, m5⟩ := hm
  intro H locs arr hP hD hS hl'
  have h8 := h.2.2.2.2.2.2.2.1
  have hT : GoodIn zAL (wsV own idx m.1.cls m.1 (Cond.code m.1 m.2.1 m.2.2.1 m.2.2.2.1 :: zAL)) := by
    intro w hw
    apply zAL_good
    simp only [wsV, List.cons_append, List.nil_append, List.mem_cons] at hw
    rcases hw with rfl | rfl | rfl | rfl | rfl | hw
    · exact m1
    · exact hv.1
    · exact hv.2
    · exact m2
    · exact m3
    · exact hw
  obtain ⟨qc, hq1, hq2⟩ : ∃ qc, vwCl[ci]? = some qc ∧ qc.1 = m.1.cls := by
    cases hx : vwCl[ci]? with
    | none => rw [hx] at hci; cases hci
    | some y => rw [hx] at hci; exact ⟨y, rfl, Option.some.inj hci⟩
  refine zRunEnd (m := m) (args := args) (g := F0 (zmi Γ) pc arr st) hS hD h ?_ hl' kk
  rw [ha]
  refine va_runV (As := As) (rest := rest) (b := (zw Γ).2.2 c) ⟨h.1, h.2.1, h.2.2.1, h.2.2.2.1, h.2.2.2.2.1⟩ (hM (zln Γ) (zw Γ) H.size) (cwV np h.2.2.2.2.1 hT rfl rfl rfl ⟨rfl, m4⟩ ⟨Nat.le_trans hdd h8.1, ?_⟩) ⟨?_, ?_, ?_⟩ rfl hn ?_ hst (lv_room hrest) hd ⟨by simpa using hk.1, by simpa using hk.2⟩
  · show 8 + (m.2.2.1 + 11) + 36 * m.2.2.2.2 ≤ _
    omega
  · intro a U g mk hp
    obtain ⟨e1, e2, qP, qK, qD⟩ := hp
    exact ⟨e1, e2, qP, va_K.moved (u := U) (U := U.calling g mk a) (Vm.Alike.refl U.vm) qK, qD⟩
  · rw [← hq2]
    exact va_recv h.2.2.2.2.2.1 hP hq1 (zwl_at (zw Γ) σ hc)
  · intro U hU hW
    exact ⟨by rw [ha]; rfl, by rw [hU], by rw [hU]; exact hP, va_K.moved hW.alike h.2.2.2.2.2.1, hD.weaken (fun _ _ _ _ => trivial)⟩
  · show arr.size = mL
    rw [← h.2.2.1]
    exact hl'.1
theorem z_callS (h : zOk Γ own b mL d) {m : zQ6} {np : Nat} {args : zW → List Value} {As : List Value} (hd : zD b pc (.invokestatic idx) 3 q) (hm : zMl own idx m np) (hv : Cond.static m.1 ∈ zAL) (hM : zCT m args σ P)
    (ha : args (zw Γ) = As) (hn : As.length = np) (hst : st = As.reverse ++ rest) (hrest : (rest.map fun v => v.category).sum ≤ 8) (hdd : m.2.2.2.2 + 1 ≤ d) (hk : k ≤ (zRm Γ).cells ∧ n ≤ (zRm Γ).slots)
    (kk : ∀ (r : Option Value) (σ' : zM), P r σ' → zVw Γ (zwl (zw Γ) σ') k n q ls (r.toList ++ rest)) : zVw Γ (zwl (zw Γ) σ) k n pc ls st := by
  obtain ⟨hd, rfl⟩ := hd
  obtain ⟨m1, m2, m3, m4, m5⟩ := hm
  intro H locs arr hP hD hS hl'
  have h8 := h.2.2.2.2.2.2.2.1
  have hT : GoodIn zAL (va_wsS own idx m.1 (Cond.code m.1 m.2.1 m.2.2.1 m.2.2.2.1 :: zAL)) := by
    intro w hw
    apply zAL_good
    simp only [va_wsS, List.cons_append, List.nil_append, List.mem_cons] at hw
    rcases hw with rfl | rfl | rfl | rfl | hw
    · exact m1
    · exact hv
    · exact m2
    · exact m3
    · exact hw
  refine zRunEnd (m := m) (args := args) (g := F0 (zmi Γ) pc arr st) hS hD h ?_ hl' kk
  rw [ha]
  refine va_runS (As := As) (rest := rest) ⟨h.1, h.2.1, h.2.2.1, h.2.2.2.1, h.2.2.2.2.1⟩ (hM (zln Γ) (zw Γ) H.size) (va_cwS np h.2.2.2.2.1 hT rfl rfl rfl m4 ⟨Nat.le_trans hdd h8.1, ?_⟩) ⟨?_, ?_⟩ rfl hn ?_ hst (lv_room hrest) hd ⟨by simpa using hk.1, by simpa using hk.2⟩
  · show 8 + (m.2.2.1 + 11) + 36 * m.2.2.2.2 ≤ _
    omega
  · intro a U g mk hp
    obtain ⟨e1, e2, qP, qK, qD⟩ := hp
    exact ⟨e1, e2, qP, va_K.moved (u := U) (U := U.calling g mk a) (Vm.Alike.refl U.vm) qK, qD⟩
  · intro U hU hW
    exact ⟨by rw [ha], by rw [hU], by rw [hU]; exact hP, va_K.moved hW.alike h.2.2.2.2.2.1, hD.weaken (fun _ _ _ _ => trivial)⟩
  · show arr.size = mL
    rw [← h.2.2.1]
    exact hl'.1
end ZC
end

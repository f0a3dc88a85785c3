section
-- ===== PART A: goes FIRST, ahead of the names: the tables' words, and 'selects' of the private methods out of them =====
/-- a private method of a class that the tables say can be made, by its rows of tables_1 -/
def lw_okq (q : MethodName × Nat) : Prop := (q.1.cls ≠ "java/lang/invoke/MethodHandle" ∧ q.1.cls ≠ "java/lang/invoke/VarHandle") ∧ Cond.instantiable q.1.cls q.2 ∈ tables_1 ∧ Cond.privateMethod q.1 ∈ tables_1 ∧ Cond.instanceMethod q.1 ∈ tables_1
theorem lw_p0 : lw_okq (⟨"QueueTurns", "isPerson", "(I)Z"⟩, 10) := ⟨⟨by decide +kernel, by decide +kernel⟩, List.mem_of_getElem? (i := 13) (by decide +kernel), List.mem_of_getElem? (i := 409) (by decide +kernel), List.mem_of_getElem? (i := 410) (by decide +kernel)⟩
theorem lw_p1 : lw_okq (⟨"QueueTurns", "runAsTold", "()V"⟩, 10) := ⟨⟨by decide +kernel, by decide +kernel⟩, List.mem_of_getElem? (i := 13) (by decide +kernel), List.mem_of_getElem? (i := 414) (by decide +kernel), List.mem_of_getElem? (i := 415) (by decide +kernel)⟩
theorem lw_p2 : lw_okq (⟨"QueueTurnsModel", "noMorning", "(I)V"⟩, 35) := ⟨⟨by decide +kernel, by decide +kernel⟩, List.mem_of_getElem? (i := 701) (by decide +kernel), List.mem_of_getElem? (i := 707) (by decide +kernel), List.mem_of_getElem? (i := 708) (by decide +kernel)⟩
theorem lw_p3 : lw_okq (⟨"QueueTurnsModel", "readAll", "()I"⟩, 35) := ⟨⟨by decide +kernel, by decide +kernel⟩, List.mem_of_getElem? (i := 701) (by decide +kernel), List.mem_of_getElem? (i := 834) (by decide +kernel), List.mem_of_getElem? (i := 835) (by decide +kernel)⟩
theorem lw_p4 : lw_okq (⟨"QueueTurnsModel", "item", "()Z"⟩, 35) := ⟨⟨by decide +kernel, by decide +kernel⟩, List.mem_of_getElem? (i := 701) (by decide +kernel), List.mem_of_getElem? (i := 838) (by decide +kernel), List.mem_of_getElem? (i := 839) (by decide +kernel)⟩
theorem lw_p5 : lw_okq (⟨"QueueTurnsModel", "byteAt", "(I)I"⟩, 35) := ⟨⟨by decide +kernel, by decide +kernel⟩, List.mem_of_getElem? (i := 701) (by decide +kernel), List.mem_of_getElem? (i := 842) (by decide +kernel), List.mem_of_getElem? (i := 843) (by decide +kernel)⟩
theorem lw_p6 : lw_okq (⟨"QueueTurnsModel", "figures", "(I)Z"⟩, 35) := ⟨⟨by decide +kernel, by decide +kernel⟩, List.mem_of_getElem? (i := 701) (by decide +kernel), List.mem_of_getElem? (i := 846) (by decide +kernel), List.mem_of_getElem? (i := 847) (by decide +kernel)⟩
theorem lw_p7 : lw_okq (⟨"QueueTurnsModel", "copyCries", "(II)V"⟩, 35) := ⟨⟨by decide +kernel, by decide +kernel⟩, List.mem_of_getElem? (i := 701) (by decide +kernel), List.mem_of_getElem? (i := 858) (by decide +kernel), List.mem_of_getElem? (i := 859) (by decide +kernel)⟩
theorem lw_p8 : lw_okq (⟨"QueueTurnsModel", "isPerson", "(I)Z"⟩, 35) := ⟨⟨by decide +kernel, by decide +kernel⟩, List.mem_of_getElem? (i := 701) (by decide +kernel), List.mem_of_getElem? (i := 866) (by decide +kernel), List.mem_of_getElem? (i := 867) (by decide +kernel)⟩
theorem lw_p9 : lw_okq (⟨"QueueTurnsModel", "goAsItIs", "()V"⟩, 35) := ⟨⟨by decide +kernel, by decide +kernel⟩, List.mem_of_getElem? (i := 701) (by decide +kernel), List.mem_of_getElem? (i := 871) (by decide +kernel), List.mem_of_getElem? (i := 872) (by decide +kernel)⟩
theorem lw_p10 : lw_okq (⟨"QueueTurnsModel", "asItIs", "()V"⟩, 35) := ⟨⟨by decide +kernel, by decide +kernel⟩, List.mem_of_getElem? (i := 701) (by decide +kernel), List.mem_of_getElem? (i := 875) (by decide +kernel), List.mem_of_getElem? (i := 876) (by decide +kernel)⟩
theorem lw_p11 : lw_okq (⟨"QueueTurnsModel", "go", "(I)V"⟩, 35) := ⟨⟨by decide +kernel, by decide +kernel⟩, List.mem_of_getElem? (i := 701) (by decide +kernel), List.mem_of_getElem? (i := 879) (by decide +kernel), List.mem_of_getElem? (i := 880) (by decide +kernel)⟩
theorem lw_p12 : lw_okq (⟨"QueueTurnsModel", "end", "(III)V"⟩, 35) := ⟨⟨by decide +kernel, by decide +kernel⟩, List.mem_of_getElem? (i := 701) (by decide +kernel), List.mem_of_getElem? (i := 883) (by decide +kernel), List.mem_of_getElem? (i := 884) (by decide +kernel)⟩
theorem lw_p13 : lw_okq (⟨"QueueTurnsModel", "takeOut", "(I)V"⟩, 35) := ⟨⟨by decide +kernel, by decide +kernel⟩, List.mem_of_getElem? (i := 701) (by decide +kernel), List.mem_of_getElem? (i := 887) (by decide +kernel), List.mem_of_getElem? (i := 888) (by decide +kernel)⟩
theorem lw_p14 : lw_okq (⟨"QueueTurnsModel", "doesCry", "(I)Z"⟩, 35) := ⟨⟨by decide +kernel, by decide +kernel⟩, List.mem_of_getElem? (i := 701) (by decide +kernel), List.mem_of_getElem? (i := 891) (by decide +kernel), List.mem_of_getElem? (i := 892) (by decide +kernel)⟩
theorem lw_p15 : lw_okq (⟨"QueueTurnsModel", "isInLine", "(I)Z"⟩, 35) := ⟨⟨by decide +kernel, by decide +kernel⟩, List.mem_of_getElem? (i := 701) (by decide +kernel), List.mem_of_getElem? (i := 900) (by decide +kernel), List.mem_of_getElem? (i := 901) (by decide +kernel)⟩
def lw_privs_1 : List (MethodName × Nat) := [(⟨"QueueTurns", "isPerson", "(I)Z"⟩, 10), (⟨"QueueTurns", "runAsTold", "()V"⟩, 10), (⟨"QueueTurnsModel", "noMorning", "(I)V"⟩, 35), (⟨"QueueTurnsModel", "readAll", "()I"⟩, 35), (⟨"QueueTurnsModel", "item", "()Z"⟩, 35), (⟨"QueueTurnsModel", "byteAt", "(I)I"⟩, 35), (⟨"QueueTurnsModel", "figures", "(I)Z"⟩, 35), (⟨"QueueTurnsModel", "copyCries", "(II)V"⟩, 35), (⟨"QueueTurnsModel", "isPerson", "(I)Z"⟩, 35), (⟨"QueueTurnsModel", "goAsItIs", "()V"⟩, 35), (⟨"QueueTurnsModel", "asItIs", "()V"⟩, 35), (⟨"QueueTurnsModel", "go", "(I)V"⟩, 35), (⟨"QueueTurnsModel", "end", "(III)V"⟩, 35), (⟨"QueueTurnsModel", "takeOut", "(I)V"⟩, 35), (⟨"QueueTurnsModel", "doesCry", "(I)Z"⟩, 35), (⟨"QueueTurnsModel", "isInLine", "(I)Z"⟩, 35)]
theorem lw_r1 : ∀ q ∈ lw_privs_1, lw_okq q := List.forall_mem_cons.mpr ⟨lw_p0, List.forall_mem_cons.mpr ⟨lw_p1, List.forall_mem_cons.mpr ⟨lw_p2, List.forall_mem_cons.mpr ⟨lw_p3, List.forall_mem_cons.mpr ⟨lw_p4, List.forall_mem_cons.mpr ⟨lw_p5, List.forall_mem_cons.mpr ⟨lw_p6, List.forall_mem_cons.mpr ⟨lw_p7, List.forall_mem_cons.mpr ⟨lw_p8, List.forall_mem_cons.mpr ⟨lw_p9, List.forall_mem_cons.mpr ⟨lw_p10, List.forall_mem_cons.mpr ⟨lw_p11, List.forall_mem_cons.mpr ⟨lw_p12, List.forall_mem_cons.mpr ⟨lw_p13, List.forall_mem_cons.mpr ⟨lw_p14, List.forall_mem_cons.mpr ⟨lw_p15, fun _ h => absurd h List.not_mem_nil⟩⟩⟩⟩⟩⟩⟩⟩⟩⟩⟩⟩⟩⟩⟩⟩
theorem lw_p16 : lw_okq (⟨"QueueTurnsModel", "turnLine", "()V"⟩, 35) := ⟨⟨by decide +kernel, by decide +kernel⟩, List.mem_of_getElem? (i := 701) (by decide +kernel), List.mem_of_getElem? (i := 907) (by decide +kernel), List.mem_of_getElem? (i := 908) (by decide +kernel)⟩
theorem lw_p17 : lw_okq (⟨"QueueTurnsModel", "putIn", "(II)V"⟩, 35) := ⟨⟨by decide +kernel, by decide +kernel⟩, List.mem_of_getElem? (i := 701) (by decide +kernel), List.mem_of_getElem? (i := 911) (by decide +kernel), List.mem_of_getElem? (i := 912) (by decide +kernel)⟩
theorem lw_p18 : lw_okq (⟨"QueueTurnsModel", "howMany", "(I)I"⟩, 35) := ⟨⟨by decide +kernel, by decide +kernel⟩, List.mem_of_getElem? (i := 701) (by decide +kernel), List.mem_of_getElem? (i := 929) (by decide +kernel), List.mem_of_getElem? (i := 930) (by decide +kernel)⟩
theorem lw_p19 : lw_okq (⟨"QueueTurnsModel", "unfair", "()I"⟩, 35) := ⟨⟨by decide +kernel, by decide +kernel⟩, List.mem_of_getElem? (i := 701) (by decide +kernel), List.mem_of_getElem? (i := 933) (by decide +kernel), List.mem_of_getElem? (i := 934) (by decide +kernel)⟩
theorem lw_p20 : lw_okq (⟨"QueueTurnsModel", "gainedOf", "(I)I"⟩, 35) := ⟨⟨by decide +kernel, by decide +kernel⟩, List.mem_of_getElem? (i := 701) (by decide +kernel), List.mem_of_getElem? (i := 941) (by decide +kernel), List.mem_of_getElem? (i := 942) (by decide +kernel)⟩
theorem lw_p21 : lw_okq (⟨"QueueTurnsModel", "timeOf", "(I)I"⟩, 35) := ⟨⟨by decide +kernel, by decide +kernel⟩, List.mem_of_getElem? (i := 701) (by decide +kernel), List.mem_of_getElem? (i := 945) (by decide +kernel), List.mem_of_getElem? (i := 946) (by decide +kernel)⟩
theorem lw_p22 : lw_okq (⟨"QueueTurnsModel", "unfairBy", "(I)I"⟩, 35) := ⟨⟨by decide +kernel, by decide +kernel⟩, List.mem_of_getElem? (i := 701) (by decide +kernel), List.mem_of_getElem? (i := 983) (by decide +kernel), List.mem_of_getElem? (i := 984) (by decide +kernel)⟩
theorem lw_p23 : lw_okq (⟨"QueueTurnsModel", "layMeans", "(II)V"⟩, 35) := ⟨⟨by decide +kernel, by decide +kernel⟩, List.mem_of_getElem? (i := 701) (by decide +kernel), List.mem_of_getElem? (i := 995) (by decide +kernel), List.mem_of_getElem? (i := 996) (by decide +kernel)⟩
theorem lw_p24 : lw_okq (⟨"QueueTurnsModel", "behindOf", "(III)J"⟩, 35) := ⟨⟨by decide +kernel, by decide +kernel⟩, List.mem_of_getElem? (i := 701) (by decide +kernel), List.mem_of_getElem? (i := 999) (by decide +kernel), List.mem_of_getElem? (i := 1000) (by decide +kernel)⟩
theorem lw_p25 : lw_okq (⟨"QueueTurnsModel", "layBy", "(III)V"⟩, 35) := ⟨⟨by decide +kernel, by decide +kernel⟩, List.mem_of_getElem? (i := 701) (by decide +kernel), List.mem_of_getElem? (i := 1013) (by decide +kernel), List.mem_of_getElem? (i := 1014) (by decide +kernel)⟩
theorem lw_p26 : lw_okq (⟨"QueueTurnsModel", "isFit", "(I)Z"⟩, 35) := ⟨⟨by decide +kernel, by decide +kernel⟩, List.mem_of_getElem? (i := 701) (by decide +kernel), List.mem_of_getElem? (i := 1033) (by decide +kernel), List.mem_of_getElem? (i := 1034) (by decide +kernel)⟩
def lw_privs_2 : List (MethodName × Nat) := [(⟨"QueueTurnsModel", "turnLine", "()V"⟩, 35), (⟨"QueueTurnsModel", "putIn", "(II)V"⟩, 35), (⟨"QueueTurnsModel", "howMany", "(I)I"⟩, 35), (⟨"QueueTurnsModel", "unfair", "()I"⟩, 35), (⟨"QueueTurnsModel", "gainedOf", "(I)I"⟩, 35), (⟨"QueueTurnsModel", "timeOf", "(I)I"⟩, 35), (⟨"QueueTurnsModel", "unfairBy", "(I)I"⟩, 35), (⟨"QueueTurnsModel", "layMeans", "(II)V"⟩, 35), (⟨"QueueTurnsModel", "behindOf", "(III)J"⟩, 35), (⟨"QueueTurnsModel", "layBy", "(III)V"⟩, 35), (⟨"QueueTurnsModel", "isFit", "(I)Z"⟩, 35)]
theorem lw_r2 : ∀ q ∈ lw_privs_2, lw_okq q := List.forall_mem_cons.mpr ⟨lw_p16, List.forall_mem_cons.mpr ⟨lw_p17, List.forall_mem_cons.mpr ⟨lw_p18, List.forall_mem_cons.mpr ⟨lw_p19, List.forall_mem_cons.mpr ⟨lw_p20, List.forall_mem_cons.mpr ⟨lw_p21, List.forall_mem_cons.mpr ⟨lw_p22, List.forall_mem_cons.mpr ⟨lw_p23, List.forall_mem_cons.mpr ⟨lw_p24, List.forall_mem_cons.mpr ⟨lw_p25, List.forall_mem_cons.mpr ⟨lw_p26, fun _ h => absurd h List.not_mem_nil⟩⟩⟩⟩⟩⟩⟩⟩⟩⟩⟩
def lw_privs : List (MethodName × Nat) := lw_privs_1 ++ (lw_privs_2)
def lw_tbl : List Cond := k2_sels lw_privs ++ tables_1
theorem lw_privs_ok : ∀ q ∈ lw_privs, lw_okq q := by
  show ∀ q ∈ lw_privs_1 ++ (lw_privs_2), lw_okq q
  exact List.forall_mem_append.mpr ⟨lw_r1, lw_r2⟩

-- names of this text: z..
/-- the words that hold along a run -/
def zAL : List Cond := lw_tbl.filter goodWord
theorem zAL_of {w : Cond} (i : Nat) (h : lw_tbl[i]? = some w) (g : goodWord w = true) : w ∈ zAL := List.mem_filter.mpr ⟨List.mem_of_getElem? h, g⟩
theorem zAL_ws {ws : List Cond} (ps : List Nat) (hp : ws = ps.filterMap (fun i => lw_tbl[i]?)) (h : ws.all goodWord = true) : ∀ w ∈ ws, w ∈ zAL := by
  intro w hw
  have h1 := List.all_eq_true.mp h w hw
  rw [hp] at hw
  obtain ⟨i, -, hi⟩ := List.mem_filterMap.mp hw
  exact zAL_of i hi h1
/-- an instruction at a place, and the place behind it -/
def zD (b : ByteArray) (pc : Nat) (i : Instr) (k n : Nat) : Prop := decode b pc = .ok (i, k) ∧ pc + k = n
/-- a jump: the place behind it, and its target -/
def zJ (b : ByteArray) (pc : Nat) (i : Int → Instr) (n t : Nat) : Prop := ∃ off : Int, decode b pc = .ok (i off, 3) ∧ pc + 3 = n ∧ (pc : Int) + off = (t : Int)

def RX0 : String := "QueueTurns$CryList"
def TX0 : u_T := fun k => match k with
  | 0 => ("QueueTurns$CryList", "who", "[I", true)
  | 1 => ("QueueTurns$CryList", "minute", "[I", true)
  | 2 => ("QueueTurns$CryList", "bitsAt", "[I", true)
  | _ => ("QueueTurns$CryList", "size", "I", false)
def tyX0 : Nat → FieldType := fun k => match k with
  | 0 => .array .int
  | 1 => .array .int
  | 2 => .array .int
  | _ => .int
theorem nmX0 : ∀ a, a < 4 → ∀ b, b < 4 → a ≠ b → (TX0 a).2.1 ≠ (TX0 b).2.1 := by decide +kernel
theorem tyX0_ok : ∀ k, k < 4 → parseFieldDescriptor (TX0 k).2.2.1 = some (tyX0 k) := by decide +kernel
set_option maxRecDepth 100000 in
theorem inX0 : ∀ w ∈ u_ws RX0 TX0 4, w ∈ zAL := zAL_ws [105, 107, 109, 111] (by rfl) (by decide +kernel)
def RX1 : String := "QueueTurns$Morning"
def TX1 : u_T := fun k => match k with
  | 0 => ("QueueTurns$Morning", "how", "[I", true)
  | 1 => ("QueueTurns$Morning", "when", "[I", true)
  | 2 => ("QueueTurns$Morning", "here", "[Z", true)
  | 3 => ("QueueTurns$Morning", "inRow", "[I", true)
  | 4 => ("QueueTurns$Morning", "extraWho", "[I", true)
  | 5 => ("QueueTurns$Morning", "extraMinute", "[I", true)
  | 6 => ("QueueTurns$Morning", "plan", "LQueueTurns$Plan;", false)
  | 7 => ("QueueTurns$Morning", "law", "I", false)
  | 8 => ("QueueTurns$Morning", "hushed", "I", false)
  | 9 => ("QueueTurns$Morning", "draw", "I", false)
  | 10 => ("QueueTurns$Morning", "size", "I", false)
  | 11 => ("QueueTurns$Morning", "came", "I", false)
  | 12 => ("QueueTurns$Morning", "ended", "I", false)
  | 13 => ("QueueTurns$Morning", "loaves", "I", false)
  | 14 => ("QueueTurns$Morning", "turns", "I", false)
  | _ => ("QueueTurns$Morning", "lastTurn", "I", false)
def tyX1 : Nat → FieldType := fun k => match k with
  | 0 => .array .int
  | 1 => .array .int
  | 2 => .array .boolean
  | 3 => .array .int
  | 4 => .array .int
  | 5 => .array .int
  | 6 => .object "QueueTurns$Plan"
  | 7 => .int
  | 8 => .int
  | 9 => .int
  | 10 => .int
  | 11 => .int
  | 12 => .int
  | 13 => .int
  | 14 => .int
  | _ => .int
theorem nmX1 : ∀ a, a < 16 → ∀ b, b < 16 → a ≠ b → (TX1 a).2.1 ≠ (TX1 b).2.1 := by decide +kernel
theorem tyX1_ok : ∀ k, k < 16 → parseFieldDescriptor (TX1 k).2.2.1 = some (tyX1 k) := by decide +kernel
set_option maxRecDepth 100000 in
theorem inX1 : ∀ w ∈ u_ws RX1 TX1 16, w ∈ zAL := zAL_ws [203, 205, 207, 209, 211, 213, 215, 217, 219, 221, 223, 225, 227, 229, 231, 233] (by rfl) (by decide +kernel)
def RX2 : String := "QueueTurns$Names"
def TX2 : u_T := fun k => match k with
  | 0 => ("QueueTurns$Names", "served", "[I", true)
  | 1 => ("QueueTurns$Names", "stood", "[I", true)
  | 2 => ("QueueTurns$Names", "servedMany", "I", false)
  | 3 => ("QueueTurns$Names", "stoodMany", "I", false)
  | 4 => ("QueueTurns$Names", "fitting", "I", false)
  | _ => ("QueueTurns$Names", "lowestFitting", "I", false)
def tyX2 : Nat → FieldType := fun k => match k with
  | 0 => .array .int
  | 1 => .array .int
  | 2 => .int
  | 3 => .int
  | 4 => .int
  | _ => .int
theorem nmX2 : ∀ a, a < 6 → ∀ b, b < 6 → a ≠ b → (TX2 a).2.1 ≠ (TX2 b).2.1 := by decide +kernel
theorem tyX2_ok : ∀ k, k < 6 → parseFieldDescriptor (TX2 k).2.2.1 = some (tyX2 k) := by decide +kernel
set_option maxRecDepth 100000 in
theorem inX2 : ∀ w ∈ u_ws RX2 TX2 6, w ∈ zAL := zAL_ws [300, 302, 304, 306, 308, 310] (by rfl) (by decide +kernel)
def RX3 : String := "QueueTurns$Odds"
def TX3 : u_T := fun k => match k with
  | 0 => ("QueueTurns$Odds", "weight", "[J", true)
  | 1 => ("QueueTurns$Odds", "turned", "[J", true)
  | _ => ("QueueTurns$Odds", "servedAt", "[J", true)
def tyX3 : Nat → FieldType := fun k => match k with
  | 0 => .array .long
  | 1 => .array .long
  | _ => .array .long
theorem nmX3 : ∀ a, a < 3 → ∀ b, b < 3 → a ≠ b → (TX3 a).2.1 ≠ (TX3 b).2.1 := by decide +kernel
theorem tyX3_ok : ∀ k, k < 3 → parseFieldDescriptor (TX3 k).2.2.1 = some (tyX3 k) := by decide +kernel
set_option maxRecDepth 100000 in
theorem inX3 : ∀ w ∈ u_ws RX3 TX3 3, w ∈ zAL := zAL_ws [276, 278, 280] (by rfl) (by decide +kernel)
def RX4 : String := "QueueTurns$Plan"
def TX4 : u_T := fun k => match k with
  | 0 => ("QueueTurns$Plan", "comes", "[I", true)
  | 1 => ("QueueTurns$Plan", "child", "[I", true)
  | 2 => ("QueueTurns$Plan", "waits", "[I", true)
  | 3 => ("QueueTurns$Plan", "order", "[I", true)
  | 4 => ("QueueTurns$Plan", "cries", "LQueueTurns$CryList;", true)
  | 5 => ("QueueTurns$Plan", "persons", "I", false)
  | 6 => ("QueueTurns$Plan", "quiet", "I", false)
  | 7 => ("QueueTurns$Plan", "atOnce", "I", false)
  | 8 => ("QueueTurns$Plan", "every", "I", false)
  | 9 => ("QueueTurns$Plan", "loaves", "I", false)
  | _ => ("QueueTurns$Plan", "law", "I", false)
def tyX4 : Nat → FieldType := fun k => match k with
  | 0 => .array .int
  | 1 => .array .int
  | 2 => .array .int
  | 3 => .array .int
  | 4 => .object "QueueTurns$CryList"
  | 5 => .int
  | 6 => .int
  | 7 => .int
  | 8 => .int
  | 9 => .int
  | _ => .int
theorem nmX4 : ∀ a, a < 11 → ∀ b, b < 11 → a ≠ b → (TX4 a).2.1 ≠ (TX4 b).2.1 := by decide +kernel
theorem tyX4_ok : ∀ k, k < 11 → parseFieldDescriptor (TX4 k).2.2.1 = some (tyX4 k) := by decide +kernel
set_option maxRecDepth 100000 in
theorem inX4 : ∀ w ∈ u_ws RX4 TX4 11, w ∈ zAL := zAL_ws [156, 158, 160, 162, 164, 166, 168, 170, 172, 174, 176] (by rfl) (by decide +kernel)
def RX5 : String := "QueueTurns$Study"
def TX5 : u_T := fun k => match k with
  | 0 => ("QueueTurns$Study", "morning", "LQueueTurns$Morning;", true)
  | 1 => ("QueueTurns$Study", "timesOfI", "[I", true)
  | 2 => ("QueueTurns$Study", "timesOfJ", "[I", true)
  | 3 => ("QueueTurns$Study", "bestMinute", "I", false)
  | 4 => ("QueueTurns$Study", "worth", "I", false)
  | 5 => ("QueueTurns$Study", "rests", "I", false)
  | 6 => ("QueueTurns$Study", "firstOfI", "I", false)
  | _ => ("QueueTurns$Study", "firstOfJ", "I", false)
def tyX5 : Nat → FieldType := fun k => match k with
  | 0 => .object "QueueTurns$Morning"
  | 1 => .array .int
  | 2 => .array .int
  | 3 => .int
  | 4 => .int
  | 5 => .int
  | 6 => .int
  | _ => .int
theorem nmX5 : ∀ a, a < 8 → ∀ b, b < 8 → a ≠ b → (TX5 a).2.1 ≠ (TX5 b).2.1 := by decide +kernel
theorem tyX5_ok : ∀ k, k < 8 → parseFieldDescriptor (TX5 k).2.2.1 = some (tyX5 k) := by decide +kernel
set_option maxRecDepth 100000 in
theorem inX5 : ∀ w ∈ u_ws RX5 TX5 8, w ∈ zAL := zAL_ws [250, 252, 254, 256, 258, 260, 262, 264] (by rfl) (by decide +kernel)
def RX6 : String := "QueueTurns$Text"
def TX6 : u_T := fun k => match k with
  | 0 => ("QueueTurns$Text", "bytes", "[B", true)
  | 1 => ("QueueTurns$Text", "numbers", "[I", true)
  | 2 => ("QueueTurns$Text", "length", "I", false)
  | _ => ("QueueTurns$Text", "at", "I", false)
def tyX6 : Nat → FieldType := fun k => match k with
  | 0 => .array .byte
  | 1 => .array .int
  | 2 => .int
  | _ => .int
theorem nmX6 : ∀ a, a < 4 → ∀ b, b < 4 → a ≠ b → (TX6 a).2.1 ≠ (TX6 b).2.1 := by decide +kernel
theorem tyX6_ok : ∀ k, k < 4 → parseFieldDescriptor (TX6 k).2.2.1 = some (tyX6 k) := by decide +kernel
set_option maxRecDepth 100000 in
theorem inX6 : ∀ w ∈ u_ws RX6 TX6 4, w ∈ zAL := zAL_ws [58, 60, 62, 64] (by rfl) (by decide +kernel)
def RX7 : String := "QueueTurns"
def TX7 : u_T := fun k => match k with
  | 0 => ("QueueTurns", "text", "LQueueTurns$Text;", true)
  | 1 => ("QueueTurns", "study", "LQueueTurns$Study;", true)
  | 2 => ("QueueTurns", "morning", "LQueueTurns$Morning;", true)
  | 3 => ("QueueTurns", "odds", "LQueueTurns$Odds;", true)
  | 4 => ("QueueTurns", "names", "LQueueTurns$Names;", true)
  | 5 => ("QueueTurns", "kept", "[LQueueTurns$CryList;", true)
  | 6 => ("QueueTurns", "keptMany", "I", false)
  | 7 => ("QueueTurns", "laid", "LQueueTurns$Plan;", false)
  | 8 => ("QueueTurns", "spare", "LQueueTurns$Plan;", false)
  | _ => ("QueueTurns", "fixedCries", "I", false)
def tyX7 : Nat → FieldType := fun k => match k with
  | 0 => .object "QueueTurns$Text"
  | 1 => .object "QueueTurns$Study"
  | 2 => .object "QueueTurns$Morning"
  | 3 => .object "QueueTurns$Odds"
  | 4 => .object "QueueTurns$Names"
  | 5 => .array (.object "QueueTurns$CryList")
  | 6 => .int
  | 7 => .object "QueueTurns$Plan"
  | 8 => .object "QueueTurns$Plan"
  | _ => .int
theorem nmX7 : ∀ a, a < 10 → ∀ b, b < 10 → a ≠ b → (TX7 a).2.1 ≠ (TX7 b).2.1 := by decide +kernel
theorem tyX7_ok : ∀ k, k < 10 → parseFieldDescriptor (TX7 k).2.2.1 = some (tyX7 k) := by decide +kernel
set_option maxRecDepth 100000 in
theorem inX7 : ∀ w ∈ u_ws RX7 TX7 10, w ∈ zAL := zAL_ws [340, 342, 344, 346, 348, 350, 352, 354, 356, 358] (by rfl) (by decide +kernel)
def RX8 : String := "QueueTurnsModel"
def TX8 : u_T := fun k => match k with
  | 0 => ("QueueTurnsModel", "length", "I", false)
  | 1 => ("QueueTurnsModel", "text", "[I", true)
  | 2 => ("QueueTurnsModel", "many", "[I", true)
  | 3 => ("QueueTurnsModel", "comes", "[I", true)
  | 4 => ("QueueTurnsModel", "hasChild", "[I", true)
  | 5 => ("QueueTurnsModel", "waits", "[I", true)
  | 6 => ("QueueTurnsModel", "quiet", "[I", true)
  | 7 => ("QueueTurnsModel", "serves", "[I", true)
  | 8 => ("QueueTurnsModel", "each", "[I", true)
  | 9 => ("QueueTurnsModel", "loaves", "[I", true)
  | 10 => ("QueueTurnsModel", "law", "[I", true)
  | 11 => ("QueueTurnsModel", "cryMany", "[I", true)
  | 12 => ("QueueTurnsModel", "cryOf", "[I", true)
  | 13 => ("QueueTurnsModel", "cryAt", "[I", true)
  | 14 => ("QueueTurnsModel", "keptMany", "I", false)
  | 15 => ("QueueTurnsModel", "toldMany", "I", false)
  | 16 => ("QueueTurnsModel", "nameMany", "[I", true)
  | 17 => ("QueueTurnsModel", "names", "[I", true)
  | 18 => ("QueueTurnsModel", "place", "I", false)
  | 19 => ("QueueTurnsModel", "told", "[I", true)
  | 20 => ("QueueTurnsModel", "heard", "I", false)
  | 21 => ("QueueTurnsModel", "moreOne", "I", false)
  | 22 => ("QueueTurnsModel", "moreOneAt", "I", false)
  | 23 => ("QueueTurnsModel", "moreTwo", "I", false)
  | 24 => ("QueueTurnsModel", "moreTwoAt", "I", false)
  | 25 => ("QueueTurnsModel", "byLaw", "I", false)
  | 26 => ("QueueTurnsModel", "byDraw", "I", false)
  | 27 => ("QueueTurnsModel", "line", "[I", true)
  | 28 => ("QueueTurnsModel", "lineMany", "I", false)
  | 29 => ("QueueTurnsModel", "how", "[I", true)
  | 30 => ("QueueTurnsModel", "when", "[I", true)
  | 31 => ("QueueTurnsModel", "turns", "I", false)
  | 32 => ("QueueTurnsModel", "timeOne", "[I", true)
  | 33 => ("QueueTurnsModel", "timeTwo", "[I", true)
  | _ => ("QueueTurnsModel", "sums", "[J", true)
def tyX8 : Nat → FieldType := fun k => match k with
  | 0 => .int
  | 1 => .array .int
  | 2 => .array .int
  | 3 => .array .int
  | 4 => .array .int
  | 5 => .array .int
  | 6 => .array .int
  | 7 => .array .int
  | 8 => .array .int
  | 9 => .array .int
  | 10 => .array .int
  | 11 => .array .int
  | 12 => .array .int
  | 13 => .array .int
  | 14 => .int
  | 15 => .int
  | 16 => .array .int
  | 17 => .array .int
  | 18 => .int
  | 19 => .array .int
  | 20 => .int
  | 21 => .int
  | 22 => .int
  | 23 => .int
  | 24 => .int
  | 25 => .int
  | 26 => .int
  | 27 => .array .int
  | 28 => .int
  | 29 => .array .int
  | 30 => .array .int
  | 31 => .int
  | 32 => .array .int
  | 33 => .array .int
  | _ => .array .long
theorem nmX8 : ∀ a, a < 35 → ∀ b, b < 35 → a ≠ b → (TX8 a).2.1 ≠ (TX8 b).2.1 := by decide +kernel
theorem tyX8_ok : ∀ k, k < 35 → parseFieldDescriptor (TX8 k).2.2.1 = some (tyX8 k) := by decide +kernel
set_option maxRecDepth 100000 in
theorem inX8 : ∀ w ∈ u_ws RX8 TX8 35, w ∈ zAL := zAL_ws [772, 774, 776, 778, 780, 782, 784, 786, 788, 790, 792, 794, 796, 798, 800, 802, 804, 806, 808, 810, 812, 814, 816, 818, 820, 822, 824, 826, 828, 830, 832, 834, 836, 838, 840] (by rfl) (by decide +kernel)
def RL : String := "QueueTurnsLaw"
def RJ6 : String := "java/lang/Integer"
def RJ9 : String := "java/lang/Math"
abbrev vwCl : List vw_C := [(RX0, TX0, 4), (RX1, TX1, 16), (RX2, TX2, 6), (RX3, TX3, 3), (RX4, TX4, 11), (RX5, TX5, 8), (RX6, TX6, 4), (RX7, TX7, 10), (RX8, TX8, 35)]
abbrev cX0_init : ByteArray := prog_2_method_1_code
def yX0_init : MethodName := ⟨RX0, "<init>", "()V"⟩
abbrev cX0_add : ByteArray := prog_2_method_2_code
def yX0_add : MethodName := ⟨RX0, "add", "(II)Z"⟩
abbrev cX0_dropLast : ByteArray := prog_2_method_3_code
def yX0_dropLast : MethodName := ⟨RX0, "dropLast", "()V"⟩
abbrev cX0_clear : ByteArray := prog_2_method_4_code
def yX0_clear : MethodName := ⟨RX0, "clear", "()V"⟩
abbrev cX0_copyFrom : ByteArray := prog_2_method_5_code
def yX0_copyFrom : MethodName := ⟨RX0, "copyFrom", "(LQueueTurns$CryList;)V"⟩
abbrev cX1_init : ByteArray := prog_3_method_1_code
def yX1_init : MethodName := ⟨RX1, "<init>", "()V"⟩
abbrev cX1_asTold : ByteArray := prog_3_method_2_code
def yX1_asTold : MethodName := ⟨RX1, "asTold", "(LQueueTurns$Plan;)V"⟩
abbrev cX1_addExtra : ByteArray := prog_3_method_3_code
def yX1_addExtra : MethodName := ⟨RX1, "addExtra", "(III)V"⟩
abbrev cX1_runTo : ByteArray := prog_3_method_4_code
def yX1_runTo : MethodName := ⟨RX1, "runTo", "(I)V"⟩
abbrev cX1_begin : ByteArray := prog_3_method_5_code
def yX1_begin : MethodName := ⟨RX1, "begin", "()V"⟩
abbrev cX1_letGoAway : ByteArray := prog_3_method_6_code
def yX1_letGoAway : MethodName := ⟨RX1, "letGoAway", "(I)V"⟩
abbrev cX1_isToldCry : ByteArray := prog_3_method_7_code
def yX1_isToldCry : MethodName := ⟨RX1, "isToldCry", "(I)Z"⟩
abbrev cX1_isExtraCry : ByteArray := prog_3_method_8_code
def yX1_isExtraCry : MethodName := ⟨RX1, "isExtraCry", "(I)Z"⟩
abbrev cX1_isDrawnCry : ByteArray := prog_3_method_9_code
def yX1_isDrawnCry : MethodName := ⟨RX1, "isDrawnCry", "(I)Z"⟩
abbrev cX1_isDrawn : ByteArray := prog_3_method_10_code
def yX1_isDrawn : MethodName := ⟨RX1, "isDrawn", "(II)Z"⟩
abbrev cX1_turn : ByteArray := prog_3_method_11_code
def yX1_turn : MethodName := ⟨RX1, "turn", "(I)V"⟩
abbrev cX1_letCome : ByteArray := prog_3_method_12_code
def yX1_letCome : MethodName := ⟨RX1, "letCome", "(I)V"⟩
abbrev cX1_join : ByteArray := prog_3_method_13_code
def yX1_join : MethodName := ⟨RX1, "join", "(I)V"⟩
abbrev cX1_serve : ByteArray := prog_3_method_14_code
def yX1_serve : MethodName := ⟨RX1, "serve", "(I)V"⟩
abbrev cX1_sendHome : ByteArray := prog_3_method_15_code
def yX1_sendHome : MethodName := ⟨RX1, "sendHome", "(I)V"⟩
abbrev cX1_end : ByteArray := prog_3_method_16_code
def yX1_end : MethodName := ⟨RX1, "end", "(III)V"⟩
abbrev cX1_placeOf : ByteArray := prog_3_method_17_code
def yX1_placeOf : MethodName := ⟨RX1, "placeOf", "(I)I"⟩
abbrev cX1_manyOf : ByteArray := prog_3_method_18_code
def yX1_manyOf : MethodName := ⟨RX1, "manyOf", "(I)I"⟩
abbrev cX1_timeOf : ByteArray := prog_3_method_19_code
def yX1_timeOf : MethodName := ⟨RX1, "timeOf", "(I)I"⟩
abbrev cX1_unfair : ByteArray := prog_3_method_20_code
def yX1_unfair : MethodName := ⟨RX1, "unfair", "()I"⟩
abbrev cX2_init : ByteArray := prog_4_method_1_code
def yX2_init : MethodName := ⟨RX2, "<init>", "()V"⟩
abbrev cX2_manyIn : ByteArray := prog_4_method_2_code
def yX2_manyIn : MethodName := ⟨RX2, "manyIn", "(I)I"⟩
abbrev cX2_isIn : ByteArray := prog_4_method_3_code
def yX2_isIn : MethodName := ⟨RX2, "isIn", "(II)Z"⟩
abbrev cX2_add : ByteArray := prog_4_method_4_code
def yX2_add : MethodName := ⟨RX2, "add", "(II)V"⟩
abbrev cX2_forget : ByteArray := prog_4_method_5_code
def yX2_forget : MethodName := ⟨RX2, "forget", "()V"⟩
abbrev cX2_findTurns : ByteArray := prog_4_method_6_code
def yX2_findTurns : MethodName := ⟨RX2, "findTurns", "()V"⟩
abbrev cX2_isFitting : ByteArray := prog_4_method_7_code
def yX2_isFitting : MethodName := ⟨RX2, "isFitting", "(I)Z"⟩
abbrev cX3_init : ByteArray := prog_5_method_1_code
def yX3_init : MethodName := ⟨RX3, "<init>", "()V"⟩
abbrev cX3_findChances : ByteArray := prog_5_method_2_code
def yX3_findChances : MethodName := ⟨RX3, "findChances", "(III)V"⟩
abbrev cX3_meanAbove : ByteArray := prog_5_method_3_code
def yX3_meanAbove : MethodName := ⟨RX3, "meanAbove", "(III)J"⟩
abbrev cX3_chanceAbove : ByteArray := prog_5_method_4_code
def yX3_chanceAbove : MethodName := ⟨RX3, "chanceAbove", "(IIII)J"⟩
abbrev cX3_lowest : ByteArray := prog_5_method_5_code
def yX3_lowest : MethodName := ⟨RX3, "lowest", "(JI)J"⟩
abbrev cX3_bestPlace : ByteArray := prog_5_method_6_code
def yX3_bestPlace : MethodName := ⟨RX3, "bestPlace", "(II)I"⟩
abbrev cX3_bestEnd : ByteArray := prog_5_method_7_code
def yX3_bestEnd : MethodName := ⟨RX3, "bestEnd", "(II)I"⟩
abbrev cX4_init : ByteArray := prog_6_method_1_code
def yX4_init : MethodName := ⟨RX4, "<init>", "()V"⟩
abbrev cX4_clear : ByteArray := prog_6_method_2_code
def yX4_clear : MethodName := ⟨RX4, "clear", "()V"⟩
abbrev cX4_isTold : ByteArray := prog_6_method_3_code
def yX4_isTold : MethodName := ⟨RX4, "isTold", "(I)Z"⟩
abbrev cX4_hasChild : ByteArray := prog_6_method_4_code
def yX4_hasChild : MethodName := ⟨RX4, "hasChild", "(I)Z"⟩
abbrev cX4_take : ByteArray := prog_6_method_5_code
def yX4_take : MethodName := ⟨RX4, "take", "(IIII)Z"⟩
abbrev cX4_addPerson : ByteArray := prog_6_method_6_code
def yX4_addPerson : MethodName := ⟨RX4, "addPerson", "(III)Z"⟩
abbrev cX4_addCry : ByteArray := prog_6_method_7_code
def yX4_addCry : MethodName := ⟨RX4, "addCry", "(II)Z"⟩
abbrev cX4_setService : ByteArray := prog_6_method_8_code
def yX4_setService : MethodName := ⟨RX4, "setService", "(II)Z"⟩
abbrev cX5_init : ByteArray := prog_7_method_1_code
def yX5_init : MethodName := ⟨RX5, "<init>", "()V"⟩
abbrev cX5_timeWithout : ByteArray := prog_7_method_2_code
def yX5_timeWithout : MethodName := ⟨RX5, "timeWithout", "(LQueueTurns$Plan;II)I"⟩
abbrev cX5_gainedBy : ByteArray := prog_7_method_3_code
def yX5_gainedBy : MethodName := ⟨RX5, "gainedBy", "(LQueueTurns$Plan;I)I"⟩
abbrev cX5_mostGained : ByteArray := prog_7_method_4_code
def yX5_mostGained : MethodName := ⟨RX5, "mostGained", "(LQueueTurns$Plan;)I"⟩
abbrev cX5_fewestHushed : ByteArray := prog_7_method_5_code
def yX5_fewestHushed : MethodName := ⟨RX5, "fewestHushed", "(LQueueTurns$Plan;II)I"⟩
abbrev cX5_isServedBy : ByteArray := prog_7_method_6_code
def yX5_isServedBy : MethodName := ⟨RX5, "isServedBy", "(LQueueTurns$Plan;III)Z"⟩
abbrev cX5_cryOnceMore : ByteArray := prog_7_method_7_code
def yX5_cryOnceMore : MethodName := ⟨RX5, "cryOnceMore", "(LQueueTurns$Plan;I)V"⟩
abbrev cX5_play : ByteArray := prog_7_method_8_code
def yX5_play : MethodName := ⟨RX5, "play", "(LQueueTurns$Plan;II)V"⟩
abbrev cX5_isRest : ByteArray := prog_7_method_9_code
def yX5_isRest : MethodName := ⟨RX5, "isRest", "(II)Z"⟩
abbrev cX5_unfairBy : ByteArray := prog_7_method_10_code
def yX5_unfairBy : MethodName := ⟨RX5, "unfairBy", "(LQueueTurns$Plan;I)I"⟩
abbrev cX5_bestLaw : ByteArray := prog_7_method_11_code
def yX5_bestLaw : MethodName := ⟨RX5, "bestLaw", "(LQueueTurns$Plan;)I"⟩
abbrev cX6_init : ByteArray := prog_8_method_1_code
def yX6_init : MethodName := ⟨RX6, "<init>", "()V"⟩
abbrev cX6_append : ByteArray := prog_8_method_2_code
def yX6_append : MethodName := ⟨RX6, "append", "(B)V"⟩
abbrev cX6_readInto : ByteArray := prog_8_method_3_code
def yX6_readInto : MethodName := ⟨RX6, "readInto", "(LQueueTurns$Plan;)I"⟩
abbrev cX6_readItem : ByteArray := prog_8_method_4_code
def yX6_readItem : MethodName := ⟨RX6, "readItem", "(LQueueTurns$Plan;)Z"⟩
abbrev cX6_numbersOf : ByteArray := prog_8_method_5_code
def yX6_numbersOf : MethodName := ⟨RX6, "numbersOf", "(I)I"⟩
abbrev cX6_readNumbers : ByteArray := prog_8_method_6_code
def yX6_readNumbers : MethodName := ⟨RX6, "readNumbers", "(I)Z"⟩
abbrev cX6_readNumber : ByteArray := prog_8_method_7_code
def yX6_readNumber : MethodName := ⟨RX6, "readNumber", "()I"⟩
abbrev cX6_figureAt : ByteArray := prog_8_method_8_code
def yX6_figureAt : MethodName := ⟨RX6, "figureAt", "()I"⟩
abbrev cX6_nextByte : ByteArray := prog_8_method_9_code
def yX6_nextByte : MethodName := ⟨RX6, "nextByte", "()I"⟩
abbrev cX7_init : ByteArray := prog_1_method_1_code
def yX7_init : MethodName := ⟨RX7, "<init>", "()V"⟩
abbrev cX7_write : ByteArray := prog_1_method_2_code
def yX7_write : MethodName := ⟨RX7, "write", "(IJ)I"⟩
abbrev cX7_wipe : ByteArray := prog_1_method_3_code
def yX7_wipe : MethodName := ⟨RX7, "wipe", "()I"⟩
abbrev cX7_fault : ByteArray := prog_1_method_4_code
def yX7_fault : MethodName := ⟨RX7, "fault", "()I"⟩
abbrev cX7_lay : ByteArray := prog_1_method_5_code
def yX7_lay : MethodName := ⟨RX7, "lay", "()I"⟩
abbrev cX7_person : ByteArray := prog_1_method_6_code
def yX7_person : MethodName := ⟨RX7, "person", "(II)I"⟩
abbrev cX7_place : ByteArray := prog_1_method_7_code
def yX7_place : MethodName := ⟨RX7, "place", "(II)I"⟩
abbrev cX7_row : ByteArray := prog_1_method_8_code
def yX7_row : MethodName := ⟨RX7, "row", "(I)I"⟩
abbrev cX7_all : ByteArray := prog_1_method_9_code
def yX7_all : MethodName := ⟨RX7, "all", "(I)I"⟩
abbrev cX7_cry : ByteArray := prog_1_method_10_code
def yX7_cry : MethodName := ⟨RX7, "cry", "(II)I"⟩
abbrev cX7_suspect : ByteArray := prog_1_method_11_code
def yX7_suspect : MethodName := ⟨RX7, "suspect", "()I"⟩
abbrev cX7_tell : ByteArray := prog_1_method_12_code
def yX7_tell : MethodName := ⟨RX7, "tell", "(II)I"⟩
abbrev cX7_takeBack : ByteArray := prog_1_method_13_code
def yX7_takeBack : MethodName := ⟨RX7, "takeBack", "()I"⟩
abbrev cX7_hush : ByteArray := prog_1_method_14_code
def yX7_hush : MethodName := ⟨RX7, "hush", "(II)I"⟩
abbrev cX7_again : ByteArray := prog_1_method_15_code
def yX7_again : MethodName := ⟨RX7, "again", "(II)I"⟩
abbrev cX7_game : ByteArray := prog_1_method_16_code
def yX7_game : MethodName := ⟨RX7, "game", "(III)I"⟩
abbrev cX7_laws : ByteArray := prog_1_method_17_code
def yX7_laws : MethodName := ⟨RX7, "laws", "(I)I"⟩
abbrev cX7_mean : ByteArray := prog_1_method_18_code
def yX7_mean : MethodName := ⟨RX7, "mean", "(IIII)J"⟩
abbrev cX7_by : ByteArray := prog_1_method_19_code
def yX7_by : MethodName := ⟨RX7, "by", "(IIIII)J"⟩
abbrev cX7_best : ByteArray := prog_1_method_20_code
def yX7_best : MethodName := ⟨RX7, "best", "(III)I"⟩
abbrev cX7_name : ByteArray := prog_1_method_21_code
def yX7_name : MethodName := ⟨RX7, "name", "(II)I"⟩
abbrev cX7_noNames : ByteArray := prog_1_method_22_code
def yX7_noNames : MethodName := ⟨RX7, "noNames", "()I"⟩
abbrev cX7_fits : ByteArray := prog_1_method_23_code
def yX7_fits : MethodName := ⟨RX7, "fits", "(I)I"⟩
abbrev cX7_drawn : ByteArray := prog_1_method_24_code
def yX7_drawn : MethodName := ⟨RX7, "drawn", "(II)I"⟩
abbrev cX7_keep : ByteArray := prog_1_method_25_code
def yX7_keep : MethodName := ⟨RX7, "keep", "()I"⟩
abbrev cX7_back : ByteArray := prog_1_method_26_code
def yX7_back : MethodName := ⟨RX7, "back", "()I"⟩
abbrev cX7_count : ByteArray := prog_1_method_27_code
def yX7_count : MethodName := ⟨RX7, "count", "(I)I"⟩
abbrev cX7_isPerson : ByteArray := prog_1_method_28_code
def yX7_isPerson : MethodName := ⟨RX7, "isPerson", "(I)Z"⟩
abbrev cX7_isMinute : ByteArray := prog_1_method_29_code
def yX7_isMinute : MethodName := ⟨RX7, "isMinute", "(I)Z"⟩
abbrev cX7_areOdds : ByteArray := prog_1_method_30_code
def yX7_areOdds : MethodName := ⟨RX7, "areOdds", "(II)Z"⟩
abbrev cX7_runAsTold : ByteArray := prog_1_method_31_code
def yX7_runAsTold : MethodName := ⟨RX7, "runAsTold", "()V"⟩
abbrev cX8_init : ByteArray := prog_10_method_1_code
def yX8_init : MethodName := ⟨RX8, "<init>", "()V"⟩
abbrev cX8_in : ByteArray := prog_10_method_2_code
def yX8_in : MethodName := ⟨RX8, "in", "(JJJ)Z"⟩
abbrev cX8_has : ByteArray := prog_10_method_3_code
def yX8_has : MethodName := ⟨RX8, "has", "(II)Z"⟩
abbrev cX8_noMorning : ByteArray := prog_10_method_4_code
def yX8_noMorning : MethodName := ⟨RX8, "noMorning", "(I)V"⟩
abbrev cX8_write : ByteArray := prog_10_method_5_code
def yX8_write : MethodName := ⟨RX8, "write", "(IJ)I"⟩
abbrev cX8_wipe : ByteArray := prog_10_method_6_code
def yX8_wipe : MethodName := ⟨RX8, "wipe", "()I"⟩
abbrev cX8_byteAt : ByteArray := prog_10_method_7_code
def yX8_byteAt : MethodName := ⟨RX8, "byteAt", "(I)I"⟩
abbrev cX8_figures : ByteArray := prog_10_method_8_code
def yX8_figures : MethodName := ⟨RX8, "figures", "(I)Z"⟩
abbrev cX8_item : ByteArray := prog_10_method_9_code
def yX8_item : MethodName := ⟨RX8, "item", "()Z"⟩
abbrev cX8_readAll : ByteArray := prog_10_method_10_code
def yX8_readAll : MethodName := ⟨RX8, "readAll", "()I"⟩
abbrev cX8_fault : ByteArray := prog_10_method_11_code
def yX8_fault : MethodName := ⟨RX8, "fault", "()I"⟩
abbrev cX8_copyCries : ByteArray := prog_10_method_12_code
def yX8_copyCries : MethodName := ⟨RX8, "copyCries", "(II)V"⟩
abbrev cX8_lay : ByteArray := prog_10_method_13_code
def yX8_lay : MethodName := ⟨RX8, "lay", "()I"⟩
abbrev cX8_isPerson : ByteArray := prog_10_method_14_code
def yX8_isPerson : MethodName := ⟨RX8, "isPerson", "(I)Z"⟩
abbrev cX8_asItIs : ByteArray := prog_10_method_15_code
def yX8_asItIs : MethodName := ⟨RX8, "asItIs", "()V"⟩
abbrev cX8_isInLine : ByteArray := prog_10_method_16_code
def yX8_isInLine : MethodName := ⟨RX8, "isInLine", "(I)Z"⟩
abbrev cX8_takeOut : ByteArray := prog_10_method_17_code
def yX8_takeOut : MethodName := ⟨RX8, "takeOut", "(I)V"⟩
abbrev cX8_putIn : ByteArray := prog_10_method_18_code
def yX8_putIn : MethodName := ⟨RX8, "putIn", "(II)V"⟩
abbrev cX8_doesCry : ByteArray := prog_10_method_19_code
def yX8_doesCry : MethodName := ⟨RX8, "doesCry", "(I)Z"⟩
abbrev cX8_turnLine : ByteArray := prog_10_method_20_code
def yX8_turnLine : MethodName := ⟨RX8, "turnLine", "()V"⟩
abbrev cX8_end : ByteArray := prog_10_method_21_code
def yX8_end : MethodName := ⟨RX8, "end", "(III)V"⟩
abbrev cX8_go : ByteArray := prog_10_method_22_code
def yX8_go : MethodName := ⟨RX8, "go", "(I)V"⟩
abbrev cX8_goAsItIs : ByteArray := prog_10_method_23_code
def yX8_goAsItIs : MethodName := ⟨RX8, "goAsItIs", "()V"⟩
abbrev cX8_timeOf : ByteArray := prog_10_method_24_code
def yX8_timeOf : MethodName := ⟨RX8, "timeOf", "(I)I"⟩
abbrev cX8_unfair : ByteArray := prog_10_method_25_code
def yX8_unfair : MethodName := ⟨RX8, "unfair", "()I"⟩
abbrev cX8_howMany : ByteArray := prog_10_method_26_code
def yX8_howMany : MethodName := ⟨RX8, "howMany", "(I)I"⟩
abbrev cX8_person : ByteArray := prog_10_method_27_code
def yX8_person : MethodName := ⟨RX8, "person", "(II)I"⟩
abbrev cX8_place : ByteArray := prog_10_method_28_code
def yX8_place : MethodName := ⟨RX8, "place", "(II)I"⟩
abbrev cX8_row : ByteArray := prog_10_method_29_code
def yX8_row : MethodName := ⟨RX8, "row", "(I)I"⟩
abbrev cX8_all : ByteArray := prog_10_method_30_code
def yX8_all : MethodName := ⟨RX8, "all", "(I)I"⟩
abbrev cX8_gainedOf : ByteArray := prog_10_method_31_code
def yX8_gainedOf : MethodName := ⟨RX8, "gainedOf", "(I)I"⟩
abbrev cX8_cry : ByteArray := prog_10_method_32_code
def yX8_cry : MethodName := ⟨RX8, "cry", "(II)I"⟩
abbrev cX8_suspect : ByteArray := prog_10_method_33_code
def yX8_suspect : MethodName := ⟨RX8, "suspect", "()I"⟩
abbrev cX8_tell : ByteArray := prog_10_method_34_code
def yX8_tell : MethodName := ⟨RX8, "tell", "(II)I"⟩
abbrev cX8_takeBack : ByteArray := prog_10_method_35_code
def yX8_takeBack : MethodName := ⟨RX8, "takeBack", "()I"⟩
abbrev cX8_ones : ByteArray := prog_10_method_36_code
def yX8_ones : MethodName := ⟨RX8, "ones", "(I)I"⟩
abbrev cX8_hush : ByteArray := prog_10_method_37_code
def yX8_hush : MethodName := ⟨RX8, "hush", "(II)I"⟩
abbrev cX8_again : ByteArray := prog_10_method_38_code
def yX8_again : MethodName := ⟨RX8, "again", "(II)I"⟩
abbrev cX8_game : ByteArray := prog_10_method_39_code
def yX8_game : MethodName := ⟨RX8, "game", "(III)I"⟩
abbrev cX8_unfairBy : ByteArray := prog_10_method_40_code
def yX8_unfairBy : MethodName := ⟨RX8, "unfairBy", "(I)I"⟩
abbrev cX8_laws : ByteArray := prog_10_method_41_code
def yX8_laws : MethodName := ⟨RX8, "laws", "(I)I"⟩
abbrev cX8_tens : ByteArray := prog_10_method_42_code
def yX8_tens : MethodName := ⟨RX8, "tens", "(I)J"⟩
abbrev cX8_behindOf : ByteArray := prog_10_method_43_code
def yX8_behindOf : MethodName := ⟨RX8, "behindOf", "(III)J"⟩
abbrev cX8_layMeans : ByteArray := prog_10_method_44_code
def yX8_layMeans : MethodName := ⟨RX8, "layMeans", "(II)V"⟩
abbrev cX8_layBy : ByteArray := prog_10_method_45_code
def yX8_layBy : MethodName := ⟨RX8, "layBy", "(III)V"⟩
abbrev cX8_lowest : ByteArray := prog_10_method_46_code
def yX8_lowest : MethodName := ⟨RX8, "lowest", "(JJI)J"⟩
abbrev cX8_areOf : ByteArray := prog_10_method_47_code
def yX8_areOf : MethodName := ⟨RX8, "areOf", "(II)Z"⟩
abbrev cX8_mean : ByteArray := prog_10_method_48_code
def yX8_mean : MethodName := ⟨RX8, "mean", "(IIII)J"⟩
abbrev cX8_by : ByteArray := prog_10_method_49_code
def yX8_by : MethodName := ⟨RX8, "by", "(IIIII)J"⟩
abbrev cX8_best : ByteArray := prog_10_method_50_code
def yX8_best : MethodName := ⟨RX8, "best", "(III)I"⟩
abbrev cX8_name : ByteArray := prog_10_method_51_code
def yX8_name : MethodName := ⟨RX8, "name", "(II)I"⟩
abbrev cX8_noNames : ByteArray := prog_10_method_52_code
def yX8_noNames : MethodName := ⟨RX8, "noNames", "()I"⟩
abbrev cX8_isFit : ByteArray := prog_10_method_53_code
def yX8_isFit : MethodName := ⟨RX8, "isFit", "(I)Z"⟩
abbrev cX8_fits : ByteArray := prog_10_method_54_code
def yX8_fits : MethodName := ⟨RX8, "fits", "(I)I"⟩
abbrev cX8_drawn : ByteArray := prog_10_method_55_code
def yX8_drawn : MethodName := ⟨RX8, "drawn", "(II)I"⟩
abbrev cX8_keep : ByteArray := prog_10_method_56_code
def yX8_keep : MethodName := ⟨RX8, "keep", "()I"⟩
abbrev cX8_back : ByteArray := prog_10_method_57_code
def yX8_back : MethodName := ⟨RX8, "back", "()I"⟩
abbrev cX8_count : ByteArray := prog_10_method_58_code
def yX8_count : MethodName := ⟨RX8, "count", "(I)I"⟩
abbrev cJ6_bitCount_0f7a4 : ByteArray := prog_11_method_49_code
def yJ6_bitCount_0f7a4 : MethodName := ⟨RJ6, "bitCount", "(I)I"⟩
abbrev cJ9_min_7cf53 : ByteArray := prog_12_method_69_code
def yJ9_min_7cf53 : MethodName := ⟨RJ9, "min", "(II)I"⟩
abbrev cL_law : ByteArray := code
end
section
def zlay : List (((Nat × List (Option (Option Nat))) ⊕ ((Nat × Nat) ⊕ List Nat))) := [
  .inl (7, [some (some 1), some (some 4), some (some 5), some (some 23), some (some 27), some (some 30), none, some none, some none, none]),
  .inl (6, [some (some 2), some (some 3), none, none]),
  .inr (.inl (1, 300)),
  .inr (.inl (0, 3)),
  .inl (5, [some (some 5), some (some 21), some (some 22), none, none, none, none, none]),
  .inl (1, [some (some 6), some (some 7), some (some 8), some (some 9), some (some 10), some (some 11), some none, none, none, none, none, none, none, none, none, none]),
  .inr (.inl (0, 10)),
  .inr (.inl (0, 10)),
  .inr (.inl (3, 10)),
  .inr (.inl (0, 10)),
  .inr (.inl (0, 2)),
  .inr (.inl (0, 2)),
  .inl (4, [some (some 13), some (some 14), some (some 15), some (some 16), some (some 17), none, none, none, none, none, none]),
  .inr (.inl (0, 10)),
  .inr (.inl (0, 10)),
  .inr (.inl (0, 10)),
  .inr (.inl (0, 10)),
  .inl (0, [some (some 18), some (some 19), some (some 20), none]),
  .inr (.inl (0, 8)),
  .inr (.inl (0, 8)),
  .inr (.inl (0, 100)),
  .inr (.inl (0, 144)),
  .inr (.inl (0, 144)),
  .inl (3, [some (some 24), some (some 25), some (some 26)]),
  .inr (.inl (2, 9)),
  .inr (.inl (2, 9)),
  .inr (.inl (2, 9)),
  .inl (2, [some (some 28), some (some 29), none, none, none, none]),
  .inr (.inl (0, 9)),
  .inr (.inl (0, 9)),
  .inr (.inr [31, 35]),
  .inl (0, [some (some 32), some (some 33), some (some 34), none]),
  .inr (.inl (0, 8)),
  .inr (.inl (0, 8)),
  .inr (.inl (0, 100)),
  .inl (0, [some (some 36), some (some 37), some (some 38), none]),
  .inr (.inl (0, 8)),
  .inr (.inl (0, 8)),
  .inr (.inl (0, 100)),
  .inl (4, [some (some 40), some (some 41), some (some 42), some (some 43), some (some 44), none, none, none, none, none, none]),
  .inr (.inl (0, 10)),
  .inr (.inl (0, 10)),
  .inr (.inl (0, 10)),
  .inr (.inl (0, 10)),
  .inl (0, [some (some 45), some (some 46), some (some 47), none]),
  .inr (.inl (0, 8)),
  .inr (.inl (0, 8)),
  .inr (.inl (0, 100)),
  .inl (4, [some (some 49), some (some 50), some (some 51), some (some 52), some (some 53), none, none, none, none, none, none]),
  .inr (.inl (0, 10)),
  .inr (.inl (0, 10)),
  .inr (.inl (0, 10)),
  .inr (.inl (0, 10)),
  .inl (0, [some (some 54), some (some 55), some (some 56), none]),
  .inr (.inl (0, 8)),
  .inr (.inl (0, 8)),
  .inr (.inl (0, 100)),
  .inl (8, [none, some (some 58), some (some 59), some (some 60), some (some 61), some (some 62), some (some 63), some (some 64), some (some 65), some (some 66), some (some 67), some (some 68), some (some 69), some (some 70), none, none, some (some 71), some (some 72), none, some (some 73), none, none, none, none, none, none, none, some (some 74), none, some (some 75), some (some 76), none, some (some 77), some (some 78), some (some 79)]),
  .inr (.inl (0, 300)),
  .inr (.inl (0, 2)),
  .inr (.inl (0, 20)),
  .inr (.inl (0, 20)),
  .inr (.inl (0, 20)),
  .inr (.inl (0, 2)),
  .inr (.inl (0, 2)),
  .inr (.inl (0, 2)),
  .inr (.inl (0, 2)),
  .inr (.inl (0, 2)),
  .inr (.inl (0, 4)),
  .inr (.inl (0, 32)),
  .inr (.inl (0, 32)),
  .inr (.inl (0, 2)),
  .inr (.inl (0, 18)),
  .inr (.inl (0, 3)),
  .inr (.inl (0, 10)),
  .inr (.inl (0, 10)),
  .inr (.inl (0, 10)),
  .inr (.inl (0, 144)),
  .inr (.inl (0, 144)),
  .inr (.inl (2, 100))]
/-! ===== the pure machine: memory, world, states ===== -/
abbrev zM : Type := Nat → Int → Int
def zup (σ : zM) (c : Nat) (i v : Int) : zM := fun c' i' => if c' = c ∧ i' = i then v else σ c' i'
def zi (a : Int) : Value := .int (Int32.ofInt a)
def zl (a : Int) : Value := .long (Int64.ofInt a)
abbrev zW : Type := va_G × (Nat → ClassId) × (Nat → Nat)
def zr (w : zW) (c : Nat) : Value := .ref (w.2.2 c)
abbrev zF : Type := Option (Option Nat)
abbrev zL : Type := (Nat × List zF) ⊕ ((Nat × Nat) ⊕ List Nat)
def zfv (w : zW) (σ : zM) (c j : Nat) (f : zF) : Value := match f with
  | none => zi (σ c j)
  | some none => zr w (σ c j).toNat
  | some (some d) => zr w d
def zfvs (w : zW) (σ : zM) (c : Nat) : Nat → List zF → List Value
  | _, [] => []
  | j, f :: t => zfv w σ c j f :: zfvs w σ c (j + 1) t
def zce (w : zW) (σ : zM) (c : Nat) (e : zL) : va_E := match e with
  | .inl (ci, fs) => .inr (ci, zfvs w σ c 0 fs)
  | .inr (.inl (ty, n)) => if ty = 2 then .inl (w.2.1 2, n, .inr (.inl (fun j => Int64.ofInt (σ c j)))) else .inl (w.2.1 ty, n, .inl (fun j => Int32.ofInt (σ c j)))
  | .inr (.inr ids) => .inl (w.2.1 4, ids.length, .inr (.inr (.inr (.inr (fun j => (ids[j]?).map w.2.2)))))
def zws (w : zW) (σ : zM) : Nat → List zL → va_W
  | _, [] => []
  | c, e :: t => (w.2.2 c, zce w σ c e) :: zws w σ (c + 1) t
def zwl (w : zW) (σ : zM) : va_W := zws w σ 0 zlay
theorem zfvs_at (w : zW) (σ : zM) (c : Nat) : ∀ (fs : List zF) (j k : Nat) (f : zF), fs[k]? = some f → (zfvs w σ c j fs)[k]? = some (zfv w σ c (j + k) f)
  | [], j, k, f, h => by simp at h
  | g :: t, j, 0, f, h => by simp at h; subst h; rfl
  | g :: t, j, k + 1, f, h => by
    simp only [List.getElem?_cons_succ] at h
    have := zfvs_at w σ c t (j + 1) k f h
    simp only [zfvs, List.getElem?_cons_succ]
    rw [this, show j + 1 + k = j + (k + 1) by omega]
theorem zfvs_len (w : zW) (σ : zM) (c : Nat) : ∀ (fs : List zF) (j : Nat), (zfvs w σ c j fs).length = fs.length
  | [], _ => rfl
  | _ :: t, j => by simp [zfvs, zfvs_len w σ c t (j + 1)]
theorem zfvs_congr (w : zW) (σ τ : zM) (c : Nat) (h : ∀ i, τ c i = σ c i) : ∀ (fs : List zF) (j : Nat), zfvs w τ c j fs = zfvs w σ c j fs
  | [], _ => rfl
  | f :: t, j => by
    simp only [zfvs, zfvs_congr w σ τ c h t (j + 1)]
    congr 1
    unfold zfv
    split <;> simp [h]
theorem zce_congr (w : zW) (σ τ : zM) (c : Nat) (e : zL) (h : ∀ i, τ c i = σ c i) : zce w τ c e = zce w σ c e := by
  unfold zce
  split
  · rw [zfvs_congr w σ τ c h]
  · simp [h]
  · rfl
theorem zws_at (w : zW) (σ : zM) : ∀ (L : List zL) (c0 c : Nat) (e : zL), L[c]? = some e → (zws w σ c0 L)[c]? = some (w.2.2 (c0 + c), zce w σ (c0 + c) e)
  | [], c0, c, e, h => by simp at h
  | g :: t, c0, 0, e, h => by simp at h; subst h; rfl
  | g :: t, c0, c + 1, e, h => by
    simp only [List.getElem?_cons_succ] at h
    have := zws_at w σ t (c0 + 1) c e h
    simp only [zws, List.getElem?_cons_succ]
    rw [this]; simp [Nat.add_assoc, Nat.add_comm 1 c]
theorem zws_same (w : zW) (σ τ : zM) : ∀ (L : List zL) (c0 : Nat), (∀ c, c0 ≤ c → ∀ i, τ c i = σ c i) → zws w τ c0 L = zws w σ c0 L
  | [], _, _ => rfl
  | e :: t, c0, h => by
    simp only [zws, zws_same w σ τ t (c0 + 1) (fun c hc => h c (by omega)), zce_congr w σ τ c0 e (h c0 (Nat.le_refl _))]
theorem zws_set (w : zW) (σ τ : zM) : ∀ (L : List zL) (c0 c : Nat) (e : zL), L[c]? = some e → (∀ c', c' ≠ c0 + c → ∀ i, τ c' i = σ c' i) → zws w τ c0 L = (zws w σ c0 L).set c (w.2.2 (c0 + c), zce w τ (c0 + c) e)
  | [], c0, c, e, h, _ => by simp at h
  | g :: t, c0, 0, e, h, hs => by
    simp at h; subst h
    simp only [zws, List.set_cons_zero, Nat.add_zero]
    rw [zws_same w σ τ t (c0 + 1) (fun c hc => hs c (by omega))]
  | g :: t, c0, c + 1, e, h, hs => by
    simp only [List.getElem?_cons_succ] at h
    simp only [zws, List.set_cons_succ]
    rw [zws_set w σ τ t (c0 + 1) c e h (fun c' hc => hs c' (by omega)), zce_congr w σ τ c0 g (hs c0 (by omega)), show c0 + 1 + c = c0 + (c + 1) by omega]
theorem zwl_at (w : zW) (σ : zM) {c : Nat} {e : zL} (h : zlay[c]? = some e) : (zwl w σ)[c]? = some (w.2.2 c, zce w σ c e) := by
  have := zws_at w σ zlay 0 c e h
  rwa [Nat.zero_add] at this
theorem zwl_set (w : zW) (σ τ : zM) {c : Nat} {e : zL} (h : zlay[c]? = some e) (hs : ∀ c', c' ≠ c → ∀ i, τ c' i = σ c' i) : (zwl w σ).set c (w.2.2 c, zce w τ c e) = zwl w τ := by
  have := zws_set w σ τ zlay 0 c e h (fun c' hc => hs c' (by omega))
  rw [Nat.zero_add] at this
  exact this.symm
theorem zup_c {σ : zM} {c : Nat} {i v : Int} : ∀ c', c' ≠ c → ∀ j, zup σ c i v c' j = σ c' j := fun c' h j => by simp [zup, h]
theorem zup_eq (σ : zM) (c : Nat) (i v : Int) : zup σ c i v c i = v := by simp [zup]
theorem zup_ne {σ : zM} {c c' : Nat} {i v j : Int} (h : c' ≠ c) : zup σ c i v c' j = σ c' j := by simp [zup, h]
theorem zup_nei {σ : zM} {c c' : Nat} {i v j : Int} (h : j ≠ i) : zup σ c i v c' j = σ c' j := by simp [zup, h]
theorem zup_eqi {σ : zM} {c : Nat} {i v j : Int} (h : j = i) : zup σ c i v c j = v := by simp [zup, h]
/-! numbers -/
theorem z32 {a : Int} (h : -2147483648 ≤ a ∧ a ≤ 2147483647) : (Int32.ofInt a).toInt = a := Int32.toInt_ofInt_of_le (by omega) (by omega)
theorem z64 {a : Int} (h : -9223372036854775808 ≤ a ∧ a ≤ 9223372036854775807) : (Int64.ofInt a).toInt = a := Int64.toInt_ofInt_of_le (by omega) (by omega)
theorem z32_lt {a b : Int} (ha : -2147483648 ≤ a ∧ a ≤ 2147483647) (hb : -2147483648 ≤ b ∧ b ≤ 2147483647) : Int32.ofInt a < Int32.ofInt b ↔ a < b := by
  rw [Int32.lt_iff_toInt_lt, z32 ha, z32 hb]
theorem z32_le {a b : Int} (ha : -2147483648 ≤ a ∧ a ≤ 2147483647) (hb : -2147483648 ≤ b ∧ b ≤ 2147483647) : Int32.ofInt a ≤ Int32.ofInt b ↔ a ≤ b := by
  rw [Int32.le_iff_toInt_le, z32 ha, z32 hb]
theorem z32_eq {a b : Int} (ha : -2147483648 ≤ a ∧ a ≤ 2147483647) (hb : -2147483648 ≤ b ∧ b ≤ 2147483647) : Int32.ofInt a = Int32.ofInt b ↔ a = b := by
  rw [← Int32.toInt_inj, z32 ha, z32 hb]
theorem z64_lt {a b : Int} (ha : -9223372036854775808 ≤ a ∧ a ≤ 9223372036854775807) (hb : -9223372036854775808 ≤ b ∧ b ≤ 9223372036854775807) : Int64.ofInt a < Int64.ofInt b ↔ a < b := by
  rw [Int64.lt_iff_toInt_lt, z64 ha, z64 hb]
theorem z64_eq {a b : Int} (ha : -9223372036854775808 ≤ a ∧ a ≤ 9223372036854775807) (hb : -9223372036854775808 ≤ b ∧ b ≤ 9223372036854775807) : Int64.ofInt a = Int64.ofInt b ↔ a = b := by
  rw [← Int64.toInt_inj, z64 ha, z64 hb]
theorem z32_0 : (0 : Int32) = Int32.ofInt 0 := by decide
theorem z32_all (x : Int32) : Int32.ofInt x.toInt = x := Int32.ofInt_toInt x
theorem z32_rg (x : Int32) : -2147483648 ≤ x.toInt ∧ x.toInt ≤ 2147483647 := by
  have h1 := Int32.le_toInt x
  have h2 := Int32.toInt_lt x
  omega
theorem z64_rg (x : Int64) : -9223372036854775808 ≤ x.toInt ∧ x.toInt ≤ 9223372036854775807 := by
  have h1 := Int64.le_toInt x
  have h2 := Int64.toInt_lt x
  omega
/-- the bit operations on ints, as numbers -/
def zand (a b : Int) : Int := (Int32.ofInt a &&& Int32.ofInt b).toInt
def zor (a b : Int) : Int := (Int32.ofInt a ||| Int32.ofInt b).toInt
def zxor (a b : Int) : Int := (Int32.ofInt a ^^^ Int32.ofInt b).toInt
def zshl (a b : Int) : Int := (Int32.ofInt a <<< (Int32.ofInt b &&& 31)).toInt
def zshr (a b : Int) : Int := (Int32.ofInt a >>> (Int32.ofInt b &&& 31)).toInt
def zushr (a b : Int) : Int := ((Int32.ofInt a).toUInt32 >>> ((Int32.ofInt b).toUInt32 &&& Int32.toUInt32 31)).toInt32.toInt
def zlushr (a b : Int) : Int := ((Int64.ofInt a).toUInt64 >>> ((Int32.ofInt b).toInt64.toUInt64 &&& Int64.toUInt64 63)).toInt64.toInt
def zlshl (a b : Int) : Int := (Int64.ofInt a <<< ((Int32.ofInt b).toInt64 &&& 63)).toInt
def zlshr (a b : Int) : Int := (Int64.ofInt a >>> ((Int32.ofInt b).toInt64 &&& 63)).toInt
def zland (a b : Int) : Int := (Int64.ofInt a &&& Int64.ofInt b).toInt
def zlor (a b : Int) : Int := (Int64.ofInt a ||| Int64.ofInt b).toInt
def zi2b (a : Int) : Int := (Int32.ofInt a).toInt8.toInt32.toInt
def zl2i (a : Int) : Int := (Int64.ofInt a).toInt32.toInt
def zcmp (a b : Int) : Int := if b < a then 1 else if a = b then 0 else -1
/-! locals -/
def zas : Nat → List (Option Value) → List (Nat × Value)
  | _, [] => []
  | i, none :: t => zas (i + 1) t
  | i, some v :: t => (i, v) :: zas (i + 1) t
def zlok (nL : Nat) (arr : Array Slot) (ls : List (Option Value)) : Prop := lv_has arr nL (zas 0 ls)
def zg : List (Option Value) → Nat → Option Value
  | [], _ => none
  | x :: _, 0 => x
  | _ :: t, i + 1 => zg t i
theorem zas_mem : ∀ (ls : List (Option Value)) (i0 : Nat) (q : Nat × Value), q ∈ zas i0 ls ↔ i0 ≤ q.1 ∧ zg ls (q.1 - i0) = some q.2
  | [], i0, q => by simp [zas, zg]
  | none :: t, i0, q => by
    rw [zas, zas_mem t (i0 + 1) q]
    by_cases h : q.1 ≤ i0
    · by_cases h2 : q.1 = i0
      · rw [h2]; simp only [Nat.sub_self, zg]; constructor
        · intro h3; omega
        · rintro ⟨-, h3⟩; cases h3
      · constructor <;> intro h3 <;> omega
    · have : q.1 - i0 = (q.1 - (i0 + 1)) + 1 := by omega
      rw [this, zg]
      constructor <;> rintro ⟨h1, h2⟩ <;> exact ⟨by omega, h2⟩
  | some v :: t, i0, q => by
    rw [zas, List.mem_cons, zas_mem t (i0 + 1) q]
    by_cases h : q.1 ≤ i0
    · by_cases h2 : q.1 = i0
      · obtain ⟨q1, q2⟩ := q
        simp only at h2
        subst h2
        simp only [Prod.mk.injEq, true_and, Nat.sub_self, zg, Option.some.injEq]
        constructor
        · rintro (h3 | h3)
          · exact ⟨Nat.le_refl _, h3.symm⟩
          · omega
        · rintro ⟨-, h3⟩; exact Or.inl h3.symm
      · constructor
        · rintro (h3 | h3)
          · rw [h3] at h2; exact absurd rfl h2
          · omega
        · intro h3; omega
    · have e : q.1 - i0 = (q.1 - (i0 + 1)) + 1 := by omega
      rw [e, zg]
      constructor
      · rintro (h3 | h3)
        · rw [h3] at h; simp at h
        · exact ⟨by omega, h3.2⟩
      · rintro ⟨h1, h2⟩; exact Or.inr ⟨by omega, h2⟩
theorem zlok_at {nL : Nat} {arr : Array Slot} {ls : List (Option Value)} (h : zlok nL arr ls) {i : Nat} {v : Value} (hg : zg ls i = some v) : arr[i]? = some (.val v) :=
  h.2.2 (i, v) ((zas_mem ls 0 (i, v)).mpr ⟨Nat.zero_le _, hg⟩)
theorem zlok_mono {nL : Nat} {arr : Array Slot} {l : List (Nat × Value)} {ls : List (Option Value)} (h : lv_has arr nL l) (hs : ∀ i v, zg ls i = some v → (i, v) ∈ l) : zlok nL arr ls :=
  ⟨h.1, h.2.1, fun q hq => h.2.2 q (hs q.1 q.2 ((zas_mem ls 0 q).mp hq).2)⟩
/-- a list of locals behind a store: place i holds v, a long before it is gone -/
def zst1 (ls : List (Option Value)) (i : Nat) (v : Value) (ls' : List (Option Value)) : Prop := ∀ j u, zg ls' j = some u → (j = i ∧ u = v) ∨ (j ≠ i ∧ zg ls j = some u ∧ ¬ (j + 1 = i ∧ u.category = 2))
def zst2 (ls : List (Option Value)) (i : Nat) (v : Value) (ls' : List (Option Value)) : Prop := ∀ j u, zg ls' j = some u → (j = i ∧ u = v) ∨ (j ≠ i ∧ j ≠ i + 1 ∧ zg ls j = some u ∧ ¬ (j + 1 = i ∧ u.category = 2))
theorem zlok_st1 {nL i : Nat} {arr : Array Slot} {ls ls' : List (Option Value)} {v : Value} (h : lv_has arr nL ((i, v) :: (zas 0 ls).filter (fun q => !(q.1 == i) && !(q.1 + 1 == i && q.2.category == 2)))) (hs : zst1 ls i v ls') : zlok nL arr ls' := by
  refine zlok_mono h fun j u hu => ?_
  rcases hs j u hu with ⟨rfl, rfl⟩ | ⟨h1, h2, h3⟩
  · exact List.mem_cons_self
  · refine List.mem_cons_of_mem _ (List.mem_filter.mpr ⟨(zas_mem ls 0 (j, u)).mpr ⟨Nat.zero_le _, h2⟩, ?_⟩)
    simp only [Bool.and_eq_true, Bool.not_eq_true', beq_eq_false_iff_ne, ne_eq, Bool.and_eq_false_iff]
    refine ⟨h1, ?_⟩
    by_cases h4 : j + 1 = i
    · exact Or.inr (fun h5 => h3 ⟨h4, h5⟩)
    · exact Or.inl h4
theorem zlok_st2 {nL i : Nat} {arr : Array Slot} {ls ls' : List (Option Value)} {v : Value} (h : lv_has arr nL ((i, v) :: (zas 0 ls).filter (fun q => !(q.1 == i) && (!(q.1 == i + 1) && !(q.1 + 1 == i && q.2.category == 2))))) (hs : zst2 ls i v ls') : zlok nL arr ls' := by
  refine zlok_mono h fun j u hu => ?_
  rcases hs j u hu with ⟨rfl, rfl⟩ | ⟨h1, h1', h2, h3⟩
  · exact List.mem_cons_self
  · refine List.mem_cons_of_mem _ (List.mem_filter.mpr ⟨(zas_mem ls 0 (j, u)).mpr ⟨Nat.zero_le _, h2⟩, ?_⟩)
    simp only [Bool.and_eq_true, Bool.not_eq_true', beq_eq_false_iff_ne, ne_eq, Bool.and_eq_false_iff]
    refine ⟨h1, h1', ?_⟩
    by_cases h4 : j + 1 = i
    · exact Or.inr (fun h5 => h3 ⟨h4, h5⟩)
    · exact Or.inl h4
/-- no long stands there -/
def zc1 (o : Option Value) : Bool := match o with
  | some (.long _) => false
  | some (.double _) => false
  | _ => true
theorem zst1_0 {a0 : Option Value} {t : List (Option Value)} {v : Value} : zst1 (a0 :: t) 0 v (some v :: t) := by
  intro j u hu
  rcases j with _ | j
  · have hu : some v = some u := hu
    exact Or.inl ⟨by omega, (Option.some.inj hu).symm⟩
  · exact Or.inr ⟨by omega, hu, fun h => by omega⟩
theorem zst1_1 {a0 a1 : Option Value} {t : List (Option Value)} {v : Value} (hc : zc1 a0 = true) : zst1 (a0 :: a1 :: t) 1 v (a0 :: some v :: t) := by
  intro j u hu
  rcases j with _ | j
  · refine Or.inr ⟨by omega, hu, fun h => ?_⟩
    have hu : a0 = some u := hu
    subst hu
    cases u <;> simp_all [zc1, Value.category]
  rcases j with _ | j
  · have hu : some v = some u := hu
    exact Or.inl ⟨by omega, (Option.some.inj hu).symm⟩
  · exact Or.inr ⟨by omega, hu, fun h => by omega⟩
theorem zst1_2 {a0 a1 a2 : Option Value} {t : List (Option Value)} {v : Value} (hc : zc1 a1 = true) : zst1 (a0 :: a1 :: a2 :: t) 2 v (a0 :: a1 :: some v :: t) := by
  intro j u hu
  rcases j with _ | j
  · exact Or.inr ⟨by omega, hu, fun h => by omega⟩
  rcases j with _ | j
  · refine Or.inr ⟨by omega, hu, fun h => ?_⟩
    have hu : a1 = some u := hu
    subst hu
    cases u <;> simp_all [zc1, Value.category]
  rcases j with _ | j
  · have hu : some v = some u := hu
    exact Or.inl ⟨by omega, (Option.some.inj hu).symm⟩
  · exact Or.inr ⟨by omega, hu, fun h => by omega⟩
theorem zst1_3 {a0 a1 a2 a3 : Option Value} {t : List (Option Value)} {v : Value} (hc : zc1 a2 = true) : zst1 (a0 :: a1 :: a2 :: a3 :: t) 3 v (a0 :: a1 :: a2 :: some v :: t) := by
  intro j u hu
  rcases j with _ | j
  · exact Or.inr ⟨by omega, hu, fun h => by omega⟩
  rcases j with _ | j
  · exact Or.inr ⟨by omega, hu, fun h => by omega⟩
  rcases j with _ | j
  · refine Or.inr ⟨by omega, hu, fun h => ?_⟩
    have hu : a2 = some u := hu
    subst hu
    cases u <;> simp_all [zc1, Value.category]
  rcases j with _ | j
  · have hu : some v = some u := hu
    exact Or.inl ⟨by omega, (Option.some.inj hu).symm⟩
  · exact Or.inr ⟨by omega, hu, fun h => by omega⟩
theorem zst1_4 {a0 a1 a2 a3 a4 : Option Value} {t : List (Option Value)} {v : Value} (hc : zc1 a3 = true) : zst1 (a0 :: a1 :: a2 :: a3 :: a4 :: t) 4 v (a0 :: a1 :: a2 :: a3 :: some v :: t) := by
  intro j u hu
  rcases j with _ | j
  · exact Or.inr ⟨by omega, hu, fun h => by omega⟩
  rcases j with _ | j
  · exact Or.inr ⟨by omega, hu, fun h => by omega⟩
  rcases j with _ | j
  · exact Or.inr ⟨by omega, hu, fun h => by omega⟩
  rcases j with _ | j
  · refine Or.inr ⟨by omega, hu, fun h => ?_⟩
    have hu : a3 = some u := hu
    subst hu
    cases u <;> simp_all [zc1, Value.category]
  rcases j with _ | j
  · have hu : some v = some u := hu
    exact Or.inl ⟨by omega, (Option.some.inj hu).symm⟩
  · exact Or.inr ⟨by omega, hu, fun h => by omega⟩
theorem zst1_5 {a0 a1 a2 a3 a4 a5 : Option Value} {t : List (Option Value)} {v : Value} (hc : zc1 a4 = true) : zst1 (a0 :: a1 :: a2 :: a3 :: a4 :: a5 :: t) 5 v (a0 :: a1 :: a2 :: a3 :: a4 :: some v :: t) := by
  intro j u hu
  rcases j with _ | j
  · exact Or.inr ⟨by omega, hu, fun h => by omega⟩
  rcases j with _ | j
  · exact Or.inr ⟨by omega, hu, fun h => by omega⟩
  rcases j with _ | j
  · exact Or.inr ⟨by omega, hu, fun h => by omega⟩
  rcases j with _ | j
  · exact Or.inr ⟨by omega, hu, fun h => by omega⟩
  rcases j with _ | j
  · refine Or.inr ⟨by omega, hu, fun h => ?_⟩
    have hu : a4 = some u := hu
    subst hu
    cases u <;> simp_all [zc1, Value.category]
  rcases j with _ | j
  · have hu : some v = some u := hu
    exact Or.inl ⟨by omega, (Option.some.inj hu).symm⟩
  · exact Or.inr ⟨by omega, hu, fun h => by omega⟩
theorem zst1_6 {a0 a1 a2 a3 a4 a5 a6 : Option Value} {t : List (Option Value)} {v : Value} (hc : zc1 a5 = true) : zst1 (a0 :: a1 :: a2 :: a3 :: a4 :: a5 :: a6 :: t) 6 v (a0 :: a1 :: a2 :: a3 :: a4 :: a5 :: some v :: t) := by
  intro j u hu
  rcases j with _ | j
  · exact Or.inr ⟨by omega, hu, fun h => by omega⟩
  rcases j with _ | j
  · exact Or.inr ⟨by omega, hu, fun h => by omega⟩
  rcases j with _ | j
  · exact Or.inr ⟨by omega, hu, fun h => by omega⟩
  rcases j with _ | j
  · exact Or.inr ⟨by omega, hu, fun h => by omega⟩
  rcases j with _ | j
  · exact Or.inr ⟨by omega, hu, fun h => by omega⟩
  rcases j with _ | j
  · refine Or.inr ⟨by omega, hu, fun h => ?_⟩
    have hu : a5 = some u := hu
    subst hu
    cases u <;> simp_all [zc1, Value.category]
  rcases j with _ | j
  · have hu : some v = some u := hu
    exact Or.inl ⟨by omega, (Option.some.inj hu).symm⟩
  · exact Or.inr ⟨by omega, hu, fun h => by omega⟩
theorem zst1_7 {a0 a1 a2 a3 a4 a5 a6 a7 : Option Value} {t : List (Option Value)} {v : Value} (hc : zc1 a6 = true) : zst1 (a0 :: a1 :: a2 :: a3 :: a4 :: a5 :: a6 :: a7 :: t) 7 v (a0 :: a1 :: a2 :: a3 :: a4 :: a5 :: a6 :: some v :: t) := by
  intro j u hu
  rcases j with _ | j
  · exact Or.inr ⟨by omega, hu, fun h => by omega⟩
  rcases j with _ | j
  · exact Or.inr ⟨by omega, hu, fun h => by omega⟩
  rcases j with _ | j
  · exact Or.inr ⟨by omega, hu, fun h => by omega⟩
  rcases j with _ | j
  · exact Or.inr ⟨by omega, hu, fun h => by omega⟩
  rcases j with _ | j
  · exact Or.inr ⟨by omega, hu, fun h => by omega⟩
  rcases j with _ | j
  · exact Or.inr ⟨by omega, hu, fun h => by omega⟩
  rcases j with _ | j
  · refine Or.inr ⟨by omega, hu, fun h => ?_⟩
    have hu : a6 = some u := hu
    subst hu
    cases u <;> simp_all [zc1, Value.category]
  rcases j with _ | j
  · have hu : some v = some u := hu
    exact Or.inl ⟨by omega, (Option.some.inj hu).symm⟩
  · exact Or.inr ⟨by omega, hu, fun h => by omega⟩
theorem zst1_8 {a0 a1 a2 a3 a4 a5 a6 a7 a8 : Option Value} {t : List (Option Value)} {v : Value} (hc : zc1 a7 = true) : zst1 (a0 :: a1 :: a2 :: a3 :: a4 :: a5 :: a6 :: a7 :: a8 :: t) 8 v (a0 :: a1 :: a2 :: a3 :: a4 :: a5 :: a6 :: a7 :: some v :: t) := by
  intro j u hu
  rcases j with _ | j
  · exact Or.inr ⟨by omega, hu, fun h => by omega⟩
  rcases j with _ | j
  · exact Or.inr ⟨by omega, hu, fun h => by omega⟩
  rcases j with _ | j
  · exact Or.inr ⟨by omega, hu, fun h => by omega⟩
  rcases j with _ | j
  · exact Or.inr ⟨by omega, hu, fun h => by omega⟩
  rcases j with _ | j
  · exact Or.inr ⟨by omega, hu, fun h => by omega⟩
  rcases j with _ | j
  · exact Or.inr ⟨by omega, hu, fun h => by omega⟩
  rcases j with _ | j
  · exact Or.inr ⟨by omega, hu, fun h => by omega⟩
  rcases j with _ | j
  · refine Or.inr ⟨by omega, hu, fun h => ?_⟩
    have hu : a7 = some u := hu
    subst hu
    cases u <;> simp_all [zc1, Value.category]
  rcases j with _ | j
  · have hu : some v = some u := hu
    exact Or.inl ⟨by omega, (Option.some.inj hu).symm⟩
  · exact Or.inr ⟨by omega, hu, fun h => by omega⟩
theorem zst1_9 {a0 a1 a2 a3 a4 a5 a6 a7 a8 a9 : Option Value} {t : List (Option Value)} {v : Value} (hc : zc1 a8 = true) : zst1 (a0 :: a1 :: a2 :: a3 :: a4 :: a5 :: a6 :: a7 :: a8 :: a9 :: t) 9 v (a0 :: a1 :: a2 :: a3 :: a4 :: a5 :: a6 :: a7 :: a8 :: some v :: t) := by
  intro j u hu
  rcases j with _ | j
  · exact Or.inr ⟨by omega, hu, fun h => by omega⟩
  rcases j with _ | j
  · exact Or.inr ⟨by omega, hu, fun h => by omega⟩
  rcases j with _ | j
  · exact Or.inr ⟨by omega, hu, fun h => by omega⟩
  rcases j with _ | j
  · exact Or.inr ⟨by omega, hu, fun h => by omega⟩
  rcases j with _ | j
  · exact Or.inr ⟨by omega, hu, fun h => by omega⟩
  rcases j with _ | j
  · exact Or.inr ⟨by omega, hu, fun h => by omega⟩
  rcases j with _ | j
  · exact Or.inr ⟨by omega, hu, fun h => by omega⟩
  rcases j with _ | j
  · exact Or.inr ⟨by omega, hu, fun h => by omega⟩
  rcases j with _ | j
  · refine Or.inr ⟨by omega, hu, fun h => ?_⟩
    have hu : a8 = some u := hu
    subst hu
    cases u <;> simp_all [zc1, Value.category]
  rcases j with _ | j
  · have hu : some v = some u := hu
    exact Or.inl ⟨by omega, (Option.some.inj hu).symm⟩
  · exact Or.inr ⟨by omega, hu, fun h => by omega⟩
theorem zst1_10 {a0 a1 a2 a3 a4 a5 a6 a7 a8 a9 a10 : Option Value} {t : List (Option Value)} {v : Value} (hc : zc1 a9 = true) : zst1 (a0 :: a1 :: a2 :: a3 :: a4 :: a5 :: a6 :: a7 :: a8 :: a9 :: a10 :: t) 10 v (a0 :: a1 :: a2 :: a3 :: a4 :: a5 :: a6 :: a7 :: a8 :: a9 :: some v :: t) := by
  intro j u hu
  rcases j with _ | j
  · exact Or.inr ⟨by omega, hu, fun h => by omega⟩
  rcases j with _ | j
  · exact Or.inr ⟨by omega, hu, fun h => by omega⟩
  rcases j with _ | j
  · exact Or.inr ⟨by omega, hu, fun h => by omega⟩
  rcases j with _ | j
  · exact Or.inr ⟨by omega, hu, fun h => by omega⟩
  rcases j with _ | j
  · exact Or.inr ⟨by omega, hu, fun h => by omega⟩
  rcases j with _ | j
  · exact Or.inr ⟨by omega, hu, fun h => by omega⟩
  rcases j with _ | j
  · exact Or.inr ⟨by omega, hu, fun h => by omega⟩
  rcases j with _ | j
  · exact Or.inr ⟨by omega, hu, fun h => by omega⟩
  rcases j with _ | j
  · exact Or.inr ⟨by omega, hu, fun h => by omega⟩
  rcases j with _ | j
  · refine Or.inr ⟨by omega, hu, fun h => ?_⟩
    have hu : a9 = some u := hu
    subst hu
    cases u <;> simp_all [zc1, Value.category]
  rcases j with _ | j
  · have hu : some v = some u := hu
    exact Or.inl ⟨by omega, (Option.some.inj hu).symm⟩
  · exact Or.inr ⟨by omega, hu, fun h => by omega⟩
theorem zst1_11 {a0 a1 a2 a3 a4 a5 a6 a7 a8 a9 a10 a11 : Option Value} {t : List (Option Value)} {v : Value} (hc : zc1 a10 = true) : zst1 (a0 :: a1 :: a2 :: a3 :: a4 :: a5 :: a6 :: a7 :: a8 :: a9 :: a10 :: a11 :: t) 11 v (a0 :: a1 :: a2 :: a3 :: a4 :: a5 :: a6 :: a7 :: a8 :: a9 :: a10 :: some v :: t) := by
  intro j u hu
  rcases j with _ | j
  · exact Or.inr ⟨by omega, hu, fun h => by omega⟩
  rcases j with _ | j
  · exact Or.inr ⟨by omega, hu, fun h => by omega⟩
  rcases j with _ | j
  · exact Or.inr ⟨by omega, hu, fun h => by omega⟩
  rcases j with _ | j
  · exact Or.inr ⟨by omega, hu, fun h => by omega⟩
  rcases j with _ | j
  · exact Or.inr ⟨by omega, hu, fun h => by omega⟩
  rcases j with _ | j
  · exact Or.inr ⟨by omega, hu, fun h => by omega⟩
  rcases j with _ | j
  · exact Or.inr ⟨by omega, hu, fun h => by omega⟩
  rcases j with _ | j
  · exact Or.inr ⟨by omega, hu, fun h => by omega⟩
  rcases j with _ | j
  · exact Or.inr ⟨by omega, hu, fun h => by omega⟩
  rcases j with _ | j
  · exact Or.inr ⟨by omega, hu, fun h => by omega⟩
  rcases j with _ | j
  · refine Or.inr ⟨by omega, hu, fun h => ?_⟩
    have hu : a10 = some u := hu
    subst hu
    cases u <;> simp_all [zc1, Value.category]
  rcases j with _ | j
  · have hu : some v = some u := hu
    exact Or.inl ⟨by omega, (Option.some.inj hu).symm⟩
  · exact Or.inr ⟨by omega, hu, fun h => by omega⟩
theorem zst2_1 {a0 a1 a2 : Option Value} {t : List (Option Value)} {v : Value} (hc : zc1 a0 = true) : zst2 (a0 :: a1 :: a2 :: t) 1 v (a0 :: some v :: none :: t) := by
  intro j u hu
  rcases j with _ | j
  · refine Or.inr ⟨by omega, by omega, hu, fun h => ?_⟩
    have hu : a0 = some u := hu
    subst hu
    cases u <;> simp_all [zc1, Value.category]
  rcases j with _ | j
  · have hu : some v = some u := hu
    exact Or.inl ⟨by omega, (Option.some.inj hu).symm⟩
  rcases j with _ | j
  · have hu : (none : Option Value) = some u := hu
    cases hu
  · exact Or.inr ⟨by omega, by omega, hu, fun h => by omega⟩
theorem zst2_2 {a0 a1 a2 a3 : Option Value} {t : List (Option Value)} {v : Value} (hc : zc1 a1 = true) : zst2 (a0 :: a1 :: a2 :: a3 :: t) 2 v (a0 :: a1 :: some v :: none :: t) := by
  intro j u hu
  rcases j with _ | j
  · exact Or.inr ⟨by omega, by omega, hu, fun h => by omega⟩
  rcases j with _ | j
  · refine Or.inr ⟨by omega, by omega, hu, fun h => ?_⟩
    have hu : a1 = some u := hu
    subst hu
    cases u <;> simp_all [zc1, Value.category]
  rcases j with _ | j
  · have hu : some v = some u := hu
    exact Or.inl ⟨by omega, (Option.some.inj hu).symm⟩
  rcases j with _ | j
  · have hu : (none : Option Value) = some u := hu
    cases hu
  · exact Or.inr ⟨by omega, by omega, hu, fun h => by omega⟩
theorem zst2_3 {a0 a1 a2 a3 a4 : Option Value} {t : List (Option Value)} {v : Value} (hc : zc1 a2 = true) : zst2 (a0 :: a1 :: a2 :: a3 :: a4 :: t) 3 v (a0 :: a1 :: a2 :: some v :: none :: t) := by
  intro j u hu
  rcases j with _ | j
  · exact Or.inr ⟨by omega, by omega, hu, fun h => by omega⟩
  rcases j with _ | j
  · exact Or.inr ⟨by omega, by omega, hu, fun h => by omega⟩
  rcases j with _ | j
  · refine Or.inr ⟨by omega, by omega, hu, fun h => ?_⟩
    have hu : a2 = some u := hu
    subst hu
    cases u <;> simp_all [zc1, Value.category]
  rcases j with _ | j
  · have hu : some v = some u := hu
    exact Or.inl ⟨by omega, (Option.some.inj hu).symm⟩
  rcases j with _ | j
  · have hu : (none : Option Value) = some u := hu
    cases hu
  · exact Or.inr ⟨by omega, by omega, hu, fun h => by omega⟩
theorem zst2_4 {a0 a1 a2 a3 a4 a5 : Option Value} {t : List (Option Value)} {v : Value} (hc : zc1 a3 = true) : zst2 (a0 :: a1 :: a2 :: a3 :: a4 :: a5 :: t) 4 v (a0 :: a1 :: a2 :: a3 :: some v :: none :: t) := by
  intro j u hu
  rcases j with _ | j
  · exact Or.inr ⟨by omega, by omega, hu, fun h => by omega⟩
  rcases j with _ | j
  · exact Or.inr ⟨by omega, by omega, hu, fun h => by omega⟩
  rcases j with _ | j
  · exact Or.inr ⟨by omega, by omega, hu, fun h => by omega⟩
  rcases j with _ | j
  · refine Or.inr ⟨by omega, by omega, hu, fun h => ?_⟩
    have hu : a3 = some u := hu
    subst hu
    cases u <;> simp_all [zc1, Value.category]
  rcases j with _ | j
  · have hu : some v = some u := hu
    exact Or.inl ⟨by omega, (Option.some.inj hu).symm⟩
  rcases j with _ | j
  · have hu : (none : Option Value) = some u := hu
    cases hu
  · exact Or.inr ⟨by omega, by omega, hu, fun h => by omega⟩
theorem zst2_5 {a0 a1 a2 a3 a4 a5 a6 : Option Value} {t : List (Option Value)} {v : Value} (hc : zc1 a4 = true) : zst2 (a0 :: a1 :: a2 :: a3 :: a4 :: a5 :: a6 :: t) 5 v (a0 :: a1 :: a2 :: a3 :: a4 :: some v :: none :: t) := by
  intro j u hu
  rcases j with _ | j
  · exact Or.inr ⟨by omega, by omega, hu, fun h => by omega⟩
  rcases j with _ | j
  · exact Or.inr ⟨by omega, by omega, hu, fun h => by omega⟩
  rcases j with _ | j
  · exact Or.inr ⟨by omega, by omega, hu, fun h => by omega⟩
  rcases j with _ | j
  · exact Or.inr ⟨by omega, by omega, hu, fun h => by omega⟩
  rcases j with _ | j
  · refine Or.inr ⟨by omega, by omega, hu, fun h => ?_⟩
    have hu : a4 = some u := hu
    subst hu
    cases u <;> simp_all [zc1, Value.category]
  rcases j with _ | j
  · have hu : some v = some u := hu
    exact Or.inl ⟨by omega, (Option.some.inj hu).symm⟩
  rcases j with _ | j
  · have hu : (none : Option Value) = some u := hu
    cases hu
  · exact Or.inr ⟨by omega, by omega, hu, fun h => by omega⟩
theorem zst2_6 {a0 a1 a2 a3 a4 a5 a6 a7 : Option Value} {t : List (Option Value)} {v : Value} (hc : zc1 a5 = true) : zst2 (a0 :: a1 :: a2 :: a3 :: a4 :: a5 :: a6 :: a7 :: t) 6 v (a0 :: a1 :: a2 :: a3 :: a4 :: a5 :: some v :: none :: t) := by
  intro j u hu
  rcases j with _ | j
  · exact Or.inr ⟨by omega, by omega, hu, fun h => by omega⟩
  rcases j with _ | j
  · exact Or.inr ⟨by omega, by omega, hu, fun h => by omega⟩
  rcases j with _ | j
  · exact Or.inr ⟨by omega, by omega, hu, fun h => by omega⟩
  rcases j with _ | j
  · exact Or.inr ⟨by omega, by omega, hu, fun h => by omega⟩
  rcases j with _ | j
  · exact Or.inr ⟨by omega, by omega, hu, fun h => by omega⟩
  rcases j with _ | j
  · refine Or.inr ⟨by omega, by omega, hu, fun h => ?_⟩
    have hu : a5 = some u := hu
    subst hu
    cases u <;> simp_all [zc1, Value.category]
  rcases j with _ | j
  · have hu : some v = some u := hu
    exact Or.inl ⟨by omega, (Option.some.inj hu).symm⟩
  rcases j with _ | j
  · have hu : (none : Option Value) = some u := hu
    cases hu
  · exact Or.inr ⟨by omega, by omega, hu, fun h => by omega⟩
theorem zst2_7 {a0 a1 a2 a3 a4 a5 a6 a7 a8 : Option Value} {t : List (Option Value)} {v : Value} (hc : zc1 a6 = true) : zst2 (a0 :: a1 :: a2 :: a3 :: a4 :: a5 :: a6 :: a7 :: a8 :: t) 7 v (a0 :: a1 :: a2 :: a3 :: a4 :: a5 :: a6 :: some v :: none :: t) := by
  intro j u hu
  rcases j with _ | j
  · exact Or.inr ⟨by omega, by omega, hu, fun h => by omega⟩
  rcases j with _ | j
  · exact Or.inr ⟨by omega, by omega, hu, fun h => by omega⟩
  rcases j with _ | j
  · exact Or.inr ⟨by omega, by omega, hu, fun h => by omega⟩
  rcases j with _ | j
  · exact Or.inr ⟨by omega, by omega, hu, fun h => by omega⟩
  rcases j with _ | j
  · exact Or.inr ⟨by omega, by omega, hu, fun h => by omega⟩
  rcases j with _ | j
  · exact Or.inr ⟨by omega, by omega, hu, fun h => by omega⟩
  rcases j with _ | j
  · refine Or.inr ⟨by omega, by omega, hu, fun h => ?_⟩
    have hu : a6 = some u := hu
    subst hu
    cases u <;> simp_all [zc1, Value.category]
  rcases j with _ | j
  · have hu : some v = some u := hu
    exact Or.inl ⟨by omega, (Option.some.inj hu).symm⟩
  rcases j with _ | j
  · have hu : (none : Option Value) = some u := hu
    cases hu
  · exact Or.inr ⟨by omega, by omega, hu, fun h => by omega⟩
theorem zst2_8 {a0 a1 a2 a3 a4 a5 a6 a7 a8 a9 : Option Value} {t : List (Option Value)} {v : Value} (hc : zc1 a7 = true) : zst2 (a0 :: a1 :: a2 :: a3 :: a4 :: a5 :: a6 :: a7 :: a8 :: a9 :: t) 8 v (a0 :: a1 :: a2 :: a3 :: a4 :: a5 :: a6 :: a7 :: some v :: none :: t) := by
  intro j u hu
  rcases j with _ | j
  · exact Or.inr ⟨by omega, by omega, hu, fun h => by omega⟩
  rcases j with _ | j
  · exact Or.inr ⟨by omega, by omega, hu, fun h => by omega⟩
  rcases j with _ | j
  · exact Or.inr ⟨by omega, by omega, hu, fun h => by omega⟩
  rcases j with _ | j
  · exact Or.inr ⟨by omega, by omega, hu, fun h => by omega⟩
  rcases j with _ | j
  · exact Or.inr ⟨by omega, by omega, hu, fun h => by omega⟩
  rcases j with _ | j
  · exact Or.inr ⟨by omega, by omega, hu, fun h => by omega⟩
  rcases j with _ | j
  · exact Or.inr ⟨by omega, by omega, hu, fun h => by omega⟩
  rcases j with _ | j
  · refine Or.inr ⟨by omega, by omega, hu, fun h => ?_⟩
    have hu : a7 = some u := hu
    subst hu
    cases u <;> simp_all [zc1, Value.category]
  rcases j with _ | j
  · have hu : some v = some u := hu
    exact Or.inl ⟨by omega, (Option.some.inj hu).symm⟩
  rcases j with _ | j
  · have hu : (none : Option Value) = some u := hu
    cases hu
  · exact Or.inr ⟨by omega, by omega, hu, fun h => by omega⟩
theorem zst2_9 {a0 a1 a2 a3 a4 a5 a6 a7 a8 a9 a10 : Option Value} {t : List (Option Value)} {v : Value} (hc : zc1 a8 = true) : zst2 (a0 :: a1 :: a2 :: a3 :: a4 :: a5 :: a6 :: a7 :: a8 :: a9 :: a10 :: t) 9 v (a0 :: a1 :: a2 :: a3 :: a4 :: a5 :: a6 :: a7 :: a8 :: some v :: none :: t) := by
  intro j u hu
  rcases j with _ | j
  · exact Or.inr ⟨by omega, by omega, hu, fun h => by omega⟩
  rcases j with _ | j
  · exact Or.inr ⟨by omega, by omega, hu, fun h => by omega⟩
  rcases j with _ | j
  · exact Or.inr ⟨by omega, by omega, hu, fun h => by omega⟩
  rcases j with _ | j
  · exact Or.inr ⟨by omega, by omega, hu, fun h => by omega⟩
  rcases j with _ | j
  · exact Or.inr ⟨by omega, by omega, hu, fun h => by omega⟩
  rcases j with _ | j
  · exact Or.inr ⟨by omega, by omega, hu, fun h => by omega⟩
  rcases j with _ | j
  · exact Or.inr ⟨by omega, by omega, hu, fun h => by omega⟩
  rcases j with _ | j
  · exact Or.inr ⟨by omega, by omega, hu, fun h => by omega⟩
  rcases j with _ | j
  · refine Or.inr ⟨by omega, by omega, hu, fun h => ?_⟩
    have hu : a8 = some u := hu
    subst hu
    cases u <;> simp_all [zc1, Value.category]
  rcases j with _ | j
  · have hu : some v = some u := hu
    exact Or.inl ⟨by omega, (Option.some.inj hu).symm⟩
  rcases j with _ | j
  · have hu : (none : Option Value) = some u := hu
    cases hu
  · exact Or.inr ⟨by omega, by omega, hu, fun h => by omega⟩
theorem zst2_10 {a0 a1 a2 a3 a4 a5 a6 a7 a8 a9 a10 a11 : Option Value} {t : List (Option Value)} {v : Value} (hc : zc1 a9 = true) : zst2 (a0 :: a1 :: a2 :: a3 :: a4 :: a5 :: a6 :: a7 :: a8 :: a9 :: a10 :: a11 :: t) 10 v (a0 :: a1 :: a2 :: a3 :: a4 :: a5 :: a6 :: a7 :: a8 :: a9 :: some v :: none :: t) := by
  intro j u hu
  rcases j with _ | j
  · exact Or.inr ⟨by omega, by omega, hu, fun h => by omega⟩
  rcases j with _ | j
  · exact Or.inr ⟨by omega, by omega, hu, fun h => by omega⟩
  rcases j with _ | j
  · exact Or.inr ⟨by omega, by omega, hu, fun h => by omega⟩
  rcases j with _ | j
  · exact Or.inr ⟨by omega, by omega, hu, fun h => by omega⟩
  rcases j with _ | j
  · exact Or.inr ⟨by omega, by omega, hu, fun h => by omega⟩
  rcases j with _ | j
  · exact Or.inr ⟨by omega, by omega, hu, fun h => by omega⟩
  rcases j with _ | j
  · exact Or.inr ⟨by omega, by omega, hu, fun h => by omega⟩
  rcases j with _ | j
  · exact Or.inr ⟨by omega, by omega, hu, fun h => by omega⟩
  rcases j with _ | j
  · exact Or.inr ⟨by omega, by omega, hu, fun h => by omega⟩
  rcases j with _ | j
  · refine Or.inr ⟨by omega, by omega, hu, fun h => ?_⟩
    have hu : a9 = some u := hu
    subst hu
    cases u <;> simp_all [zc1, Value.category]
  rcases j with _ | j
  · have hu : some v = some u := hu
    exact Or.inl ⟨by omega, (Option.some.inj hu).symm⟩
  rcases j with _ | j
  · have hu : (none : Option Value) = some u := hu
    cases hu
  · exact Or.inr ⟨by omega, by omega, hu, fun h => by omega⟩
end
section
/-! ===== the judgement, its rows ===== -/
abbrev zMc : Type := Program × Launch × Env × Room × State × MethodId × Array Value × List Frame × Method × Code
abbrev zG : Type := zMc × zW × (Nat → Prop) × (State → Prop)
abbrev zp (Γ : zG) : Program := Γ.1.1
abbrev zln (Γ : zG) : Launch := Γ.1.2.1
abbrev zen (Γ : zG) : Env := Γ.1.2.2.1
abbrev zRm (Γ : zG) : Room := Γ.1.2.2.2.1
abbrev zs (Γ : zG) : State := Γ.1.2.2.2.2.1
abbrev zmi (Γ : zG) : MethodId := Γ.1.2.2.2.2.2.1
abbrev za (Γ : zG) : Array Value := Γ.1.2.2.2.2.2.2.1
abbrev zbl (Γ : zG) : List Frame := Γ.1.2.2.2.2.2.2.2.1
abbrev zmt (Γ : zG) : Method := Γ.1.2.2.2.2.2.2.2.2.1
abbrev zcd (Γ : zG) : Code := Γ.1.2.2.2.2.2.2.2.2.2
abbrev zw (Γ : zG) : zW := Γ.2.1
abbrev zA (Γ : zG) : Nat → Prop := Γ.2.2.1
abbrev zQ (Γ : zG) : State → Prop := Γ.2.2.2
abbrev zWW (Γ : zG) (H : Heap) (locs : List Loc) (k n : Nat) (g : JFrame) : Prop := W (zp Γ) (zln Γ) (zen Γ) (zRm Γ) (zs Γ) (zmi Γ) (za Γ) (zbl Γ) (zmt Γ) (zcd Γ) H locs k n (zQ Γ) g
/-- the array classes -/
def zty (w : zW) : List (ClassId × FieldType) := [(w.2.1 0, .int), (w.2.1 1, .byte), (w.2.1 2, .long), (w.2.1 3, .boolean), (w.2.1 4, .object RX0)]
/-- what a method's body knows of the machine -/
def zOk (Γ : zG) (own : String) (b : ByteArray) (mL d : Nat) : Prop :=
  (zp Γ).tables.exec = Jvm.exec ∧ (zcd Γ).code = b ∧ (zcd Γ).maxLocals = mL ∧ (zs Γ).vm.findClass own = some (zmi Γ).cls ∧ (∀ w ∈ zAL, w.before (za Γ) (zs Γ) = true) ∧ va_K (zw Γ).1 vwCl (zty (zw Γ)) (zs Γ) ∧ (∀ q, (zs Γ).heap.size ≤ q → zA Γ q) ∧ (d ≤ (zRm Γ).frames ∧ 36 * d ≤ (zRm Γ).locals) ∧ (zmt Γ).locks = false
/-- from here on, with the world ws, k cells and n slots made, at pc with these locals and stack: the run comes to its end -/
def zVw (Γ : zG) (ws : va_W) (k n : Nat) (pc : Nat) (ls : List (Option Value)) (st : List Value) : Prop :=
  ∀ (H : Heap) (locs : List Loc) (arr : Array Slot), va_P (zw Γ).1 vwCl ws H → va_D (zA Γ) ws → va_S (zA Γ) (zs Γ).heap H locs → zlok (zcd Γ).maxLocals arr ls → zWW Γ H locs k n (F0 (zmi Γ) pc arr st)
abbrev zV (Γ : zG) (σ : zM) (pc : Nat) (ls : List (Option Value)) (st : List Value) : Prop := zVw Γ (zwl (zw Γ) σ) 0 0 pc ls st
section ZR
variable {Γ : zG} {own : String} {b : ByteArray} {mL d : Nat} {ws : va_W} {k n : Nat} {pc q t : Nat} {ls : List (Option Value)} {st : List Value} {x y : Int}
theorem z_iconst (h : zOk Γ own b mL d) (hd : zD b pc (.iconst x) 1 q) (kk : zVw Γ ws k n q ls (zi x :: st)) : zVw Γ ws k n pc ls st := by
  obtain ⟨hd, rfl⟩ := hd
  intro H locs arr hP hD hS hl
  exact lv_iconst h.1 h.2.1 hd rfl (kk H locs arr hP hD hS hl)
theorem z_bipush (h : zOk Γ own b mL d) (hd : zD b pc (.bipush x) 2 q) (hv : (Int8.ofInt x).toInt32 = Int32.ofInt x) (kk : zVw Γ ws k n q ls (zi x :: st)) : zVw Γ ws k n pc ls st := by
  obtain ⟨hd, rfl⟩ := hd
  intro H locs arr hP hD hS hl
  exact lv_bipush h.1 h.2.1 hd hv (kk H locs arr hP hD hS hl)
theorem z_sipush (h : zOk Γ own b mL d) (hd : zD b pc (.sipush x) 3 q) (hv : (Int16.ofInt x).toInt32 = Int32.ofInt x) (kk : zVw Γ ws k n q ls (zi x :: st)) : zVw Γ ws k n pc ls st := by
  obtain ⟨hd, rfl⟩ := hd
  intro H locs arr hP hD hS hl
  exact lv_sipush h.1 h.2.1 hd hv (kk H locs arr hP hD hS hl)
theorem z_lconst (h : zOk Γ own b mL d) {f : Fin 2} (hd : zD b pc (.lconst f) 1 q) (hv : Int64.ofNat (f : Nat) = Int64.ofInt x) (kk : zVw Γ ws k n q ls (zl x :: st)) : zVw Γ ws k n pc ls st := by
  obtain ⟨hd, rfl⟩ := hd
  intro H locs arr hP hD hS hl
  exact lv_lconst h.1 h.2.1 hd hv (kk H locs arr hP hD hS hl)
theorem z_ldc2 (h : zOk Γ own b mL d) {idx : Nat} {v : Int64} (hd : zD b pc (.ldc2_w idx) 3 q) (hc : Cond.constantLong own idx v ∈ zAL) (hv : v = Int64.ofInt x) (kk : zVw Γ ws k n q ls (zl x :: st)) : zVw Γ ws k n pc ls st := by
  obtain ⟨hd, rfl⟩ := hd
  intro H locs arr hP hD hS hl
  subst hv
  exact lv_ldc2 h.1 h.2.1 h.2.2.2.1 (h.2.2.2.2.1 _ hc) hd (kk H locs arr hP hD hS hl)
theorem z_ldcw (h : zOk Γ own b mL d) {idx : Nat} {v : Int32} (hd : zD b pc (.ldc_w idx) 3 q) (hc : Cond.constant own idx v ∈ zAL) (hv : v = Int32.ofInt x) (kk : zVw Γ ws k n q ls (zi x :: st)) : zVw Γ ws k n pc ls st := by
  obtain ⟨hd, rfl⟩ := hd
  intro H locs arr hP hD hS hl
  subst hv
  intro T hT X
  obtain ⟨t, a, b'⟩ := kk H locs arr hP hD hS hl T hT X
  exact ⟨t, va_ldcwI X h.1 h.2.2.2.1 (h.2.2.2.2.1 _ hc) (g := F0 (zmi Γ) pc arr st) rfl (by rw [h.2.1]; exact hd) t a, b'⟩
theorem z_iload_n (h : zOk Γ own b mL d) {f : Fin 4} (hd : zD b pc (.iload_n f) 1 q) (hl : zg ls f.val = some (zi x)) (kk : zVw Γ ws k n q ls (zi x :: st)) : zVw Γ ws k n pc ls st := by
  obtain ⟨hd, rfl⟩ := hd
  intro H locs arr hP hD hS hl'
  exact lv_iload_n h.1 h.2.1 hd rfl (zlok_at hl' hl) (kk H locs arr hP hD hS hl')
theorem z_iload (h : zOk Γ own b mL d) {i : Nat} (hd : zD b pc (.iload i) 2 q) (hl : zg ls i = some (zi x)) (kk : zVw Γ ws k n q ls (zi x :: st)) : zVw Γ ws k n pc ls st := by
  obtain ⟨hd, rfl⟩ := hd
  intro H locs arr hP hD hS hl'
  exact lv_iload h.1 h.2.1 hd (zlok_at hl' hl) (kk H locs arr hP hD hS hl')
theorem z_lload_n (h : zOk Γ own b mL d) {f : Fin 4} (hd : zD b pc (.lload_n f) 1 q) (hl : zg ls f.val = some (zl x)) (kk : zVw Γ ws k n q ls (zl x :: st)) : zVw Γ ws k n pc ls st := by
  obtain ⟨hd, rfl⟩ := hd
  intro H locs arr hP hD hS hl'
  exact lv_lload_n h.1 h.2.1 hd rfl (zlok_at hl' hl) (kk H locs arr hP hD hS hl')
theorem z_lload (h : zOk Γ own b mL d) {i : Nat} (hd : zD b pc (.lload i) 2 q) (hl : zg ls i = some (zl x)) (kk : zVw Γ ws k n q ls (zl x :: st)) : zVw Γ ws k n pc ls st := by
  obtain ⟨hd, rfl⟩ := hd
  intro H locs arr hP hD hS hl'
  exact lv_lload h.1 h.2.1 hd (zlok_at hl' hl) (kk H locs arr hP hD hS hl')
theorem z_aload_n (h : zOk Γ own b mL d) {f : Fin 4} {a : Nat} (hd : zD b pc (.aload_n f) 1 q) (hl : zg ls f.val = some (.ref a)) (kk : zVw Γ ws k n q ls (.ref a :: st)) : zVw Γ ws k n pc ls st := by
  obtain ⟨hd, rfl⟩ := hd
  intro H locs arr hP hD hS hl'
  exact lv_aload_n h.1 h.2.1 hd rfl (zlok_at hl' hl) (kk H locs arr hP hD hS hl')
theorem z_raload_n (h : zOk Γ own b mL d) {f : Fin 4} {w : zW} {c : Nat} (hd : zD b pc (.aload_n f) 1 q) (hl : zg ls f.val = some (zr w c)) (kk : zVw Γ ws k n q ls (zr w c :: st)) : zVw Γ ws k n pc ls st := z_aload_n h hd hl kk
theorem z_ist1_n (h : zOk Γ own b mL d) {f : Fin 4} {ls' : List (Option Value)} (hd : zD b pc (.istore_n f) 1 q) (hi : f.val < mL) (hs : zst1 ls f.val (zi x) ls') (kk : zVw Γ ws k n q ls' st) : zVw Γ ws k n pc ls (zi x :: st) := by
  obtain ⟨hd, rfl⟩ := hd
  intro H locs arr hP hD hS hl'
  exact lv_istore_n h.1 h.2.1 hd rfl hl' (by rw [h.2.2.1]; exact hi) rfl (fun arr' h' => kk H locs arr' hP hD hS (zlok_st1 h' hs))
theorem z_ist1 (h : zOk Γ own b mL d) {i : Nat} {ls' : List (Option Value)} (hd : zD b pc (.istore i) 2 q) (hi : i < mL) (hs : zst1 ls i (zi x) ls') (kk : zVw Γ ws k n q ls' st) : zVw Γ ws k n pc ls (zi x :: st) := by
  obtain ⟨hd, rfl⟩ := hd
  intro H locs arr hP hD hS hl'
  exact lv_istore h.1 h.2.1 hd hl' (by rw [h.2.2.1]; exact hi) rfl (fun arr' h' => kk H locs arr' hP hD hS (zlok_st1 h' hs))
theorem z_ast1_n (h : zOk Γ own b mL d) {f : Fin 4} {a : Nat} {ls' : List (Option Value)} (hd : zD b pc (.astore_n f) 1 q) (hi : f.val < mL) (hs : zst1 ls f.val (.ref a) ls') (kk : zVw Γ ws k n q ls' st) : zVw Γ ws k n pc ls (.ref a :: st) := by
  obtain ⟨hd, rfl⟩ := hd
  intro H locs arr hP hD hS hl'
  exact lv_astore_n h.1 h.2.1 hd rfl hl' (by rw [h.2.2.1]; exact hi) rfl (fun arr' h' => kk H locs arr' hP hD hS (zlok_st1 h' hs))
theorem z_rst1_n (h : zOk Γ own b mL d) {f : Fin 4} {w : zW} {c : Nat} {ls' : List (Option Value)} (hd : zD b pc (.astore_n f) 1 q) (hi : f.val < mL) (hs : zst1 ls f.val (zr w c) ls') (kk : zVw Γ ws k n q ls' st) : zVw Γ ws k n pc ls (zr w c :: st) := z_ast1_n h hd hi hs kk
theorem z_lst_n (h : zOk Γ own b mL d) {f : Fin 4} {ls' : List (Option Value)} (hd : zD b pc (.lstore_n f) 1 q) (hi : f.val + 1 < mL) (hs : zst2 ls f.val (zl x) ls') (kk : zVw Γ ws k n q ls' st) : zVw Γ ws k n pc ls (zl x :: st) := by
  obtain ⟨hd, rfl⟩ := hd
  intro H locs arr hP hD hS hl'
  exact lv_lstore_n h.1 h.2.1 hd rfl hl' (by rw [h.2.2.1]; exact hi) rfl (fun arr' h' => kk H locs arr' hP hD hS (zlok_st2 h' hs))
theorem z_lst (h : zOk Γ own b mL d) {i : Nat} {ls' : List (Option Value)} (hd : zD b pc (.lstore i) 2 q) (hi : i + 1 < mL) (hs : zst2 ls i (zl x) ls') (kk : zVw Γ ws k n q ls' st) : zVw Γ ws k n pc ls (zl x :: st) := by
  obtain ⟨hd, rfl⟩ := hd
  intro H locs arr hP hD hS hl'
  exact lv_lstore h.1 h.2.1 hd hl' (by rw [h.2.2.1]; exact hi) rfl (fun arr' h' => kk H locs arr' hP hD hS (zlok_st2 h' hs))
theorem z_iinc (h : zOk Γ own b mL d) {i : Nat} {ls' : List (Option Value)} (hd : zD b pc (.iinc i y) 3 q) (hi : i < mL) (hl : zg ls i = some (zi x)) (hs : zst1 ls i (zi (x + y)) ls') (kk : zVw Γ ws k n q ls' st) : zVw Γ ws k n pc ls st := by
  obtain ⟨hd, rfl⟩ := hd
  intro H locs arr hP hD hS hl'
  have hm := (zas_mem ls 0 (i, zi x)).mpr ⟨Nat.zero_le _, hl⟩
  obtain ⟨j, hj⟩ := List.getElem?_of_mem hm
  exact lv_iinc h.1 h.2.1 hd hl' hj (show _ = Int32.ofInt (x + y) from (Int32.ofInt_add x y).symm) (by rw [h.2.2.1]; exact hi) rfl (fun arr' h' => kk H locs arr' hP hD hS (zlok_st1 h' hs))
theorem z_iadd (h : zOk Γ own b mL d) (hd : zD b pc .iadd 1 q) (kk : zVw Γ ws k n q ls (zi (x + y) :: st)) : zVw Γ ws k n pc ls (zi y :: zi x :: st) := by
  obtain ⟨hd, rfl⟩ := hd
  intro H locs arr hP hD hS hl'
  refine lv_iadd h.1 h.2.1 hd ?_
  rw [← Int32.ofInt_add]
  exact kk H locs arr hP hD hS hl'
theorem z_isub (h : zOk Γ own b mL d) (hd : zD b pc .isub 1 q) (kk : zVw Γ ws k n q ls (zi (x - y) :: st)) : zVw Γ ws k n pc ls (zi y :: zi x :: st) := by
  obtain ⟨hd, rfl⟩ := hd
  intro H locs arr hP hD hS hl'
  refine lv_isub h.1 h.2.1 hd ?_
  rw [← Int32.ofInt_sub]
  exact kk H locs arr hP hD hS hl'
theorem z_imul (h : zOk Γ own b mL d) (hd : zD b pc .imul 1 q) (kk : zVw Γ ws k n q ls (zi (x * y) :: st)) : zVw Γ ws k n pc ls (zi y :: zi x :: st) := by
  obtain ⟨hd, rfl⟩ := hd
  intro H locs arr hP hD hS hl'
  refine lv_imul h.1 h.2.1 hd ?_
  rw [← Int32.ofInt_mul]
  exact kk H locs arr hP hD hS hl'
theorem z_ladd (h : zOk Γ own b mL d) (hd : zD b pc .ladd 1 q) (kk : zVw Γ ws k n q ls (zl (x + y) :: st)) : zVw Γ ws k n pc ls (zl y :: zl x :: st) := by
  obtain ⟨hd, rfl⟩ := hd
  intro H locs arr hP hD hS hl'
  refine lv_ladd h.1 h.2.1 hd ?_
  rw [← Int64.ofInt_add]
  exact kk H locs arr hP hD hS hl'
theorem z_lmul (h : zOk Γ own b mL d) (hd : zD b pc .lmul 1 q) (kk : zVw Γ ws k n q ls (zl (x * y) :: st)) : zVw Γ ws k n pc ls (zl y :: zl x :: st) := by
  obtain ⟨hd, rfl⟩ := hd
  intro H locs arr hP hD hS hl'
  refine lv_lmul h.1 h.2.1 hd ?_
  rw [← Int64.ofInt_mul]
  exact kk H locs arr hP hD hS hl'
theorem z32_of {a : Int32} {v : Int} (h : a.toInt = v) : a = Int32.ofInt v := by rw [← h, Int32.ofInt_toInt]
theorem z64_of {a : Int64} {v : Int} (h : a.toInt = v) : a = Int64.ofInt v := by rw [← h, Int64.ofInt_toInt]
theorem z32_nat {x : Int} (h : 0 ≤ x) : Int32.ofInt x = nI x.toNat := by
  show Int32.ofInt x = Int32.ofNat x.toNat
  rw [← Int32.ofInt_eq_ofNat, Int.toNat_of_nonneg h]
theorem z64_nat {x : Int} (h : 0 ≤ x) : Int64.ofInt x = lN x.toNat := by
  show Int64.ofInt x = Int64.ofNat x.toNat
  rw [← Int64.ofInt_eq_ofNat, Int.toNat_of_nonneg h]
theorem z_idiv (h : zOk Γ own b mL d) (hd : zD b pc .idiv 1 q) (hx : 0 ≤ x ∧ x ≤ 2147483647) (hy : 0 < y ∧ y ≤ 2147483647) (kk : zVw Γ ws k n q ls (zi (x / y) :: st)) : zVw Γ ws k n pc ls (zi y :: zi x :: st) := by
  obtain ⟨hd, rfl⟩ := hd
  intro H locs arr hP hD hS hl'
  refine lv_idiv h.1 h.2.1 hd (fun e => ?_) ?_
  · rw [z32_0, z32_eq (by omega) (by omega)] at e; omega
  · have e : Int32.ofInt x / Int32.ofInt y = Int32.ofInt (x / y) := by
      rw [z32_nat hx.1, z32_nat (Int.le_of_lt hy.1), pk_div (by omega) (by omega) (by omega), z32_nat (Int.ediv_nonneg hx.1 (Int.le_of_lt hy.1))]
      congr 1
      obtain ⟨a, rfl⟩ := Int.eq_ofNat_of_zero_le hx.1
      obtain ⟨c, rfl⟩ := Int.eq_ofNat_of_zero_le (Int.le_of_lt hy.1)
      first | (simp [← Int.natCast_ediv]; done) | rfl
    rw [e]
    exact kk H locs arr hP hD hS hl'
theorem z_irem (h : zOk Γ own b mL d) (hd : zD b pc .irem 1 q) (hx : 0 ≤ x ∧ x ≤ 2147483647) (hy : 0 < y ∧ y ≤ 2147483647) (kk : zVw Γ ws k n q ls (zi (x % y) :: st)) : zVw Γ ws k n pc ls (zi y :: zi x :: st) := by
  obtain ⟨hd, rfl⟩ := hd
  intro H locs arr hP hD hS hl'
  refine lv_irem h.1 h.2.1 hd (fun e => ?_) ?_
  · rw [z32_0, z32_eq (by omega) (by omega)] at e; omega
  · have e : Int32.ofInt x - Int32.ofInt x / Int32.ofInt y * Int32.ofInt y = Int32.ofInt (x % y) := by
      rw [z32_nat hx.1, z32_nat (Int.le_of_lt hy.1), pk_rem (by omega) (by omega) (by omega), z32_nat (Int.emod_nonneg x (by omega))]
      congr 1
      obtain ⟨a, rfl⟩ := Int.eq_ofNat_of_zero_le hx.1
      obtain ⟨c, rfl⟩ := Int.eq_ofNat_of_zero_le (Int.le_of_lt hy.1)
      simp [← Int.natCast_emod]
    rw [e]
    exact kk H locs arr hP hD hS hl'
theorem z_ldiv (h : zOk Γ own b mL d) (hd : zD b pc .ldiv 1 q) (hx : 0 ≤ x ∧ x ≤ 9223372036854775807) (hy : 0 < y ∧ y ≤ 9223372036854775807) (kk : zVw Γ ws k n q ls (zl (x / y) :: st)) : zVw Γ ws k n pc ls (zl y :: zl x :: st) := by
  obtain ⟨hd, rfl⟩ := hd
  intro H locs arr hP hD hS hl'
  refine lv_ldiv h.1 h.2.1 hd (fun e => ?_) ?_
  · rw [show (0 : Int64) = Int64.ofInt 0 by decide, z64_eq (by omega) (by omega)] at e; omega
  · have e : Int64.ofInt x / Int64.ofInt y = Int64.ofInt (x / y) := by
      rw [z64_nat hx.1, z64_nat (Int.le_of_lt hy.1), pk_lDiv (by omega) (by omega) (by omega), z64_nat (Int.ediv_nonneg hx.1 (Int.le_of_lt hy.1))]
      congr 1
      obtain ⟨a, rfl⟩ := Int.eq_ofNat_of_zero_le hx.1
      obtain ⟨c, rfl⟩ := Int.eq_ofNat_of_zero_le (Int.le_of_lt hy.1)
      first | (simp [← Int.natCast_ediv]; done) | rfl
    rw [e]
    exact kk H locs arr hP hD hS hl'
theorem z_lrem (h : zOk Γ own b mL d) (hd : zD b pc .lrem 1 q) (hx : 0 ≤ x ∧ x ≤ 9223372036854775807) (hy : 0 < y ∧ y ≤ 9223372036854775807) (kk : zVw Γ ws k n q ls (zl (x % y) :: st)) : zVw Γ ws k n pc ls (zl y :: zl x :: st) := by
  obtain ⟨hd, rfl⟩ := hd
  intro H locs arr hP hD hS hl'
  refine lv_lrem h.1 h.2.1 hd (fun e => ?_) ?_
  · rw [show (0 : Int64) = Int64.ofInt 0 by decide, z64_eq (by omega) (by omega)] at e; omega
  · have e : Int64.ofInt x - Int64.ofInt x / Int64.ofInt y * Int64.ofInt y = Int64.ofInt (x % y) := by
      rw [z64_nat hx.1, z64_nat (Int.le_of_lt hy.1), pk_lRem (by omega) (by omega) (by omega), z64_nat (Int.emod_nonneg x (by omega))]
      congr 1
      obtain ⟨a, rfl⟩ := Int.eq_ofNat_of_zero_le hx.1
      obtain ⟨c, rfl⟩ := Int.eq_ofNat_of_zero_le (Int.le_of_lt hy.1)
      simp [← Int.natCast_emod]
    rw [e]
    exact kk H locs arr hP hD hS hl'
theorem z_iand (h : zOk Γ own b mL d) (hd : zD b pc .iand 1 q) (kk : zVw Γ ws k n q ls (zi (zand x y) :: st)) : zVw Γ ws k n pc ls (zi y :: zi x :: st) := by
  obtain ⟨hd, rfl⟩ := hd
  intro H locs arr hP hD hS hl'
  refine lv_iand h.1 h.2.1 hd ?_
  rw [show (Int32.ofInt x &&& Int32.ofInt y) = Int32.ofInt (zand x y) from (z32_all _).symm]
  exact kk H locs arr hP hD hS hl'
theorem z_ior (h : zOk Γ own b mL d) (hd : zD b pc .ior 1 q) (kk : zVw Γ ws k n q ls (zi (zor x y) :: st)) : zVw Γ ws k n pc ls (zi y :: zi x :: st) := by
  obtain ⟨hd, rfl⟩ := hd
  intro H locs arr hP hD hS hl'
  refine lv_ior h.1 h.2.1 hd ?_
  rw [show (Int32.ofInt x ||| Int32.ofInt y) = Int32.ofInt (zor x y) from (z32_all _).symm]
  exact kk H locs arr hP hD hS hl'
theorem z_ixor (h : zOk Γ own b mL d) (hd : zD b pc .ixor 1 q) (kk : zVw Γ ws k n q ls (zi (zxor x y) :: st)) : zVw Γ ws k n pc ls (zi y :: zi x :: st) := by
  obtain ⟨hd, rfl⟩ := hd
  intro H locs arr hP hD hS hl'
  refine lv_ixor h.1 h.2.1 hd ?_
  rw [show (Int32.ofInt x ^^^ Int32.ofInt y) = Int32.ofInt (zxor x y) from (z32_all _).symm]
  exact kk H locs arr hP hD hS hl'
theorem z_ishl (h : zOk Γ own b mL d) (hd : zD b pc .ishl 1 q) (kk : zVw Γ ws k n q ls (zi (zshl x y) :: st)) : zVw Γ ws k n pc ls (zi y :: zi x :: st) := by
  obtain ⟨hd, rfl⟩ := hd
  intro H locs arr hP hD hS hl'
  refine lv_ishl h.1 h.2.1 hd ?_
  rw [show (Int32.ofInt x <<< (Int32.ofInt y &&& 31)) = Int32.ofInt (zshl x y) from (z32_all _).symm]
  exact kk H locs arr hP hD hS hl'
theorem z_ishr (h : zOk Γ own b mL d) (hd : zD b pc .ishr 1 q) (kk : zVw Γ ws k n q ls (zi (zshr x y) :: st)) : zVw Γ ws k n pc ls (zi y :: zi x :: st) := by
  obtain ⟨hd, rfl⟩ := hd
  intro H locs arr hP hD hS hl'
  refine lv_ishr h.1 h.2.1 hd ?_
  rw [show (Int32.ofInt x >>> (Int32.ofInt y &&& 31)) = Int32.ofInt (zshr x y) from (z32_all _).symm]
  exact kk H locs arr hP hD hS hl'
theorem z_iushr (h : zOk Γ own b mL d) (hd : zD b pc .iushr 1 q) (kk : zVw Γ ws k n q ls (zi (zushr x y) :: st)) : zVw Γ ws k n pc ls (zi y :: zi x :: st) := by
  obtain ⟨hd, rfl⟩ := hd
  intro H locs arr hP hD hS hl'
  exact lv_iushr h.1 h.2.1 hd (z32_all _).symm (kk H locs arr hP hD hS hl')
theorem z_land (h : zOk Γ own b mL d) (hd : zD b pc .land 1 q) (kk : zVw Γ ws k n q ls (zl (zland x y) :: st)) : zVw Γ ws k n pc ls (zl y :: zl x :: st) := by
  obtain ⟨hd, rfl⟩ := hd
  intro H locs arr hP hD hS hl'
  refine lv_land h.1 h.2.1 hd ?_
  rw [show (Int64.ofInt x &&& Int64.ofInt y) = Int64.ofInt (zland x y) from (Int64.ofInt_toInt _).symm]
  exact kk H locs arr hP hD hS hl'
theorem z_lor (h : zOk Γ own b mL d) (hd : zD b pc .lor 1 q) (kk : zVw Γ ws k n q ls (zl (zlor x y) :: st)) : zVw Γ ws k n pc ls (zl y :: zl x :: st) := by
  obtain ⟨hd, rfl⟩ := hd
  intro H locs arr hP hD hS hl'
  refine lv_lor h.1 h.2.1 hd ?_
  rw [show (Int64.ofInt x ||| Int64.ofInt y) = Int64.ofInt (zlor x y) from (Int64.ofInt_toInt _).symm]
  exact kk H locs arr hP hD hS hl'
theorem z_lushr (h : zOk Γ own b mL d) (hd : zD b pc .lushr 1 q) (kk : zVw Γ ws k n q ls (zl (zlushr x y) :: st)) : zVw Γ ws k n pc ls (zi y :: zl x :: st) := by
  obtain ⟨hd, rfl⟩ := hd
  intro H locs arr hP hD hS hl'
  exact lv_lushr h.1 h.2.1 hd (Int64.ofInt_toInt _).symm (kk H locs arr hP hD hS hl')
theorem z_lshl (h : zOk Γ own b mL d) (hd : zD b pc .lshl 1 q) (kk : zVw Γ ws k n q ls (zl (zlshl x y) :: st)) : zVw Γ ws k n pc ls (zi y :: zl x :: st) := by
  obtain ⟨hd, rfl⟩ := hd
  intro H locs arr hP hD hS hl'
  exact lv_lshl h.1 h.2.1 hd (Int64.ofInt_toInt _).symm (kk H locs arr hP hD hS hl')
theorem z_lshr (h : zOk Γ own b mL d) (hd : zD b pc .lshr 1 q) (kk : zVw Γ ws k n q ls (zl (zlshr x y) :: st)) : zVw Γ ws k n pc ls (zi y :: zl x :: st) := by
  obtain ⟨hd, rfl⟩ := hd
  intro H locs arr hP hD hS hl'
  exact lv_lshr h.1 h.2.1 hd (Int64.ofInt_toInt _).symm (kk H locs arr hP hD hS hl')
theorem z_i2l (h : zOk Γ own b mL d) (hd : zD b pc .i2l 1 q) (hx : -2147483648 ≤ x ∧ x ≤ 2147483647) (kk : zVw Γ ws k n q ls (zl x :: st)) : zVw Γ ws k n pc ls (zi x :: st) := by
  obtain ⟨hd, rfl⟩ := hd
  intro H locs arr hP hD hS hl'
  exact lv_i2l h.1 h.2.1 hd (by rw [z64_of (show (Int32.ofInt x).toInt64.toInt = x by rw [Int32.toInt_toInt64, z32 hx])]) (kk H locs arr hP hD hS hl')
theorem z_l2i (h : zOk Γ own b mL d) (hd : zD b pc .l2i 1 q) (kk : zVw Γ ws k n q ls (zi (zl2i x) :: st)) : zVw Γ ws k n pc ls (zl x :: st) := by
  obtain ⟨hd, rfl⟩ := hd
  intro H locs arr hP hD hS hl'
  exact lv_l2i h.1 h.2.1 hd (z32_all _).symm (kk H locs arr hP hD hS hl')
theorem z_i2b (h : zOk Γ own b mL d) (hd : zD b pc .i2b 1 q) (kk : zVw Γ ws k n q ls (zi (zi2b x) :: st)) : zVw Γ ws k n pc ls (zi x :: st) := by
  obtain ⟨hd, rfl⟩ := hd
  intro H locs arr hP hD hS hl'
  exact lv_i2b h.1 h.2.1 hd (z32_all _).symm (kk H locs arr hP hD hS hl')
theorem z_lcmp (h : zOk Γ own b mL d) (hd : zD b pc .lcmp 1 q) (hx : -9223372036854775808 ≤ x ∧ x ≤ 9223372036854775807) (hy : -9223372036854775808 ≤ y ∧ y ≤ 9223372036854775807) (kk : zVw Γ ws k n q ls (zi (zcmp x y) :: st)) : zVw Γ ws k n pc ls (zl y :: zl x :: st) := by
  obtain ⟨hd, rfl⟩ := hd
  intro H locs arr hP hD hS hl'
  refine W.lcmp h.1 h.2.1 hd ?_
  have e : lg_cmp (Int64.ofInt x) (Int64.ofInt y) = Int32.ofInt (zcmp x y) := by
    unfold lg_cmp zcmp
    by_cases h1 : y < x
    · rw [if_pos h1, if_pos ((z64_lt hy hx).mpr h1)]; rfl
    · rw [if_neg h1, if_neg (fun z => h1 ((z64_lt hy hx).mp z))]
      by_cases h2 : x = y
      · rw [if_pos h2, if_pos ((z64_eq hx hy).mpr h2)]; rfl
      · rw [if_neg h2, if_neg (fun z => h2 ((z64_eq hx hy).mp z))]; rfl
  rw [e]
  exact kk H locs arr hP hD hS hl'
theorem z_dup (h : zOk Γ own b mL d) {va : Value} (hd : zD b pc .dup 1 q) (hc : va.category = 1) (kk : zVw Γ ws k n q ls (va :: va :: st)) : zVw Γ ws k n pc ls (va :: st) := by
  obtain ⟨hd, rfl⟩ := hd
  intro H locs arr hP hD hS hl'
  exact lv_dup h.1 h.2.1 hd hc (kk H locs arr hP hD hS hl')
theorem z_dup2 (h : zOk Γ own b mL d) {va vb : Value} (hd : zD b pc .dup2 1 q) (hc : va.category = 1) (hc' : vb.category = 1) (kk : zVw Γ ws k n q ls (va :: vb :: va :: vb :: st)) : zVw Γ ws k n pc ls (va :: vb :: st) := by
  obtain ⟨hd, rfl⟩ := hd
  intro H locs arr hP hD hS hl'
  exact lv_dup2_11 h.1 h.2.1 hd hc hc' (kk H locs arr hP hD hS hl')
theorem z_pop (h : zOk Γ own b mL d) {va : Value} (hd : zD b pc .pop 1 q) (hc : va.category = 1) (kk : zVw Γ ws k n q ls st) : zVw Γ ws k n pc ls (va :: st) := by
  obtain ⟨hd, rfl⟩ := hd
  intro H locs arr hP hD hS hl'
  exact lv_pop h.1 h.2.1 hd hc (kk H locs arr hP hD hS hl')
theorem z_goto (h : zOk Γ own b mL d) (hj : zJ b pc .goto q t) (kk : zVw Γ ws k n t ls st) : zVw Γ ws k n pc ls st := by
  obtain ⟨off, hd, -, ht⟩ := hj
  intro H locs arr hP hD hS hl'
  exact lv_goto h.1 h.2.1 hd ht (kk H locs arr hP hD hS hl')
theorem z_icmp_eq (h : zOk Γ own b mL d) (hj : zJ b pc (.if_icmp .eq) q t) (hx : -2147483648 ≤ x ∧ x ≤ 2147483647) (hy : -2147483648 ≤ y ∧ y ≤ 2147483647) (kt : x = y → zVw Γ ws k n t ls st) (kf : ¬ (x = y) → zVw Γ ws k n q ls st) : zVw Γ ws k n pc ls (zi y :: zi x :: st) := by
  obtain ⟨off, hd, rfl, ht⟩ := hj
  intro H locs arr hP hD hS hl'
  exact lv_icmp_eq h.1 h.2.1 hd ht (fun e => kt ((z32_eq hx hy).mp e) H locs arr hP hD hS hl') (fun e => kf (fun z => e ((z32_eq hx hy).mpr z)) H locs arr hP hD hS hl')
theorem z_if_eq (h : zOk Γ own b mL d) (hj : zJ b pc (.ifCond .eq) q t) (hx : -2147483648 ≤ x ∧ x ≤ 2147483647) (kt : x = 0 → zVw Γ ws k n t ls st) (kf : ¬ (x = 0) → zVw Γ ws k n q ls st) : zVw Γ ws k n pc ls (zi x :: st) := by
  obtain ⟨off, hd, rfl, ht⟩ := hj
  intro H locs arr hP hD hS hl'
  exact lv_if_eq h.1 h.2.1 hd ht (fun e => kt ((z32_eq hx (show -2147483648 ≤ (0 : Int) ∧ (0 : Int) ≤ 2147483647 by omega)).mp e) H locs arr hP hD hS hl') (fun e => kf (fun z => e ((z32_eq hx (show -2147483648 ≤ (0 : Int) ∧ (0 : Int) ≤ 2147483647 by omega)).mpr z)) H locs arr hP hD hS hl')
theorem z_icmp_ne (h : zOk Γ own b mL d) (hj : zJ b pc (.if_icmp .ne) q t) (hx : -2147483648 ≤ x ∧ x ≤ 2147483647) (hy : -2147483648 ≤ y ∧ y ≤ 2147483647) (kt : x ≠ y → zVw Γ ws k n t ls st) (kf : x = y → zVw Γ ws k n q ls st) : zVw Γ ws k n pc ls (zi y :: zi x :: st) := by
  obtain ⟨off, hd, rfl, ht⟩ := hj
  intro H locs arr hP hD hS hl'
  exact lv_icmp_ne h.1 h.2.1 hd ht (fun e => kt ((not_congr (z32_eq hx hy)).mp e) H locs arr hP hD hS hl') (fun e => kf ((z32_eq hx hy).mp e) H locs arr hP hD hS hl')
theorem z_if_ne (h : zOk Γ own b mL d) (hj : zJ b pc (.ifCond .ne) q t) (hx : -2147483648 ≤ x ∧ x ≤ 2147483647) (kt : x ≠ 0 → zVw Γ ws k n t ls st) (kf : x = 0 → zVw Γ ws k n q ls st) : zVw Γ ws k n pc ls (zi x :: st) := by
  obtain ⟨off, hd, rfl, ht⟩ := hj
  intro H locs arr hP hD hS hl'
  exact lv_if_ne h.1 h.2.1 hd ht (fun e => kt ((not_congr (z32_eq hx (show -2147483648 ≤ (0 : Int) ∧ (0 : Int) ≤ 2147483647 by omega))).mp e) H locs arr hP hD hS hl') (fun e => kf ((z32_eq hx (show -2147483648 ≤ (0 : Int) ∧ (0 : Int) ≤ 2147483647 by omega)).mp e) H locs arr hP hD hS hl')
theorem z_icmp_lt (h : zOk Γ own b mL d) (hj : zJ b pc (.if_icmp .lt) q t) (hx : -2147483648 ≤ x ∧ x ≤ 2147483647) (hy : -2147483648 ≤ y ∧ y ≤ 2147483647) (kt : x < y → zVw Γ ws k n t ls st) (kf : ¬ (x < y) → zVw Γ ws k n q ls st) : zVw Γ ws k n pc ls (zi y :: zi x :: st) := by
  obtain ⟨off, hd, rfl, ht⟩ := hj
  intro H locs arr hP hD hS hl'
  exact lv_icmp_lt h.1 h.2.1 hd ht (fun e => kt ((z32_lt hx hy).mp e) H locs arr hP hD hS hl') (fun e => kf (fun z => e ((z32_lt hx hy).mpr z)) H locs arr hP hD hS hl')
theorem z_if_lt (h : zOk Γ own b mL d) (hj : zJ b pc (.ifCond .lt) q t) (hx : -2147483648 ≤ x ∧ x ≤ 2147483647) (kt : x < 0 → zVw Γ ws k n t ls st) (kf : ¬ (x < 0) → zVw Γ ws k n q ls st) : zVw Γ ws k n pc ls (zi x :: st) := by
  obtain ⟨off, hd, rfl, ht⟩ := hj
  intro H locs arr hP hD hS hl'
  exact lv_if_lt h.1 h.2.1 hd ht (fun e => kt ((z32_lt hx (show -2147483648 ≤ (0 : Int) ∧ (0 : Int) ≤ 2147483647 by omega)).mp e) H locs arr hP hD hS hl') (fun e => kf (fun z => e ((z32_lt hx (show -2147483648 ≤ (0 : Int) ∧ (0 : Int) ≤ 2147483647 by omega)).mpr z)) H locs arr hP hD hS hl')
theorem z_icmp_ge (h : zOk Γ own b mL d) (hj : zJ b pc (.if_icmp .ge) q t) (hx : -2147483648 ≤ x ∧ x ≤ 2147483647) (hy : -2147483648 ≤ y ∧ y ≤ 2147483647) (kt : y ≤ x → zVw Γ ws k n t ls st) (kf : ¬ (y ≤ x) → zVw Γ ws k n q ls st) : zVw Γ ws k n pc ls (zi y :: zi x :: st) := by
  obtain ⟨off, hd, rfl, ht⟩ := hj
  intro H locs arr hP hD hS hl'
  exact lv_icmp_ge h.1 h.2.1 hd ht (fun e => kt ((z32_le hy hx).mp e) H locs arr hP hD hS hl') (fun e => kf (fun z => e ((z32_le hy hx).mpr z)) H locs arr hP hD hS hl')
theorem z_if_ge (h : zOk Γ own b mL d) (hj : zJ b pc (.ifCond .ge) q t) (hx : -2147483648 ≤ x ∧ x ≤ 2147483647) (kt : 0 ≤ x → zVw Γ ws k n t ls st) (kf : ¬ (0 ≤ x) → zVw Γ ws k n q ls st) : zVw Γ ws k n pc ls (zi x :: st) := by
  obtain ⟨off, hd, rfl, ht⟩ := hj
  intro H locs arr hP hD hS hl'
  exact lv_if_ge h.1 h.2.1 hd ht (fun e => kt ((z32_le (show -2147483648 ≤ (0 : Int) ∧ (0 : Int) ≤ 2147483647 by omega) hx).mp e) H locs arr hP hD hS hl') (fun e => kf (fun z => e ((z32_le (show -2147483648 ≤ (0 : Int) ∧ (0 : Int) ≤ 2147483647 by omega) hx).mpr z)) H locs arr hP hD hS hl')
theorem z_icmp_gt (h : zOk Γ own b mL d) (hj : zJ b pc (.if_icmp .gt) q t) (hx : -2147483648 ≤ x ∧ x ≤ 2147483647) (hy : -2147483648 ≤ y ∧ y ≤ 2147483647) (kt : y < x → zVw Γ ws k n t ls st) (kf : ¬ (y < x) → zVw Γ ws k n q ls st) : zVw Γ ws k n pc ls (zi y :: zi x :: st) := by
  obtain ⟨off, hd, rfl, ht⟩ := hj
  intro H locs arr hP hD hS hl'
  exact lv_icmp_gt h.1 h.2.1 hd ht (fun e => kt ((z32_lt hy hx).mp e) H locs arr hP hD hS hl') (fun e => kf (fun z => e ((z32_lt hy hx).mpr z)) H locs arr hP hD hS hl')
theorem z_if_gt (h : zOk Γ own b mL d) (hj : zJ b pc (.ifCond .gt) q t) (hx : -2147483648 ≤ x ∧ x ≤ 2147483647) (kt : 0 < x → zVw Γ ws k n t ls st) (kf : ¬ (0 < x) → zVw Γ ws k n q ls st) : zVw Γ ws k n pc ls (zi x :: st) := by
  obtain ⟨off, hd, rfl, ht⟩ := hj
  intro H locs arr hP hD hS hl'
  exact lv_if_gt h.1 h.2.1 hd ht (fun e => kt ((z32_lt (show -2147483648 ≤ (0 : Int) ∧ (0 : Int) ≤ 2147483647 by omega) hx).mp e) H locs arr hP hD hS hl') (fun e => kf (fun z => e ((z32_lt (show -2147483648 ≤ (0 : Int) ∧ (0 : Int) ≤ 2147483647 by omega) hx).mpr z)) H locs arr hP hD hS hl')
theorem z_icmp_le (h : zOk Γ own b mL d) (hj : zJ b pc (.if_icmp .le) q t) (hx : -2147483648 ≤ x ∧ x ≤ 2147483647) (hy : -2147483648 ≤ y ∧ y ≤ 2147483647) (kt : x ≤ y → zVw Γ ws k n t ls st) (kf : ¬ (x ≤ y) → zVw Γ ws k n q ls st) : zVw Γ ws k n pc ls (zi y :: zi x :: st) := by
  obtain ⟨off, hd, rfl, ht⟩ := hj
  intro H locs arr hP hD hS hl'
  exact lv_icmp_le h.1 h.2.1 hd ht (fun e => kt ((z32_le hx hy).mp e) H locs arr hP hD hS hl') (fun e => kf (fun z => e ((z32_le hx hy).mpr z)) H locs arr hP hD hS hl')
theorem z_if_le (h : zOk Γ own b mL d) (hj : zJ b pc (.ifCond .le) q t) (hx : -2147483648 ≤ x ∧ x ≤ 2147483647) (kt : x ≤ 0 → zVw Γ ws k n t ls st) (kf : ¬ (x ≤ 0) → zVw Γ ws k n q ls st) : zVw Γ ws k n pc ls (zi x :: st) := by
  obtain ⟨off, hd, rfl, ht⟩ := hj
  intro H locs arr hP hD hS hl'
  exact lv_if_le h.1 h.2.1 hd ht (fun e => kt ((z32_le hx (show -2147483648 ≤ (0 : Int) ∧ (0 : Int) ≤ 2147483647 by omega)).mp e) H locs arr hP hD hS hl') (fun e => kf (fun z => e ((z32_le hx (show -2147483648 ≤ (0 : Int) ∧ (0 : Int) ≤ 2147483647 by omega)).mpr z)) H locs arr hP hD hS hl')
theorem z_tabOut (h : zOk Γ own b mL d) {dflt lo hi : Int} {offs : Array Int} {len : Nat} (hd : zD b pc (.tableswitch dflt lo hi offs) len q) (hx : -2147483648 ≤ x ∧ x ≤ 2147483647) (ho : x < lo ∨ hi < x) (ht : (pc : Int) + dflt = (t : Int)) (kk : zVw Γ ws k n t ls st) : zVw Γ ws k n pc ls (zi x :: st) := by
  obtain ⟨hd, -⟩ := hd
  intro H locs arr hP hD hS hl'
  exact lv_tableOut h.1 h.2.1 hd (by rw [z32 hx]; exact ho) ht (kk H locs arr hP hD hS hl')
theorem z_tabIn (h : zOk Γ own b mL d) {dflt lo hi off : Int} {offs : Array Int} {len : Nat} (v : Int) (hd : zD b pc (.tableswitch dflt lo hi offs) len q) (hx : x = v) (hv : -2147483648 ≤ v ∧ v ≤ 2147483647 ∧ lo ≤ v ∧ v ≤ hi) (ho : offs[(v - lo).toNat]? = some off) (ht : (pc : Int) + off = (t : Int)) (kk : zVw Γ ws k n t ls st) : zVw Γ ws k n pc ls (zi x :: st) := by
  obtain ⟨hd, -⟩ := hd
  intro H locs arr hP hD hS hl'
  subst hx
  exact lv_tableIn h.1 h.2.1 hd (by rw [z32 ⟨hv.1, hv.2.1⟩]; omega) (by rw [z32 ⟨hv.1, hv.2.1⟩]; omega) (by rw [z32 ⟨hv.1, hv.2.1⟩]; exact ho) ht (kk H locs arr hP hD hS hl')
end ZR
end
section
/-! ===== rows of the heap ===== -/
/-- a field of the class ci, named by the pool of own -/
def zFl (own : String) (idx ci k : Nat) : Prop := ∃ (C : String) (T : u_T) (N : Nat), vwCl[ci]? = some (C, T, N) ∧ k < N ∧ (T k).1 = C ∧ Cond.fieldLink own idx C (T k).2.1 (T k).2.2.1 ∈ zAL ∧ (∀ w ∈ u_ws C T N, w ∈ zAL)
/-- it may be written by any method; its type -/
def zFp (ci k : Nat) (ft : FieldType) : Prop := ∃ (C : String) (T : u_T) (N : Nat) (ty : Nat → FieldType), vwCl[ci]? = some (C, T, N) ∧ (T k).2.2.2 = false ∧ (∀ j, j < N → parseFieldDescriptor (T j).2.2.1 = some (ty j)) ∧ (∀ a, a < N → ∀ b, b < N → a ≠ b → (T a).2.1 ≠ (T b).2.1) ∧ parseFieldDescriptor (T k).2.2.1 = some ft
theorem zup_fvs (w : zW) (σ : zM) (c : Nat) (v : Int) (f : zF) (val : Value) : ∀ (fs : List zF) (j k : Nat), fs[k]? = some f → zfv w (zup σ c ((j + k : Nat) : Int) v) c (j + k) f = val → zfvs w (zup σ c ((j + k : Nat) : Int) v) c j fs = (zfvs w σ c j fs).set k val
  | [], j, k, h, _ => by simp at h
  | g :: t, j, 0, h, hv => by
    simp at h; subst h
    simp only [zfvs, List.set_cons_zero]
    rw [show j + 0 = j from rfl] at hv ⊢
    rw [hv]
    congr 1
    have : ∀ (t : List zF) (i : Nat), j < i → zfvs w (zup σ c (j : Int) v) c i t = zfvs w σ c i t := by
      intro t
      induction t with
      | nil => intro i _; rfl
      | cons f t ih =>
        intro i hi
        simp only [zfvs]
        rw [ih (i + 1) (by omega)]
        congr 1
        unfold zfv
        have e : zup σ c (j : Int) v c (i : Int) = σ c i := zup_nei (by omega)
        split <;> simp [e]
    exact this t (j + 1) (by omega)
  | g :: t, j, k + 1, h, hv => by
    simp only [List.getElem?_cons_succ] at h
    simp only [zfvs, List.set_cons_succ]
    rw [show j + (k + 1) = j + 1 + k by omega] at hv ⊢
    rw [zup_fvs w σ c v f val t (j + 1) k h hv]
    congr 1
    unfold zfv
    have e : zup σ c ((j + 1 + k : Nat) : Int) v c (j : Int) = σ c j := zup_nei (by omega)
    split <;> first | rw [e] | rfl
section ZH
variable {Γ : zG} {own : String} {b : ByteArray} {mL d : Nat} {σ : zM} {k n : Nat} {pc q t : Nat} {ls : List (Option Value)} {st : List Value} {x y : Int} {c ci idx j : Nat} {fs : List zF}
theorem z_getw (h : zOk Γ own b mL d) {ws : va_W} {a : Nat} {vs : List Value} {v : Value} (hd : zD b pc (.getfield idx) 3 q) (hf : zFl own idx ci j) (p0 : Nat) (hc : ws[p0]? = some (a, .inr (ci, vs))) (hv : vs[j]? = some v) (kk : zVw Γ ws k n q ls (v :: st)) : zVw Γ ws k n pc ls (.ref a :: st) := by
  obtain ⟨hd, rfl⟩ := hd
  intro H locs arr hP hD hS hl'
  obtain ⟨C, T, N, h1, h2, h3, h4, h5⟩ := hf
  exact va_get h.1 h.2.1 h.2.2.2.2.1 h5 h.2.2.2.1 h.2.2.2.2.2.1 hP p0 hc h1 j h2 (h.2.2.2.2.1 _ h4) (fun _ h9 => by rw [h3] at h9; exact h9) hv hd (kk H locs arr hP hD hS hl')
theorem z_get (h : zOk Γ own b mL d) (hd : zD b pc (.getfield idx) 3 q) (hf : zFl own idx ci j) (hc : zlay[c]? = some (.inl (ci, fs))) (hj : fs[j]? = some none) (kk : zVw Γ (zwl (zw Γ) σ) k n q ls (zi (σ c j) :: st)) : zVw Γ (zwl (zw Γ) σ) k n pc ls (zr (zw Γ) c :: st) := by
  have e := zfvs_at (zw Γ) σ c fs 0 j none hj
  rw [Nat.zero_add] at e
  exact z_getw h hd hf c (zwl_at (zw Γ) σ hc) e kk
theorem z_getr (h : zOk Γ own b mL d) {r : Nat} (hd : zD b pc (.getfield idx) 3 q) (hf : zFl own idx ci j) (hc : zlay[c]? = some (.inl (ci, fs))) (hj : fs[j]? = some (some (some r))) (kk : zVw Γ (zwl (zw Γ) σ) k n q ls (zr (zw Γ) r :: st)) : zVw Γ (zwl (zw Γ) σ) k n pc ls (zr (zw Γ) c :: st) := by
  have e := zfvs_at (zw Γ) σ c fs 0 j (some (some r)) hj
  exact z_getw h hd hf c (zwl_at (zw Γ) σ hc) e kk
theorem z_getd (h : zOk Γ own b mL d) {r : Nat} (hd : zD b pc (.getfield idx) 3 q) (hf : zFl own idx ci j) (hc : zlay[c]? = some (.inl (ci, fs))) (hj : fs[j]? = some (some none)) (hr : σ c j = r) (kk : zVw Γ (zwl (zw Γ) σ) k n q ls (zr (zw Γ) r :: st)) : zVw Γ (zwl (zw Γ) σ) k n pc ls (zr (zw Γ) c :: st) := by
  have e := zfvs_at (zw Γ) σ c fs 0 j (some none) hj
  rw [Nat.zero_add] at e
  have e2 : zfv (zw Γ) σ c j (some none) = zr (zw Γ) r := by show zr (zw Γ) (σ c j).toNat = _; rw [hr]; rfl
  rw [e2] at e
  exact z_getw h hd hf c (zwl_at (zw Γ) σ hc) e kk
theorem z_putw (h : zOk Γ own b mL d) {ws : va_W} {a : Nat} {vs : List Value} {v : Value} {ft : FieldType} (hd : zD b pc (.putfield idx) 3 q) (hf : zFl own idx ci j) (hp : zFp ci j ft) (p0 : Nat) (hc : ws[p0]? = some (a, .inr (ci, vs))) (hn : narrow ft v = v) (hfit : fits ft v = true) (hl : j < vs.length) (kk : zVw Γ (ws.set p0 (a, .inr (ci, vs.set j v))) k n q ls st) : zVw Γ ws k n pc ls (v :: .ref a :: st) := by
  obtain ⟨hd, rfl⟩ := hd
  intro H locs arr hP hD hS hl'
  obtain ⟨C, T, N, h1, h2, h3, h4, h5⟩ := hf
  obtain ⟨C', T', N', ty, g1, g2, g3, g4, g5⟩ := hp
  cases h1.symm.trans g1
  exact va_put h.1 h.2.1 h.2.2.2.2.1 h5 ty g3 g4 h.2.2.2.1 h.2.2.2.2.2.1 hP hD hS p0 hc h1 j h2 (h.2.2.2.2.1 _ h4) (fun _ h9 => by rw [h3] at h9; exact h9) g2 g5 hn hfit hl hd (fun H1 locs1 hP1 hD1 hS1 => kk H1 locs1 arr hP1 hD1 hS1 hl')
theorem z_put (h : zOk Γ own b mL d) (hd : zD b pc (.putfield idx) 3 q) (hf : zFl own idx ci j) (hp : zFp ci j .int) (hc : zlay[c]? = some (.inl (ci, fs))) (hj : fs[j]? = some none) (kk : zVw Γ (zwl (zw Γ) (zup σ c j x)) k n q ls st) : zVw Γ (zwl (zw Γ) σ) k n pc ls (zi x :: zr (zw Γ) c :: st) := by
  refine z_putw h hd hf hp c (zwl_at (zw Γ) σ hc) rfl rfl (by rw [zfvs_len]; exact (List.getElem?_eq_some_iff.mp hj).1) ?_
  have e1 := zup_fvs (zw Γ) σ c x none (zi x) fs 0 j hj (by show zi _ = zi x; rw [Nat.zero_add, zup_eq])
  rw [Nat.zero_add] at e1
  have e2 := zwl_set (zw Γ) σ (zup σ c j x) hc zup_c
  rw [← e2] at kk
  show zVw Γ ((zwl (zw Γ) σ).set c ((zw Γ).2.2 c, .inr (ci, (zfvs (zw Γ) σ c 0 fs).set j (zi x)))) k n q ls st
  rw [← e1]
  exact kk
theorem z_putd (h : zOk Γ own b mL d) {r : Nat} {ft : FieldType} (hd : zD b pc (.putfield idx) 3 q) (hf : zFl own idx ci j) (hp : zFp ci j ft) (hc : zlay[c]? = some (.inl (ci, fs))) (hj : fs[j]? = some (some none)) (hn : ∀ a, narrow ft (.ref a) = .ref a) (hfit : ∀ a, fits ft (.ref a) = true) (kk : zVw Γ (zwl (zw Γ) (zup σ c j r)) k n q ls st) : zVw Γ (zwl (zw Γ) σ) k n pc ls (zr (zw Γ) r :: zr (zw Γ) c :: st) := by
  refine z_putw h hd hf hp c (zwl_at (zw Γ) σ hc) (hn _) (hfit _) (by rw [zfvs_len]; exact (List.getElem?_eq_some_iff.mp hj).1) ?_
  have e1 := zup_fvs (zw Γ) σ c r (some none) (zr (zw Γ) r) fs 0 j hj (by show zr _ _ = _; rw [Nat.zero_add, zup_eq]; rfl)
  rw [Nat.zero_add] at e1
  have e2 := zwl_set (zw Γ) σ (zup σ c j r) hc zup_c
  rw [← e2] at kk
  show zVw Γ ((zwl (zw Γ) σ).set c ((zw Γ).2.2 c, .inr (ci, (zfvs (zw Γ) σ c 0 fs).set j (zr (zw Γ) r)))) k n q ls st
  rw [← e1]
  exact kk
theorem z_in {i : Int} {N : Nat} (hi : 0 ≤ i ∧ i < N) (hN : N < 2147483648) : vp_in (Int32.ofInt i) N ∧ (Int32.ofInt i).toNatClampNeg = i.toNat := by
  have e := z32 (a := i) (by omega)
  refine ⟨vp_in_iff.mpr (by rw [e]; exact hi), ?_⟩
  show (Int32.ofInt i).toInt.toNat = i.toNat
  rw [e]
theorem z_alen (h : zOk Γ own b mL d) {ty N : Nat} (hd : zD b pc .arraylength 1 q) (hc : zlay[c]? = some (.inr (.inl (ty, N)))) (ht : ty < 4) (kk : zVw Γ (zwl (zw Γ) σ) k n q ls (zi N :: st)) : zVw Γ (zwl (zw Γ) σ) k n pc ls (zr (zw Γ) c :: st) := by
  obtain ⟨hd, rfl⟩ := hd
  intro H locs arr hP hD hS hl'
  have ha := zwl_at (zw Γ) σ hc
  have hv : Int32.ofNat N = Int32.ofInt N := by rw [← Int32.ofInt_eq_ofNat]
  rcases (show ty = 0 ∨ ty = 1 ∨ ty = 2 ∨ ty = 3 by omega) with rfl | rfl | rfl | rfl
  · exact va_alen h.1 h.2.1 h.2.2.2.2.2.1 hP c 0 ha rfl hv hd (kk H locs arr hP hD hS hl')
  · exact va_alen h.1 h.2.1 h.2.2.2.2.2.1 hP c 1 ha rfl hv hd (kk H locs arr hP hD hS hl')
  · exact va_alen h.1 h.2.1 h.2.2.2.2.2.1 hP c 2 ha rfl hv hd (kk H locs arr hP hD hS hl')
  · exact va_alen h.1 h.2.1 h.2.2.2.2.2.1 hP c 3 ha rfl hv hd (kk H locs arr hP hD hS hl')
theorem z_iald (h : zOk Γ own b mL d) {N : Nat} (hd : zD b pc .iaload 1 q) (hc : zlay[c]? = some (.inr (.inl (0, N)))) (hN : N < 2147483648) (hi : 0 ≤ x ∧ x < N) (kk : zVw Γ (zwl (zw Γ) σ) k n q ls (zi (σ c x) :: st)) : zVw Γ (zwl (zw Γ) σ) k n pc ls (zi x :: zr (zw Γ) c :: st) := by
  obtain ⟨hd, rfl⟩ := hd
  intro H locs arr hP hD hS hl'
  obtain ⟨h1, h2⟩ := z_in hi hN
  refine va_iald h.1 h.2.1 h.2.2.2.2.2.1 hP c 0 (zwl_at (zw Γ) σ hc) rfl h1 hd ?_
  rw [h2, Int.toNat_of_nonneg hi.1]
  exact kk H locs arr hP hD hS hl'
theorem z_bald (h : zOk Γ own b mL d) {N : Nat} (hd : zD b pc .baload 1 q) (hc : zlay[c]? = some (.inr (.inl (1, N)))) (hN : N < 2147483648) (hi : 0 ≤ x ∧ x < N) (kk : zVw Γ (zwl (zw Γ) σ) k n q ls (zi (σ c x) :: st)) : zVw Γ (zwl (zw Γ) σ) k n pc ls (zi x :: zr (zw Γ) c :: st) := by
  obtain ⟨hd, rfl⟩ := hd
  intro H locs arr hP hD hS hl'
  obtain ⟨h1, h2⟩ := z_in hi hN
  refine va_bald h.1 h.2.1 h.2.2.2.2.2.1 hP c 1 (zwl_at (zw Γ) σ hc) rfl h1 hd ?_
  rw [h2, Int.toNat_of_nonneg hi.1]
  exact kk H locs arr hP hD hS hl'
theorem z_zald (h : zOk Γ own b mL d) {N : Nat} (hd : zD b pc .baload 1 q) (hc : zlay[c]? = some (.inr (.inl (3, N)))) (hN : N < 2147483648) (hi : 0 ≤ x ∧ x < N) (kk : zVw Γ (zwl (zw Γ) σ) k n q ls (zi (σ c x) :: st)) : zVw Γ (zwl (zw Γ) σ) k n pc ls (zi x :: zr (zw Γ) c :: st) := by
  obtain ⟨hd, rfl⟩ := hd
  intro H locs arr hP hD hS hl'
  obtain ⟨h1, h2⟩ := z_in hi hN
  refine va_zald h.1 h.2.1 h.2.2.2.2.2.1 hP c 3 (zwl_at (zw Γ) σ hc) rfl h1 hd ?_
  rw [h2, Int.toNat_of_nonneg hi.1]
  exact kk H locs arr hP hD hS hl'
theorem z_lald (h : zOk Γ own b mL d) {N : Nat} (hd : zD b pc .laload 1 q) (hc : zlay[c]? = some (.inr (.inl (2, N)))) (hN : N < 2147483648) (hi : 0 ≤ x ∧ x < N) (kk : zVw Γ (zwl (zw Γ) σ) k n q ls (zl (σ c x) :: st)) : zVw Γ (zwl (zw Γ) σ) k n pc ls (zi x :: zr (zw Γ) c :: st) := by
  obtain ⟨hd, rfl⟩ := hd
  intro H locs arr hP hD hS hl'
  obtain ⟨h1, h2⟩ := z_in hi hN
  refine va_lald h.1 h.2.1 h.2.2.2.2.2.1 hP c 2 (zwl_at (zw Γ) σ hc) rfl h1 hd ?_
  rw [h2, Int.toNat_of_nonneg hi.1]
  exact kk H locs arr hP hD hS hl'
theorem z_aald (h : zOk Γ own b mL d) {ids : List Nat} {r : Nat} (hd : zD b pc .aaload 1 q) (hc : zlay[c]? = some (.inr (.inr ids))) (hN : ids.length < 2147483648) (hi : 0 ≤ x) (hr : ids[x.toNat]? = some r) (kk : zVw Γ (zwl (zw Γ) σ) k n q ls (zr (zw Γ) r :: st)) : zVw Γ (zwl (zw Γ) σ) k n pc ls (zi x :: zr (zw Γ) c :: st) := by
  obtain ⟨hd, rfl⟩ := hd
  intro H locs arr hP hD hS hl'
  have hlt := (List.getElem?_eq_some_iff.mp hr).1
  obtain ⟨h1, h2⟩ := z_in (i := x) (N := ids.length) (by omega) hN
  refine va_aldq h.1 h.2.1 h.2.2.2.2.2.1 hP c 4 (C := RX0) (zwl_at (zw Γ) σ hc) rfl h1 hd ?_
  rw [h2, hr]
  exact kk H locs arr hP hD hS hl'
theorem z_upd (w : zW) (σ : zM) (c : Nat) (x v : Int) (hx : 0 ≤ x) : (fun j : Nat => Int32.ofInt (zup σ c x v c j)) = upd (fun j : Nat => Int32.ofInt (σ c j)) x.toNat (Int32.ofInt v) := by
  funext j
  by_cases hj : j = x.toNat
  · subst hj
    rw [zup_eqi (Int.toNat_of_nonneg hx)]
    simp [upd]
  · rw [zup_nei (by omega)]
    simp [upd, hj]
theorem z_iast (h : zOk Γ own b mL d) {N : Nat} (hd : zD b pc .iastore 1 q) (hc : zlay[c]? = some (.inr (.inl (0, N)))) (hN : N < 2147483648) (hi : 0 ≤ x ∧ x < N) (kk : zVw Γ (zwl (zw Γ) (zup σ c x y)) k n q ls st) : zVw Γ (zwl (zw Γ) σ) k n pc ls (zi y :: zi x :: zr (zw Γ) c :: st) := by
  obtain ⟨hd, rfl⟩ := hd
  intro H locs arr hP hD hS hl'
  obtain ⟨h1, h2⟩ := z_in hi hN
  have e : (zwl (zw Γ) σ).set c ((zw Γ).2.2 c, .inl ((zw Γ).2.1 0, N, .inl (upd (fun j : Nat => Int32.ofInt (σ c j)) (Int32.ofInt x).toNatClampNeg (Int32.ofInt y)))) = zwl (zw Γ) (zup σ c x y) := by
    rw [h2, ← z_upd (zw Γ) σ c x y hi.1]
    exact zwl_set (zw Γ) σ (zup σ c x y) hc zup_c
  refine va_iast h.1 h.2.1 h.2.2.2.2.2.1 hP hD hS c 0 (zwl_at (zw Γ) σ hc) rfl h1 hd (fun H1 locs1 hP1 hD1 hS1 => ?_)
  rw [e] at hP1 hD1
  exact kk H1 locs1 arr hP1 hD1 hS1 hl'
theorem z_last (h : zOk Γ own b mL d) {N : Nat} (hd : zD b pc .lastore 1 q) (hc : zlay[c]? = some (.inr (.inl (2, N)))) (hN : N < 2147483648) (hi : 0 ≤ x ∧ x < N) (kk : zVw Γ (zwl (zw Γ) (zup σ c x y)) k n q ls st) : zVw Γ (zwl (zw Γ) σ) k n pc ls (zl y :: zi x :: zr (zw Γ) c :: st) := by
  obtain ⟨hd, rfl⟩ := hd
  intro H locs arr hP hD hS hl'
  obtain ⟨h1, h2⟩ := z_in hi hN
  have e : (zwl (zw Γ) σ).set c ((zw Γ).2.2 c, .inl ((zw Γ).2.1 2, N, .inr (.inl (vp_updL (fun j : Nat => Int64.ofInt (σ c j)) (Int32.ofInt x).toNatClampNeg (Int64.ofInt y))))) = zwl (zw Γ) (zup σ c x y) := by
    have e1 : (fun j : Nat => Int64.ofInt (zup σ c x y c j)) = vp_updL (fun j : Nat => Int64.ofInt (σ c j)) x.toNat (Int64.ofInt y) := by
      funext j
      by_cases hj : j = x.toNat
      · subst hj
        rw [zup_eqi (Int.toNat_of_nonneg hi.1)]
        simp [vp_updL]
      · rw [zup_nei (by omega)]
        simp [vp_updL, hj]
    rw [h2, ← e1]
    exact zwl_set (zw Γ) σ (zup σ c x y) hc zup_c
  refine va_last h.1 h.2.1 h.2.2.2.2.2.1 hP hD hS c 2 (zwl_at (zw Γ) σ hc) rfl h1 hd (fun H1 locs1 hP1 hD1 hS1 => ?_)
  rw [e] at hP1 hD1
  exact kk H1 locs1 arr hP1 hD1 hS1 hl'
theorem z_bast (h : zOk Γ own b mL d) {N : Nat} (hd : zD b pc .bastore 1 q) (hc : zlay[c]? = some (.inr (.inl (1, N)))) (hN : N < 2147483648) (hi : 0 ≤ x ∧ x < N) (hy : -128 ≤ y ∧ y < 128) (kk : zVw Γ (zwl (zw Γ) (zup σ c x y)) k n q ls st) : zVw Γ (zwl (zw Γ) σ) k n pc ls (zi y :: zi x :: zr (zw Γ) c :: st) := by
  obtain ⟨hd, rfl⟩ := hd
  intro H locs arr hP hD hS hl'
  obtain ⟨h1, h2⟩ := z_in hi hN
  have hb : vp_nar .byte (Int32.ofInt y) = Int32.ofInt y := by
    obtain ⟨z, rfl⟩ : ∃ z : Nat, y = (z : Int) - 128 := ⟨(y + 128).toNat, by omega⟩
    have : ∀ z : Fin 256, vp_nar .byte (Int32.ofInt (((z.val : Nat) : Int) - 128)) = Int32.ofInt (((z.val : Nat) : Int) - 128) := by decide +kernel
    exact this ⟨z, by omega⟩
  have e : (zwl (zw Γ) σ).set c ((zw Γ).2.2 c, .inl ((zw Γ).2.1 1, N, .inl (upd (fun j : Nat => Int32.ofInt (σ c j)) (Int32.ofInt x).toNatClampNeg (vp_nar .byte (Int32.ofInt y))))) = zwl (zw Γ) (zup σ c x y) := by
    rw [h2, hb, ← z_upd (zw Γ) σ c x y hi.1]
    exact zwl_set (zw Γ) σ (zup σ c x y) hc zup_c
  refine va_bast h.1 h.2.1 h.2.2.2.2.2.1 hP hD hS c 1 (zwl_at (zw Γ) σ hc) rfl h1 hd (fun H1 locs1 hP1 hD1 hS1 => ?_)
  rw [e] at hP1 hD1
  exact kk H1 locs1 arr hP1 hD1 hS1 hl'
theorem z_zast (h : zOk Γ own b mL d) {N : Nat} (hd : zD b pc .bastore 1 q) (hc : zlay[c]? = some (.inr (.inl (3, N)))) (hN : N < 2147483648) (hi : 0 ≤ x ∧ x < N) (hy : y = 0 ∨ y = 1) (kk : zVw Γ (zwl (zw Γ) (zup σ c x y)) k n q ls st) : zVw Γ (zwl (zw Γ) σ) k n pc ls (zi y :: zi x :: zr (zw Γ) c :: st) := by
  obtain ⟨hd, rfl⟩ := hd
  intro H locs arr hP hD hS hl'
  obtain ⟨h1, h2⟩ := z_in hi hN
  have hb : vp_nar .boolean (Int32.ofInt y) = Int32.ofInt y := by
    rcases hy with rfl | rfl <;> decide +kernel
  have e : (zwl (zw Γ) σ).set c ((zw Γ).2.2 c, .inl ((zw Γ).2.1 3, N, .inl (upd (fun j : Nat => Int32.ofInt (σ c j)) (Int32.ofInt x).toNatClampNeg (vp_nar .boolean (Int32.ofInt y))))) = zwl (zw Γ) (zup σ c x y) := by
    rw [h2, hb, ← z_upd (zw Γ) σ c x y hi.1]
    exact zwl_set (zw Γ) σ (zup σ c x y) hc zup_c
  refine va_zast h.1 h.2.1 h.2.2.2.2.2.1 hP hD hS c 3 (zwl_at (zw Γ) σ hc) rfl h1 hd (fun H1 locs1 hP1 hD1 hS1 => ?_)
  rw [e] at hP1 hD1
  exact kk H1 locs1 arr hP1 hD1 hS1 hl'
theorem z_min (h : zOk Γ own b mL d) {ws : va_W} (hd : zD b pc (.invokestatic idx) 3 q) (hl : Cond.methodLink own idx Lib.Math.min.name ∈ zAL) (hs : Cond.static Lib.Math.min.name ∈ zAL) (hi : Cond.initialized "java/lang/Math" ∈ zAL) (hc : Cond.code Lib.Math.min.name Lib.Math.min.code 2 (some .int) ∈ zAL) (hx : -2147483648 ≤ x ∧ x ≤ 2147483647) (hy : -2147483648 ≤ y ∧ y ≤ 2147483647) (hdd : 1 ≤ d) (hst : (st.map fun v => v.category).sum ≤ 20) (hk : k ≤ (zRm Γ).cells) (hn : n ≤ (zRm Γ).slots) (kk : zVw Γ ws k n q ls (zi (min x y) :: st)) : zVw Γ ws k n pc ls (zi y :: zi x :: st) := by
  obtain ⟨hd, rfl⟩ := hd
  intro H locs arr hP hD hS hl'
  have h8 := h.2.2.2.2.2.2.2.1
  refine va_mmin h.1 h.2.1 hl'.1.symm h.2.2.2.1 (h.2.2.2.2.1 _ hl) (h.2.2.2.2.1 _ hs) (h.2.2.2.2.1 _ hi) (h.2.2.2.2.1 _ hc) (by omega) (by omega) hk hn hd ?_
  have e : (if Int32.ofInt y < Int32.ofInt x then Int32.ofInt y else Int32.ofInt x) = Int32.ofInt (min x y) := by
    by_cases hxy : y < x
    · rw [if_pos ((z32_lt hy hx).mpr hxy), Int.min_eq_right (by omega)]
    · rw [if_neg (fun z => hxy ((z32_lt hy hx).mp z)), Int.min_eq_left (by omega)]
  rw [e]
  exact kk H locs arr hP hD hS hl'
end ZH
end
section
/-! ===== contracts, calls, returns ===== -/
def zPic (w : zW) (σ : zM) (U : State) : Prop := va_P w.1 vwCl (zwl w σ) U.heap ∧ va_K w.1 vwCl (zty w) U ∧ va_D (fun _ => True) (zwl w σ)
def zQc (w : zW) (P : Option Value → zM → Prop) (A : Nat → Prop) : Array Value → State → Outcome → State → Prop := fun _ st oc t => (∃ (r : Option Value) (σ' : zM), oc = .returned r ∧ P r σ' ∧ zPic w σ' t) ∧ va_F A st t
/-- a method: its name, code, locals, type, depth of calls -/
abbrev zQ6 : Type := MethodName × ByteArray × Nat × Option FieldType × Nat
/-- called with args on the memory σ, the method returns, with an answer and a memory as P says -/
def zCT (m : zQ6) (args : zW → List Value) (σ : zM) (P : Option Value → zM → Prop) : Prop := ∀ (l : Launch) (w : zW) (sz : Nat), Met l m.1 (Cond.code m.1 m.2.1 m.2.2.1 m.2.2.2.1 :: zAL) { frames := m.2.2.2.2, cells := 0, slots := 0, locals := 36 * m.2.2.2.2 } (va_Pc (args w) (fun U => U.heap.size = sz ∧ zPic w σ U)) (zQc w P (va_A (zwl w σ) sz)) 0 0 (va_A (zwl w σ) sz)
def zCi (m : zQ6) (args : zW → List Value) (σ : zM) (P : Int → zM → Prop) : Prop := zCT m args σ (fun r σ' => ∃ v, r = some (zi v) ∧ P v σ')
def zCl (m : zQ6) (args : zW → List Value) (σ : zM) (P : Int → zM → Prop) : Prop := zCT m args σ (fun r σ' => ∃ v, r = some (zl v) ∧ P v σ')
def zCv (m : zQ6) (args : zW → List Value) (σ : zM) (P : zM → Prop) : Prop := zCT m args σ (fun r σ' => r = none ∧ P σ')
/-- what a return needs -/
def zRt (Γ : zG) (ret : Option FieldType) (P : Option Value → zM → Prop) : Prop := (zmt Γ).sig.returnType = ret ∧ zQ Γ = MQ (zbl Γ) (zQc (zw Γ) P (zA Γ)) (za Γ) (zs Γ) 0 0 (zA Γ)
theorem zAl_addr (w : zW) (σ τ : zM) : ∀ (L : List zL) (c0 : Nat) (k a : Nat), (∃ e, (zws w σ c0 L)[k]? = some (a, e)) → ∃ e, (zws w τ c0 L)[k]? = some (a, e)
  | [], _, k, a, h => by obtain ⟨e, h⟩ := h; simp [zws] at h
  | g :: t, c0, 0, a, h => by
    obtain ⟨e, h⟩ := h
    simp only [zws, List.getElem?_cons_zero, Option.some.injEq, Prod.mk.injEq] at h ⊢
    exact ⟨_, h.1, rfl⟩
  | g :: t, c0, k + 1, a, h => by
    simp only [zws, List.getElem?_cons_succ] at h ⊢
    exact zAl_addr w σ τ t (c0 + 1) k a h
theorem zAl_A (w : zW) (σ τ : zM) {a : Nat} {k : Nat} {e : va_E} (h : (zwl w σ)[k]? = some (a, e)) : ∃ e', (zwl w τ)[k]? = some (a, e') := zAl_addr w σ τ zlay 0 k a ⟨e, h⟩
theorem zAl_D {A B : Nat → Prop} (w : zW) (σ τ : zM) (h : va_D A (zwl w σ)) (hB : ∀ (k : Nat) (q : Nat × va_E), (zwl w τ)[k]? = some q → B q.1) : va_D B (zwl w τ) := by
  refine ⟨fun i j x y hi hj hxy => ?_, hB⟩
  obtain ⟨e1, h1⟩ := zAl_A w τ σ (a := x.1) (e := x.2) hi
  obtain ⟨e2, h2⟩ := zAl_A w τ σ (a := y.1) (e := y.2) hj
  exact h.1 i j _ _ h1 h2 hxy
theorem zCT_mk {own : String} {m : zQ6} {args : zW → List Value} {σ : zM} {P : Option Value → zM → Prop} (hown : m.1.cls = own) (hy : plainName own = true) (ls : zW → List (Option Value)) (hls : ∀ w, zas 0 (ls w) = lv_args 0 (args w)) (hlen : ∀ w, (lg_sl (args w)).length ≤ m.2.2.1)
    (body : ∀ Γ, zOk Γ own m.2.1 m.2.2.1 m.2.2.2.2 → zRt Γ m.2.2.2.1 P → zV Γ σ 0 (ls (zw Γ)) []) : zCT m args σ P := by
  intro l w sz
  subst hown
  refine Met.ofW (cc := m.2.1) (maxL := m.2.2.1) (ret := m.2.2.2.1) hy rfl ?_
  intro p e s mi args' below meth c s₁ B hml hv
  obtain ⟨rfl, hsz, hP, hK, hD0⟩ := hv
  have hts := atoms_spec (ws := Cond.code m.1 m.2.1 m.2.2.1 m.2.2.2.1 :: zAL) B.pre
  subst hsz
  have hD := hD0.self (sz := s.heap.size)
  have hl := lv_entry (args w) (n := m.2.2.1) (hlen w)
  rw [lg_entry_eq]
  have hbody := body ((p, l, e, ({ frames := m.2.2.2.2, cells := 0, slots := 0, locals := 36 * m.2.2.2.2 } : Room), s, mi, (args w).toArray, below, meth, c), w, va_A (zwl w σ) s.heap.size, MQ below (zQc w P (va_A (zwl w σ) s.heap.size)) (args w).toArray s 0 0 (va_A (zwl w σ) s.heap.size))
    ⟨B.exec, B.bytes, hml, findClass_of_methodNamed B.named, fun w h => hts w (List.mem_cons_of_mem _ h), hK, fun q h => Or.inr h, ⟨Nat.le_refl _, Nat.le_refl _⟩, B.notSynchronized⟩ ⟨B.returns, rfl⟩
  refine hbody s.heap [] _ hP hD va_S.rf ?_
  show lv_has _ c.maxLocals _
  rw [hml, hls w]
  exact hl
section ZC
variable {Γ : zG} {own : String} {b : ByteArray} {mL d : Nat} {σ : zM} {k n : Nat} {pc q t : Nat} {ls : List (Option Value)} {st rest : List Value} {x y : Int} {c ci idx j : Nat} {fs : List zF} {P : Option Value → zM → Prop}
theorem zRt_end (h : zOk Γ own b mL d) {ret : Option FieldType} {H : Heap} {locs : List Loc} (hP : va_P (zw Γ).1 vwCl (zwl (zw Γ) σ) H) (hD : va_D (zA Γ) (zwl (zw Γ) σ)) (hS : va_S (zA Γ) (zs Γ).heap H locs) {r : Option Value} (hp : P r σ) : ∀ t : State, t.heap = H → (zs Γ).WarmedH t.vm → zQc (zw Γ) P (zA Γ) (za Γ) (zs Γ) (.returned r) t := by
  intro t ht hW
  exact ⟨⟨r, σ, rfl, hp, by rw [ht]; exact hP, va_K.moved hW.alike h.2.2.2.2.2.1, hD.weaken (fun _ _ _ _ => trivial)⟩, hS.F ht⟩
theorem z_iret (h : zOk Γ own b mL d) (hr : zRt Γ (some .int) P) (hd : zD b pc .ireturn 1 q) (hp : P (some (zi x)) σ) : zV Γ σ pc ls [zi x] := by
  obtain ⟨hd, -⟩ := hd
  intro H locs arr hP hD hS hl'
  show W _ _ _ _ _ _ _ _ _ _ _ _ _ _ (zQ Γ) _
  rw [hr.2]
  exact W.iret h.1 h.2.1 hr.1 (zRt_end (ret := some .int) h hP hD hS hp) hS.2.2 hd h.2.2.2.2.2.2.2.2
theorem z_zret (h : zOk Γ own b mL d) (hr : zRt Γ (some .boolean) P) (hd : zD b pc .ireturn 1 q) (hx : x = 0 ∨ x = 1) (hp : P (some (zi x)) σ) : zV Γ σ pc ls [zi x] := by
  obtain ⟨hd, -⟩ := hd
  intro H locs arr hP hD hS hl'
  show W _ _ _ _ _ _ _ _ _ _ _ _ _ _ (zQ Γ) _
  rw [hr.2]
  exact W.zret h.1 h.2.1 hr.1 (by rcases hx with rfl | rfl <;> rfl) (zRt_end (ret := some .boolean) h hP hD hS hp) hS.2.2 hd h.2.2.2.2.2.2.2.2
theorem z_lret (h : zOk Γ own b mL d) (hr : zRt Γ (some .long) P) (hd : zD b pc .lreturn 1 q) (hp : P (some (zl x)) σ) : zV Γ σ pc ls [zl x] := by
  obtain ⟨hd, -⟩ := hd
  intro H locs arr hP hD hS hl'
  show W _ _ _ _ _ _ _ _ _ _ _ _ _ _ (zQ Γ) _
  rw [hr.2]
  exact W.lret h.1 h.2.1 hr.1 (zRt_end (ret := some .long) h hP hD hS hp) hS.2.2 hd h.2.2.2.2.2.2.2.2
theorem z_vret (h : zOk Γ own b mL d) (hr : zRt Γ none P) (hd : zD b pc .return_ 1 q) (hp : P none σ) : zV Γ σ pc ls [] := by
  obtain ⟨hd, -⟩ := hd
  intro H locs arr hP hD hS hl'
  show W _ _ _ _ _ _ _ _ _ _ _ _ _ _ (zQ Γ) _
  rw [hr.2]
  exact W.vret h.1 h.2.1 hr.1 (zRt_end (ret := none) h hP hD hS hp) hS.2.2 hd h.2.2.2.2.2.2.2.2
/-- what a call's pool entry says -/
def zMl (own : String) (idx : Nat) (m : zQ6) (np : Nat) : Prop := Cond.methodLink own idx m.1 ∈ zAL ∧ Cond.initialized m.1.cls ∈ zAL ∧ Cond.code m.1 m.2.1 m.2.2.1 m.2.2.2.1 ∈ zAL ∧ (m.1.cls ≠ "java/lang/invoke/MethodHandle" ∧ m.1.cls ≠ "java/lang/invoke/VarHandle" ∧ (parseMethodDescriptor m.1.desc).map (fun d => d.parameters.length) = some np) ∧ m.2.2.1 ≤ 17
def zMv (m : zQ6) : Prop := Cond.instanceMethod m.1 ∈ zAL ∧ Cond.selects m.1.cls m.1 m.1 ∈ zAL
theorem zAL_good : ∀ w ∈ zAL, w ∈ zAL ∧ ((w.onTables && w.keeps) = true ∨ ∃ ty, w = .arrayClass ty) := fun w h => ⟨h, good_of_word (List.mem_filter.mp h).2⟩
theorem zRunEnd {m : zQ6} {args : zW → List Value} {g : JFrame} {H : Heap} {locs : List Loc} (hS : va_S (zA Γ) (zs Γ).heap H locs) (hD : va_D (zA Γ) (zwl (zw Γ) σ)) (h : zOk Γ own b mL d)
    (hr : va_Run (zp Γ) (zln Γ) (zen Γ) (zRm Γ) (zs Γ) (zmi Γ) (za Γ) (zbl Γ) (zmt Γ) (zcd Γ) H locs k n 0 0 (F0 (zmi Γ) pc g.locals st) rest (zQc (zw Γ) P (va_A (zwl (zw Γ) σ) H.size) (args (zw Γ)).toArray) (va_A (zwl (zw Γ) σ) H.size)) (hl : zlok (zcd Γ).maxLocals g.locals ls)
    (kk : ∀ (r : Option Value) (σ' : zM), P r σ' → zVw Γ (zwl (zw Γ) σ') k n (pc + 3) ls (r.toList ++ rest)) : zWW Γ H locs k n (F0 (zmi Γ) pc g.locals st) := by
  intro T hT X
  obtain ⟨v, st₀, t, T', L, h0, X', hL, e1, e2, ⟨⟨r, σ', hv, hp, hP1, hK1, hD1⟩, hz, hk⟩, hst⟩ := hr T hT X
  cases hv
  rw [h0] at hz hk
  have hAq : ∀ q, va_A (zwl (zw Γ) σ) H.size q → zA Γ q := by
    intro q hq
    rcases hq with ⟨j, e, hj⟩ | hq
    · exact hD.2 j (q, e) hj
    · exact h.2.2.2.2.2.2.1 q (Nat.le_trans hS.1 hq)
  have hS1 : va_S (zA Γ) (zs Γ).heap T'.heap (locs ++ L) := ⟨Nat.le_trans hS.1 (by rw [e1]; exact hz), fun q h1 h2 => by
      rw [e1, hk q (Nat.lt_of_lt_of_le h1 hS.1) (fun z => h2 (hAq q z))]; exact hS.2.1 q h1 h2, fun q hq => by
      rcases List.mem_append.mp hq with h | h
      · exact hS.2.2 q h
      · exact hAq _ (hL q h)⟩
  have hD2 : va_D (zA Γ) (zwl (zw Γ) σ') := zAl_D (zw Γ) σ σ' hD (fun j q hq => by
    obtain ⟨e', he⟩ := zAl_A (zw Γ) σ' σ (a := q.1) (e := q.2) hq
    exact hD.2 j (q.1, e') he)
  obtain ⟨t2, a1, b1⟩ := kk v σ' hp T'.heap (locs ++ L) g.locals (by rw [e1]; exact hP1) hD2 hS1 hl T' rfl X'
  exact ⟨t2, hst t2 a1, b1⟩
theorem z_callV (h : zOk Γ own b mL d) {m : zQ6} {np : Nat} {args : zW → List Value} {As : List Value} (hd : zD b pc (.invokevirtual idx) 3 q) (hm : zMl own idx m np) (hv : zMv m) (hci : (vwCl[ci]?).map (fun r => r.1) = some m.1.cls) (hc : zlay[c]? = some (.inl (ci, fs))) (hM : zCT m args σ P)
    (ha : args (zw Γ) = zr (zw Γ) c :: As) (hn : As.length = np) (hst : st = As.reverse ++ zr (zw Γ) c :: rest) (hrest : (rest.map fun v => v.category).sum ≤ 8) (hdd : m.2.2.2.2 + 1 ≤ d) (hk : k ≤ (zRm Γ).cells ∧ n ≤ (zRm Γ).slots)
    (kk : ∀ (r : Option Value) (σ' : zM), P r σ' → zVw Γ (zwl (zw Γ) σ') k n q ls (r.toList ++ rest)) : zVw Γ (zwl (zw Γ) σ) k n pc ls st := by
  obtain ⟨hd, rfl⟩ := hd
  obtain ⟨m1, m2, m3, m4, m5⟩ := hm
  intro H locs arr hP hD hS hl'
  have h8 := h.2.2.2.2.2.2.2.1
  have hT : GoodIn zAL (wsV own idx m.1.cls m.1 (Cond.code m.1 m.2.1 m.2.2.1 m.2.2.2.1 :: zAL)) := by
    intro w hw
    apply zAL_good
    simp only [wsV, List.cons_append, List.nil_append, List.mem_cons] at hw
    rcases hw with rfl | rfl | rfl | rfl | rfl | hw
    · exact m1
    · exact hv.1
    · exact hv.2
    · exact m2
    · exact m3
    · exact hw
  obtain ⟨qc, hq1, hq2⟩ : ∃ qc, vwCl[ci]? = some qc ∧ qc.1 = m.1.cls := by
    cases hx : vwCl[ci]? with
    | none => rw [hx] at hci; cases hci
    | some y => rw [hx] at hci; exact ⟨y, rfl, Option.some.inj hci⟩
  refine zRunEnd (m := m) (args := args) (g := F0 (zmi Γ) pc arr st) hS hD h ?_ hl' kk
  rw [ha]
  refine va_runV (As := As) (rest := rest) (b := (zw Γ).2.2 c) ⟨h.1, h.2.1, h.2.2.1, h.2.2.2.1, h.2.2.2.2.1⟩ (hM (zln Γ) (zw Γ) H.size) (cwV np h.2.2.2.2.1 hT rfl rfl rfl ⟨rfl, m4⟩ ⟨Nat.le_trans hdd h8.1, ?_⟩) ⟨?_, ?_, ?_⟩ rfl hn ?_ hst (lv_room hrest) hd ⟨by simpa using hk.1, by simpa using hk.2⟩
  · show 8 + (m.2.2.1 + 11) + 36 * m.2.2.2.2 ≤ _
    omega
  · intro a U g mk hp
    obtain ⟨e1, e2, qP, qK, qD⟩ := hp
    exact ⟨e1, e2, qP, va_K.moved (u := U) (U := U.calling g mk a) (Vm.Alike.refl U.vm) qK, qD⟩
  · rw [← hq2]
    exact va_recv h.2.2.2.2.2.1 hP hq1 (zwl_at (zw Γ) σ hc)
  · intro U hU hW
    exact ⟨by rw [ha]; rfl, by rw [hU], by rw [hU]; exact hP, va_K.moved hW.alike h.2.2.2.2.2.1, hD.weaken (fun _ _ _ _ => trivial)⟩
  · show arr.size = mL
    rw [← h.2.2.1]
    exact hl'.1
theorem z_callS (h : zOk Γ own b mL d) {m : zQ6} {np : Nat} {args : zW → List Value} {As : List Value} (hd : zD b pc (.invokestatic idx) 3 q) (hm : zMl own idx m np) (hv : Cond.static m.1 ∈ zAL) (hM : zCT m args σ P)
    (ha : args (zw Γ) = As) (hn : As.length = np) (hst : st = As.reverse ++ rest) (hrest : (rest.map fun v => v.category).sum ≤ 8) (hdd : m.2.2.2.2 + 1 ≤ d) (hk : k ≤ (zRm Γ).cells ∧ n ≤ (zRm Γ).slots)
    (kk : ∀ (r : Option Value) (σ' : zM), P r σ' → zVw Γ (zwl (zw Γ) σ') k n q ls (r.toList ++ rest)) : zVw Γ (zwl (zw Γ) σ) k n pc ls st := by
  obtain ⟨hd, rfl⟩ := hd
  obtain ⟨m1, m2, m3, m4, m5⟩ := hm
  intro H locs arr hP hD hS hl'
  have h8 := h.2.2.2.2.2.2.2.1
  have hT : GoodIn zAL (va_wsS own idx m.1 (Cond.code m.1 m.2.1 m.2.2.1 m.2.2.2.1 :: zAL)) := by
    intro w hw
    apply zAL_good
    simp only [va_wsS, List.cons_append, List.nil_append, List.mem_cons] at hw
    rcases hw with rfl | rfl | rfl | rfl | hw
    · exact m1
    · exact hv
    · exact m2
    · exact m3
    · exact hw
  refine zRunEnd (m := m) (args := args) (g := F0 (zmi Γ) pc arr st) hS hD h ?_ hl' kk
  rw [ha]
  refine va_runS (As := As) (rest := rest) ⟨h.1, h.2.1, h.2.2.1, h.2.2.2.1, h.2.2.2.2.1⟩ (hM (zln Γ) (zw Γ) H.size) (va_cwS np h.2.2.2.2.1 hT rfl rfl rfl m4 ⟨Nat.le_trans hdd h8.1, ?_⟩) ⟨?_, ?_⟩ rfl hn ?_ hst (lv_room hrest) hd ⟨by simpa using hk.1, by simpa using hk.2⟩
  · show 8 + (m.2.2.1 + 11) + 36 * m.2.2.2.2 ≤ _
    omega
  · intro a U g mk hp
    obtain ⟨e1, e2, qP, qK, qD⟩ := hp
    exact ⟨e1, e2, qP, va_K.moved (u := U) (U := U.calling g mk a) (Vm.Alike.refl U.vm) qK, qD⟩
  · intro U hU hW
    exact ⟨by rw [ha], by rw [hU], by rw [hU]; exact hP, va_K.moved hW.alike h.2.2.2.2.2.1, hD.weaken (fun _ _ _ _ => trivial)⟩
  · show arr.size = mL
    rw [← h.2.2.1]
    exact hl'.1
end ZC
end
section
theorem L0 : zlay[0]? = some (.inl (7, [some (some 1), some (some 4), some (some 5), some (some 23), some (some 27), some (some 30), none, some none, some none, none])) := rfl
theorem L1 : zlay[1]? = some (.inl (6, [some (some 2), some (some 3), none, none])) := rfl
theorem L2 : zlay[2]? = some (.inr (.inl (1, 300))) := rfl
theorem L3 : zlay[3]? = some (.inr (.inl (0, 3))) := rfl
theorem L4 : zlay[4]? = some (.inl (5, [some (some 5), some (some 21), some (some 22), none, none, none, none, none])) := rfl
theorem L5 : zlay[5]? = some (.inl (1, [some (some 6), some (some 7), some (some 8), some (some 9), some (some 10), some (some 11), some none, none, none, none, none, none, none, none, none, none])) := rfl
theorem L6 : zlay[6]? = some (.inr (.inl (0, 10))) := rfl
theorem L7 : zlay[7]? = some (.inr (.inl (0, 10))) := rfl
theorem L8 : zlay[8]? = some (.inr (.inl (3, 10))) := rfl
theorem L9 : zlay[9]? = some (.inr (.inl (0, 10))) := rfl
theorem L10 : zlay[10]? = some (.inr (.inl (0, 2))) := rfl
theorem L11 : zlay[11]? = some (.inr (.inl (0, 2))) := rfl
theorem L12 : zlay[12]? = some (.inl (4, [some (some 13), some (some 14), some (some 15), some (some 16), some (some 17), none, none, none, none, none, none])) := rfl
theorem L13 : zlay[13]? = some (.inr (.inl (0, 10))) := rfl
theorem L14 : zlay[14]? = some (.inr (.inl (0, 10))) := rfl
theorem L15 : zlay[15]? = some (.inr (.inl (0, 10))) := rfl
theorem L16 : zlay[16]? = some (.inr (.inl (0, 10))) := rfl
theorem L17 : zlay[17]? = some (.inl (0, [some (some 18), some (some 19), some (some 20), none])) := rfl
theorem L18 : zlay[18]? = some (.inr (.inl (0, 8))) := rfl
theorem L19 : zlay[19]? = some (.inr (.inl (0, 8))) := rfl
theorem L20 : zlay[20]? = some (.inr (.inl (0, 100))) := rfl
theorem L21 : zlay[21]? = some (.inr (.inl (0, 144))) := rfl
theorem L22 : zlay[22]? = some (.inr (.inl (0, 144))) := rfl
theorem L23 : zlay[23]? = some (.inl (3, [some (some 24), some (some 25), some (some 26)])) := rfl
theorem L24 : zlay[24]? = some (.inr (.inl (2, 9))) := rfl
theorem L25 : zlay[25]? = some (.inr (.inl (2, 9))) := rfl
theorem L26 : zlay[26]? = some (.inr (.inl (2, 9))) := rfl
theorem L27 : zlay[27]? = some (.inl (2, [some (some 28), some (some 29), none, none, none, none])) := rfl
theorem L28 : zlay[28]? = some (.inr (.inl (0, 9))) := rfl
theorem L29 : zlay[29]? = some (.inr (.inl (0, 9))) := rfl
theorem L30 : zlay[30]? = some (.inr (.inr [31, 35])) := rfl
theorem L31 : zlay[31]? = some (.inl (0, [some (some 32), some (some 33), some (some 34), none])) := rfl
theorem L32 : zlay[32]? = some (.inr (.inl (0, 8))) := rfl
theorem L33 : zlay[33]? = some (.inr (.inl (0, 8))) := rfl
theorem L34 : zlay[34]? = some (.inr (.inl (0, 100))) := rfl
theorem L35 : zlay[35]? = some (.inl (0, [some (some 36), some (some 37), some (some 38), none])) := rfl
theorem L36 : zlay[36]? = some (.inr (.inl (0, 8))) := rfl
theorem L37 : zlay[37]? = some (.inr (.inl (0, 8))) := rfl
theorem L38 : zlay[38]? = some (.inr (.inl (0, 100))) := rfl
theorem L39 : zlay[39]? = some (.inl (4, [some (some 40), some (some 41), some (some 42), some (some 43), some (some 44), none, none, none, none, none, none])) := rfl
theorem L40 : zlay[40]? = some (.inr (.inl (0, 10))) := rfl
theorem L41 : zlay[41]? = some (.inr (.inl (0, 10))) := rfl
theorem L42 : zlay[42]? = some (.inr (.inl (0, 10))) := rfl
theorem L43 : zlay[43]? = some (.inr (.inl (0, 10))) := rfl
theorem L44 : zlay[44]? = some (.inl (0, [some (some 45), some (some 46), some (some 47), none])) := rfl
theorem L45 : zlay[45]? = some (.inr (.inl (0, 8))) := rfl
theorem L46 : zlay[46]? = some (.inr (.inl (0, 8))) := rfl
theorem L47 : zlay[47]? = some (.inr (.inl (0, 100))) := rfl
theorem L48 : zlay[48]? = some (.inl (4, [some (some 49), some (some 50), some (some 51), some (some 52), some (some 53), none, none, none, none, none, none])) := rfl
theorem L49 : zlay[49]? = some (.inr (.inl (0, 10))) := rfl
theorem L50 : zlay[50]? = some (.inr (.inl (0, 10))) := rfl
theorem L51 : zlay[51]? = some (.inr (.inl (0, 10))) := rfl
theorem L52 : zlay[52]? = some (.inr (.inl (0, 10))) := rfl
theorem L53 : zlay[53]? = some (.inl (0, [some (some 54), some (some 55), some (some 56), none])) := rfl
theorem L54 : zlay[54]? = some (.inr (.inl (0, 8))) := rfl
theorem L55 : zlay[55]? = some (.inr (.inl (0, 8))) := rfl
theorem L56 : zlay[56]? = some (.inr (.inl (0, 100))) := rfl
theorem L57 : zlay[57]? = some (.inl (8, [none, some (some 58), some (some 59), some (some 60), some (some 61), some (some 62), some (some 63), some (some 64), some (some 65), some (some 66), some (some 67), some (some 68), some (some 69), some (some 70), none, none, some (some 71), some (some 72), none, some (some 73), none, none, none, none, none, none, none, some (some 74), none, some (some 75), some (some 76), none, some (some 77), some (some 78), some (some 79)])) := rfl
theorem L58 : zlay[58]? = some (.inr (.inl (0, 300))) := rfl
theorem L59 : zlay[59]? = some (.inr (.inl (0, 2))) := rfl
theorem L60 : zlay[60]? = some (.inr (.inl (0, 20))) := rfl
theorem L61 : zlay[61]? = some (.inr (.inl (0, 20))) := rfl
theorem L62 : zlay[62]? = some (.inr (.inl (0, 20))) := rfl
theorem L63 : zlay[63]? = some (.inr (.inl (0, 2))) := rfl
theorem L64 : zlay[64]? = some (.inr (.inl (0, 2))) := rfl
theorem L65 : zlay[65]? = some (.inr (.inl (0, 2))) := rfl
theorem L66 : zlay[66]? = some (.inr (.inl (0, 2))) := rfl
theorem L67 : zlay[67]? = some (.inr (.inl (0, 2))) := rfl
theorem L68 : zlay[68]? = some (.inr (.inl (0, 4))) := rfl
theorem L69 : zlay[69]? = some (.inr (.inl (0, 32))) := rfl
theorem L70 : zlay[70]? = some (.inr (.inl (0, 32))) := rfl
theorem L71 : zlay[71]? = some (.inr (.inl (0, 2))) := rfl
theorem L72 : zlay[72]? = some (.inr (.inl (0, 18))) := rfl
theorem L73 : zlay[73]? = some (.inr (.inl (0, 3))) := rfl
theorem L74 : zlay[74]? = some (.inr (.inl (0, 10))) := rfl
theorem L75 : zlay[75]? = some (.inr (.inl (0, 10))) := rfl
theorem L76 : zlay[76]? = some (.inr (.inl (0, 10))) := rfl
theorem L77 : zlay[77]? = some (.inr (.inl (0, 144))) := rfl
theorem L78 : zlay[78]? = some (.inr (.inl (0, 144))) := rfl
theorem L79 : zlay[79]? = some (.inr (.inl (2, 100))) := rfl
def zPl (p : Nat) : Prop := p = 39 ∨ p = 48
def zCy (p : Nat) : Prop := p = 31 ∨ p = 35 ∨ p = 44 ∨ p = 53
theorem zPl_o {p : Nat} (h : zPl p) : zlay[p]? = some (.inl (4, [some (some (p + 1)), some (some (p + 2)), some (some (p + 3)), some (some (p + 4)), some (some (p + 5)), none, none, none, none, none, none])) := by rcases h with rfl | rfl <;> rfl
theorem zPl_1 {p : Nat} (h : zPl p) : zlay[p + 1]? = some (.inr (.inl (0, 10))) := by rcases h with rfl | rfl <;> rfl
theorem zPl_2 {p : Nat} (h : zPl p) : zlay[p + 2]? = some (.inr (.inl (0, 10))) := by rcases h with rfl | rfl <;> rfl
theorem zPl_3 {p : Nat} (h : zPl p) : zlay[p + 3]? = some (.inr (.inl (0, 10))) := by rcases h with rfl | rfl <;> rfl
theorem zPl_4 {p : Nat} (h : zPl p) : zlay[p + 4]? = some (.inr (.inl (0, 10))) := by rcases h with rfl | rfl <;> rfl
theorem zPl_c {p : Nat} (h : zPl p) : zCy (p + 5) := by rcases h with rfl | rfl <;> simp [zCy]
theorem zCy_o {p : Nat} (h : zCy p) : zlay[p]? = some (.inl (0, [some (some (p + 1)), some (some (p + 2)), some (some (p + 3)), none])) := by rcases h with rfl | rfl | rfl | rfl <;> rfl
theorem zCy_1 {p : Nat} (h : zCy p) : zlay[p + 1]? = some (.inr (.inl (0, 8))) := by rcases h with rfl | rfl | rfl | rfl <;> rfl
theorem zCy_2 {p : Nat} (h : zCy p) : zlay[p + 2]? = some (.inr (.inl (0, 8))) := by rcases h with rfl | rfl | rfl | rfl <;> rfl
theorem zCy_3 {p : Nat} (h : zCy p) : zlay[p + 3]? = some (.inr (.inl (0, 100))) := by rcases h with rfl | rfl | rfl | rfl <;> rfl
set_option maxRecDepth 100000 in
theorem fX0_9 : zFl RX0 9 0 0 := ⟨RX0, TX0, 4, rfl, by decide, rfl, zAL_of 93 (by rfl) rfl, inX0⟩
set_option maxRecDepth 100000 in
theorem fX0_15 : zFl RX0 15 0 1 := ⟨RX0, TX0, 4, rfl, by decide, rfl, zAL_of 97 (by rfl) rfl, inX0⟩
set_option maxRecDepth 100000 in
theorem fX0_18 : zFl RX0 18 0 2 := ⟨RX0, TX0, 4, rfl, by decide, rfl, zAL_of 99 (by rfl) rfl, inX0⟩
set_option maxRecDepth 100000 in
theorem fX0_21 : zFl RX0 21 0 3 := ⟨RX0, TX0, 4, rfl, by decide, rfl, zAL_of 101 (by rfl) rfl, inX0⟩
set_option maxRecDepth 100000 in
theorem fX1_9 : zFl RX1 9 1 0 := ⟨RX1, TX1, 16, rfl, by decide, rfl, zAL_of 179 (by rfl) rfl, inX1⟩
set_option maxRecDepth 100000 in
theorem fX1_15 : zFl RX1 15 1 1 := ⟨RX1, TX1, 16, rfl, by decide, rfl, zAL_of 182 (by rfl) rfl, inX1⟩
set_option maxRecDepth 100000 in
theorem fX1_18 : zFl RX1 18 1 2 := ⟨RX1, TX1, 16, rfl, by decide, rfl, zAL_of 184 (by rfl) rfl, inX1⟩
set_option maxRecDepth 100000 in
theorem fX1_22 : zFl RX1 22 1 3 := ⟨RX1, TX1, 16, rfl, by decide, rfl, zAL_of 185 (by rfl) rfl, inX1⟩
set_option maxRecDepth 100000 in
theorem fX1_25 : zFl RX1 25 1 4 := ⟨RX1, TX1, 16, rfl, by decide, rfl, zAL_of 186 (by rfl) rfl, inX1⟩
set_option maxRecDepth 100000 in
theorem fX1_28 : zFl RX1 28 1 5 := ⟨RX1, TX1, 16, rfl, by decide, rfl, zAL_of 187 (by rfl) rfl, inX1⟩
set_option maxRecDepth 100000 in
theorem fX1_34 : zFl RX1 34 1 6 := ⟨RX1, TX1, 16, rfl, by decide, rfl, zAL_of 188 (by rfl) rfl, inX1⟩
set_option maxRecDepth 100000 in
theorem fX1_38 : zFl RX1 38 4 10 := ⟨RX4, TX4, 11, rfl, by decide, rfl, zAL_of 153 (by rfl) rfl, inX4⟩
set_option maxRecDepth 100000 in
theorem fX1_42 : zFl RX1 42 1 7 := ⟨RX1, TX1, 16, rfl, by decide, rfl, zAL_of 189 (by rfl) rfl, inX1⟩
set_option maxRecDepth 100000 in
theorem fX1_43 : zFl RX1 43 1 8 := ⟨RX1, TX1, 16, rfl, by decide, rfl, zAL_of 192 (by rfl) rfl, inX1⟩
set_option maxRecDepth 100000 in
theorem fX1_46 : zFl RX1 46 1 9 := ⟨RX1, TX1, 16, rfl, by decide, rfl, zAL_of 193 (by rfl) rfl, inX1⟩
set_option maxRecDepth 100000 in
theorem fX1_56 : zFl RX1 56 1 12 := ⟨RX1, TX1, 16, rfl, by decide, rfl, zAL_of 198 (by rfl) rfl, inX1⟩
set_option maxRecDepth 100000 in
theorem fX1_59 : zFl RX1 59 4 5 := ⟨RX4, TX4, 11, rfl, by decide, rfl, zAL_of 143 (by rfl) rfl, inX4⟩
set_option maxRecDepth 100000 in
theorem fX1_81 : zFl RX1 81 4 8 := ⟨RX4, TX4, 11, rfl, by decide, rfl, zAL_of 150 (by rfl) rfl, inX4⟩
set_option maxRecDepth 100000 in
theorem fX1_87 : zFl RX1 87 1 13 := ⟨RX1, TX1, 16, rfl, by decide, rfl, zAL_of 199 (by rfl) rfl, inX1⟩
set_option maxRecDepth 100000 in
theorem fX1_93 : zFl RX1 93 1 10 := ⟨RX1, TX1, 16, rfl, by decide, rfl, zAL_of 195 (by rfl) rfl, inX1⟩
set_option maxRecDepth 100000 in
theorem fX1_96 : zFl RX1 96 1 11 := ⟨RX1, TX1, 16, rfl, by decide, rfl, zAL_of 197 (by rfl) rfl, inX1⟩
set_option maxRecDepth 100000 in
theorem fX1_99 : zFl RX1 99 4 9 := ⟨RX4, TX4, 11, rfl, by decide, rfl, zAL_of 152 (by rfl) rfl, inX4⟩
set_option maxRecDepth 100000 in
theorem fX1_100 : zFl RX1 100 1 14 := ⟨RX1, TX1, 16, rfl, by decide, rfl, zAL_of 200 (by rfl) rfl, inX1⟩
set_option maxRecDepth 100000 in
theorem fX1_103 : zFl RX1 103 1 15 := ⟨RX1, TX1, 16, rfl, by decide, rfl, zAL_of 202 (by rfl) rfl, inX1⟩
set_option maxRecDepth 100000 in
theorem fX1_106 : zFl RX1 106 4 0 := ⟨RX4, TX4, 11, rfl, by decide, rfl, zAL_of 128 (by rfl) rfl, inX4⟩
set_option maxRecDepth 100000 in
theorem fX1_109 : zFl RX1 109 4 2 := ⟨RX4, TX4, 11, rfl, by decide, rfl, zAL_of 134 (by rfl) rfl, inX4⟩
set_option maxRecDepth 100000 in
theorem fX1_116 : zFl RX1 116 4 4 := ⟨RX4, TX4, 11, rfl, by decide, rfl, zAL_of 141 (by rfl) rfl, inX4⟩
set_option maxRecDepth 100000 in
theorem fX1_120 : zFl RX1 120 0 2 := ⟨RX0, TX0, 4, rfl, by decide, rfl, zAL_of 100 (by rfl) rfl, inX0⟩
set_option maxRecDepth 100000 in
theorem fX1_125 : zFl RX1 125 0 3 := ⟨RX0, TX0, 4, rfl, by decide, rfl, zAL_of 104 (by rfl) rfl, inX0⟩
set_option maxRecDepth 100000 in
theorem fX1_126 : zFl RX1 126 0 0 := ⟨RX0, TX0, 4, rfl, by decide, rfl, zAL_of 95 (by rfl) rfl, inX0⟩
set_option maxRecDepth 100000 in
theorem fX1_129 : zFl RX1 129 4 1 := ⟨RX4, TX4, 11, rfl, by decide, rfl, zAL_of 132 (by rfl) rfl, inX4⟩
set_option maxRecDepth 100000 in
theorem kX1_136 : Cond.constantLong RX1 136 (7919) ∈ zAL := zAL_of 472 (by rfl) rfl
set_option maxRecDepth 100000 in
theorem kX1_138 : Cond.constantLong RX1 138 (6151) ∈ zAL := zAL_of 473 (by rfl) rfl
set_option maxRecDepth 100000 in
theorem kX1_140 : Cond.constantLong RX1 140 (3571) ∈ zAL := zAL_of 474 (by rfl) rfl
set_option maxRecDepth 100000 in
theorem kX1_142 : Cond.constantLong RX1 142 (65521) ∈ zAL := zAL_of 475 (by rfl) rfl
set_option maxRecDepth 100000 in
theorem kX1_144 : Cond.constantLong RX1 144 (20) ∈ zAL := zAL_of 476 (by rfl) rfl
set_option maxRecDepth 100000 in
theorem fX1_146 : zFl RX1 146 4 6 := ⟨RX4, TX4, 11, rfl, by decide, rfl, zAL_of 146 (by rfl) rfl, inX4⟩
set_option maxRecDepth 100000 in
theorem fX1_149 : zFl RX1 149 4 3 := ⟨RX4, TX4, 11, rfl, by decide, rfl, zAL_of 137 (by rfl) rfl, inX4⟩
set_option maxRecDepth 100000 in
theorem fX1_155 : zFl RX1 155 4 7 := ⟨RX4, TX4, 11, rfl, by decide, rfl, zAL_of 148 (by rfl) rfl, inX4⟩
set_option maxRecDepth 100000 in
theorem fX2_9 : zFl RX2 9 2 0 := ⟨RX2, TX2, 6, rfl, by decide, rfl, zAL_of 290 (by rfl) rfl, inX2⟩
set_option maxRecDepth 100000 in
theorem fX2_15 : zFl RX2 15 2 1 := ⟨RX2, TX2, 6, rfl, by decide, rfl, zAL_of 291 (by rfl) rfl, inX2⟩
set_option maxRecDepth 100000 in
theorem fX2_18 : zFl RX2 18 2 2 := ⟨RX2, TX2, 6, rfl, by decide, rfl, zAL_of 292 (by rfl) rfl, inX2⟩
set_option maxRecDepth 100000 in
theorem fX2_22 : zFl RX2 22 2 3 := ⟨RX2, TX2, 6, rfl, by decide, rfl, zAL_of 294 (by rfl) rfl, inX2⟩
set_option maxRecDepth 100000 in
theorem fX2_29 : zFl RX2 29 2 4 := ⟨RX2, TX2, 6, rfl, by decide, rfl, zAL_of 296 (by rfl) rfl, inX2⟩
set_option maxRecDepth 100000 in
theorem fX2_32 : zFl RX2 32 2 5 := ⟨RX2, TX2, 6, rfl, by decide, rfl, zAL_of 298 (by rfl) rfl, inX2⟩
set_option maxRecDepth 100000 in
theorem fX3_9 : zFl RX3 9 3 0 := ⟨RX3, TX3, 3, rfl, by decide, rfl, zAL_of 273 (by rfl) rfl, inX3⟩
set_option maxRecDepth 100000 in
theorem fX3_15 : zFl RX3 15 3 1 := ⟨RX3, TX3, 3, rfl, by decide, rfl, zAL_of 274 (by rfl) rfl, inX3⟩
set_option maxRecDepth 100000 in
theorem fX3_18 : zFl RX3 18 3 2 := ⟨RX3, TX3, 3, rfl, by decide, rfl, zAL_of 275 (by rfl) rfl, inX3⟩
set_option maxRecDepth 100000 in
theorem kX3_21 : Cond.constantLong RX3 21 (1000000000) ∈ zAL := zAL_of 645 (by rfl) rfl
set_option maxRecDepth 100000 in
theorem kX3_23 : Cond.constantLong RX3 23 (10) ∈ zAL := zAL_of 646 (by rfl) rfl
set_option maxRecDepth 100000 in
theorem fX4_9 : zFl RX4 9 4 0 := ⟨RX4, TX4, 11, rfl, by decide, rfl, zAL_of 127 (by rfl) rfl, inX4⟩
set_option maxRecDepth 100000 in
theorem fX4_15 : zFl RX4 15 4 1 := ⟨RX4, TX4, 11, rfl, by decide, rfl, zAL_of 130 (by rfl) rfl, inX4⟩
set_option maxRecDepth 100000 in
theorem fX4_18 : zFl RX4 18 4 2 := ⟨RX4, TX4, 11, rfl, by decide, rfl, zAL_of 133 (by rfl) rfl, inX4⟩
set_option maxRecDepth 100000 in
theorem fX4_21 : zFl RX4 21 4 3 := ⟨RX4, TX4, 11, rfl, by decide, rfl, zAL_of 136 (by rfl) rfl, inX4⟩
set_option maxRecDepth 100000 in
theorem fX4_27 : zFl RX4 27 4 4 := ⟨RX4, TX4, 11, rfl, by decide, rfl, zAL_of 138 (by rfl) rfl, inX4⟩
set_option maxRecDepth 100000 in
theorem fX4_34 : zFl RX4 34 4 5 := ⟨RX4, TX4, 11, rfl, by decide, rfl, zAL_of 142 (by rfl) rfl, inX4⟩
set_option maxRecDepth 100000 in
theorem fX4_39 : zFl RX4 39 4 6 := ⟨RX4, TX4, 11, rfl, by decide, rfl, zAL_of 145 (by rfl) rfl, inX4⟩
set_option maxRecDepth 100000 in
theorem fX4_42 : zFl RX4 42 4 7 := ⟨RX4, TX4, 11, rfl, by decide, rfl, zAL_of 147 (by rfl) rfl, inX4⟩
set_option maxRecDepth 100000 in
theorem fX4_45 : zFl RX4 45 4 8 := ⟨RX4, TX4, 11, rfl, by decide, rfl, zAL_of 149 (by rfl) rfl, inX4⟩
set_option maxRecDepth 100000 in
theorem fX4_48 : zFl RX4 48 4 9 := ⟨RX4, TX4, 11, rfl, by decide, rfl, zAL_of 151 (by rfl) rfl, inX4⟩
set_option maxRecDepth 100000 in
theorem fX4_51 : zFl RX4 51 4 10 := ⟨RX4, TX4, 11, rfl, by decide, rfl, zAL_of 154 (by rfl) rfl, inX4⟩
set_option maxRecDepth 100000 in
theorem fX5_12 : zFl RX5 12 5 0 := ⟨RX5, TX5, 8, rfl, by decide, rfl, zAL_of 236 (by rfl) rfl, inX5⟩
set_option maxRecDepth 100000 in
theorem fX5_18 : zFl RX5 18 5 1 := ⟨RX5, TX5, 8, rfl, by decide, rfl, zAL_of 238 (by rfl) rfl, inX5⟩
set_option maxRecDepth 100000 in
theorem fX5_22 : zFl RX5 22 5 2 := ⟨RX5, TX5, 8, rfl, by decide, rfl, zAL_of 239 (by rfl) rfl, inX5⟩
set_option maxRecDepth 100000 in
theorem fX5_29 : zFl RX5 29 1 8 := ⟨RX1, TX1, 16, rfl, by decide, rfl, zAL_of 191 (by rfl) rfl, inX1⟩
set_option maxRecDepth 100000 in
theorem fX5_41 : zFl RX5 41 4 4 := ⟨RX4, TX4, 11, rfl, by decide, rfl, zAL_of 140 (by rfl) rfl, inX4⟩
set_option maxRecDepth 100000 in
theorem fX5_47 : zFl RX5 47 0 0 := ⟨RX0, TX0, 4, rfl, by decide, rfl, zAL_of 94 (by rfl) rfl, inX0⟩
set_option maxRecDepth 100000 in
theorem fX5_56 : zFl RX5 56 0 3 := ⟨RX0, TX0, 4, rfl, by decide, rfl, zAL_of 103 (by rfl) rfl, inX0⟩
set_option maxRecDepth 100000 in
theorem fX5_72 : zFl RX5 72 1 0 := ⟨RX1, TX1, 16, rfl, by decide, rfl, zAL_of 180 (by rfl) rfl, inX1⟩
set_option maxRecDepth 100000 in
theorem fX5_75 : zFl RX5 75 5 3 := ⟨RX5, TX5, 8, rfl, by decide, rfl, zAL_of 240 (by rfl) rfl, inX5⟩
set_option maxRecDepth 100000 in
theorem fX5_82 : zFl RX5 82 5 4 := ⟨RX5, TX5, 8, rfl, by decide, rfl, zAL_of 242 (by rfl) rfl, inX5⟩
set_option maxRecDepth 100000 in
theorem fX5_85 : zFl RX5 85 5 5 := ⟨RX5, TX5, 8, rfl, by decide, rfl, zAL_of 244 (by rfl) rfl, inX5⟩
set_option maxRecDepth 100000 in
theorem fX5_92 : zFl RX5 92 5 6 := ⟨RX5, TX5, 8, rfl, by decide, rfl, zAL_of 246 (by rfl) rfl, inX5⟩
set_option maxRecDepth 100000 in
theorem fX5_95 : zFl RX5 95 5 7 := ⟨RX5, TX5, 8, rfl, by decide, rfl, zAL_of 248 (by rfl) rfl, inX5⟩
set_option maxRecDepth 100000 in
theorem fX5_98 : zFl RX5 98 1 7 := ⟨RX1, TX1, 16, rfl, by decide, rfl, zAL_of 190 (by rfl) rfl, inX1⟩
set_option maxRecDepth 100000 in
theorem fX6_9 : zFl RX6 9 6 0 := ⟨RX6, TX6, 4, rfl, by decide, rfl, zAL_of 53 (by rfl) rfl, inX6⟩
set_option maxRecDepth 100000 in
theorem fX6_15 : zFl RX6 15 6 1 := ⟨RX6, TX6, 4, rfl, by decide, rfl, zAL_of 54 (by rfl) rfl, inX6⟩
set_option maxRecDepth 100000 in
theorem fX6_19 : zFl RX6 19 6 2 := ⟨RX6, TX6, 4, rfl, by decide, rfl, zAL_of 55 (by rfl) rfl, inX6⟩
set_option maxRecDepth 100000 in
theorem fX6_23 : zFl RX6 23 6 3 := ⟨RX6, TX6, 4, rfl, by decide, rfl, zAL_of 57 (by rfl) rfl, inX6⟩
set_option maxRecDepth 100000 in
theorem fX7_10 : zFl RX7 10 7 0 := ⟨RX7, TX7, 10, rfl, by decide, rfl, zAL_of 330 (by rfl) rfl, inX7⟩
set_option maxRecDepth 100000 in
theorem fX7_19 : zFl RX7 19 7 1 := ⟨RX7, TX7, 10, rfl, by decide, rfl, zAL_of 331 (by rfl) rfl, inX7⟩
set_option maxRecDepth 100000 in
theorem fX7_23 : zFl RX7 23 5 0 := ⟨RX5, TX5, 8, rfl, by decide, rfl, zAL_of 237 (by rfl) rfl, inX5⟩
set_option maxRecDepth 100000 in
theorem fX7_27 : zFl RX7 27 7 2 := ⟨RX7, TX7, 10, rfl, by decide, rfl, zAL_of 332 (by rfl) rfl, inX7⟩
set_option maxRecDepth 100000 in
theorem fX7_31 : zFl RX7 31 7 3 := ⟨RX7, TX7, 10, rfl, by decide, rfl, zAL_of 333 (by rfl) rfl, inX7⟩
set_option maxRecDepth 100000 in
theorem fX7_38 : zFl RX7 38 7 4 := ⟨RX7, TX7, 10, rfl, by decide, rfl, zAL_of 334 (by rfl) rfl, inX7⟩
set_option maxRecDepth 100000 in
theorem fX7_45 : zFl RX7 45 7 5 := ⟨RX7, TX7, 10, rfl, by decide, rfl, zAL_of 335 (by rfl) rfl, inX7⟩
set_option maxRecDepth 100000 in
theorem fX7_49 : zFl RX7 49 7 6 := ⟨RX7, TX7, 10, rfl, by decide, rfl, zAL_of 336 (by rfl) rfl, inX7⟩
set_option maxRecDepth 100000 in
theorem fX7_56 : zFl RX7 56 7 7 := ⟨RX7, TX7, 10, rfl, by decide, rfl, zAL_of 337 (by rfl) rfl, inX7⟩
set_option maxRecDepth 100000 in
theorem fX7_60 : zFl RX7 60 7 8 := ⟨RX7, TX7, 10, rfl, by decide, rfl, zAL_of 338 (by rfl) rfl, inX7⟩
set_option maxRecDepth 100000 in
theorem fX7_71 : zFl RX7 71 4 4 := ⟨RX4, TX4, 11, rfl, by decide, rfl, zAL_of 139 (by rfl) rfl, inX4⟩
set_option maxRecDepth 100000 in
theorem fX7_75 : zFl RX7 75 0 3 := ⟨RX0, TX0, 4, rfl, by decide, rfl, zAL_of 102 (by rfl) rfl, inX0⟩
set_option maxRecDepth 100000 in
theorem fX7_78 : zFl RX7 78 7 9 := ⟨RX7, TX7, 10, rfl, by decide, rfl, zAL_of 339 (by rfl) rfl, inX7⟩
set_option maxRecDepth 100000 in
theorem fX7_81 : zFl RX7 81 6 2 := ⟨RX6, TX6, 4, rfl, by decide, rfl, zAL_of 56 (by rfl) rfl, inX6⟩
set_option maxRecDepth 100000 in
theorem fX7_92 : zFl RX7 92 4 5 := ⟨RX4, TX4, 11, rfl, by decide, rfl, zAL_of 144 (by rfl) rfl, inX4⟩
set_option maxRecDepth 100000 in
theorem fX7_102 : zFl RX7 102 4 0 := ⟨RX4, TX4, 11, rfl, by decide, rfl, zAL_of 129 (by rfl) rfl, inX4⟩
set_option maxRecDepth 100000 in
theorem fX7_106 : zFl RX7 106 4 1 := ⟨RX4, TX4, 11, rfl, by decide, rfl, zAL_of 131 (by rfl) rfl, inX4⟩
set_option maxRecDepth 100000 in
theorem fX7_109 : zFl RX7 109 4 2 := ⟨RX4, TX4, 11, rfl, by decide, rfl, zAL_of 135 (by rfl) rfl, inX4⟩
set_option maxRecDepth 100000 in
theorem fX7_115 : zFl RX7 115 1 0 := ⟨RX1, TX1, 16, rfl, by decide, rfl, zAL_of 181 (by rfl) rfl, inX1⟩
set_option maxRecDepth 100000 in
theorem fX7_120 : zFl RX7 120 1 1 := ⟨RX1, TX1, 16, rfl, by decide, rfl, zAL_of 183 (by rfl) rfl, inX1⟩
set_option maxRecDepth 100000 in
theorem fX7_138 : zFl RX7 138 1 10 := ⟨RX1, TX1, 16, rfl, by decide, rfl, zAL_of 196 (by rfl) rfl, inX1⟩
set_option maxRecDepth 100000 in
theorem fX7_139 : zFl RX7 139 1 14 := ⟨RX1, TX1, 16, rfl, by decide, rfl, zAL_of 201 (by rfl) rfl, inX1⟩
set_option maxRecDepth 100000 in
theorem fX7_149 : zFl RX7 149 0 0 := ⟨RX0, TX0, 4, rfl, by decide, rfl, zAL_of 96 (by rfl) rfl, inX0⟩
set_option maxRecDepth 100000 in
theorem fX7_152 : zFl RX7 152 0 1 := ⟨RX0, TX0, 4, rfl, by decide, rfl, zAL_of 98 (by rfl) rfl, inX0⟩
set_option maxRecDepth 100000 in
theorem fX7_176 : zFl RX7 176 5 4 := ⟨RX5, TX5, 8, rfl, by decide, rfl, zAL_of 243 (by rfl) rfl, inX5⟩
set_option maxRecDepth 100000 in
theorem fX7_179 : zFl RX7 179 5 3 := ⟨RX5, TX5, 8, rfl, by decide, rfl, zAL_of 241 (by rfl) rfl, inX5⟩
set_option maxRecDepth 100000 in
theorem fX7_186 : zFl RX7 186 5 5 := ⟨RX5, TX5, 8, rfl, by decide, rfl, zAL_of 245 (by rfl) rfl, inX5⟩
set_option maxRecDepth 100000 in
theorem fX7_189 : zFl RX7 189 5 6 := ⟨RX5, TX5, 8, rfl, by decide, rfl, zAL_of 247 (by rfl) rfl, inX5⟩
set_option maxRecDepth 100000 in
theorem fX7_192 : zFl RX7 192 5 7 := ⟨RX5, TX5, 8, rfl, by decide, rfl, zAL_of 249 (by rfl) rfl, inX5⟩
set_option maxRecDepth 100000 in
theorem kX7_204 : Cond.constantLong RX7 204 (-1) ∈ zAL := zAL_of 636 (by rfl) rfl
set_option maxRecDepth 100000 in
theorem fX7_235 : zFl RX7 235 2 2 := ⟨RX2, TX2, 6, rfl, by decide, rfl, zAL_of 293 (by rfl) rfl, inX2⟩
set_option maxRecDepth 100000 in
theorem fX7_238 : zFl RX7 238 2 3 := ⟨RX2, TX2, 6, rfl, by decide, rfl, zAL_of 295 (by rfl) rfl, inX2⟩
set_option maxRecDepth 100000 in
theorem fX7_244 : zFl RX7 244 2 4 := ⟨RX2, TX2, 6, rfl, by decide, rfl, zAL_of 297 (by rfl) rfl, inX2⟩
set_option maxRecDepth 100000 in
theorem fX7_247 : zFl RX7 247 2 5 := ⟨RX2, TX2, 6, rfl, by decide, rfl, zAL_of 299 (by rfl) rfl, inX2⟩
set_option maxRecDepth 100000 in
theorem fX7_250 : zFl RX7 250 1 9 := ⟨RX1, TX1, 16, rfl, by decide, rfl, zAL_of 194 (by rfl) rfl, inX1⟩
set_option maxRecDepth 100000 in
theorem fX7_257 : zFl RX7 257 4 10 := ⟨RX4, TX4, 11, rfl, by decide, rfl, zAL_of 155 (by rfl) rfl, inX4⟩
set_option maxRecDepth 100000 in
theorem fX8_7 : zFl RX8 7 8 1 := ⟨RX8, TX8, 35, rfl, by decide, rfl, zAL_of 738 (by rfl) rfl, inX8⟩
set_option maxRecDepth 100000 in
theorem fX8_13 : zFl RX8 13 8 2 := ⟨RX8, TX8, 35, rfl, by decide, rfl, zAL_of 739 (by rfl) rfl, inX8⟩
set_option maxRecDepth 100000 in
theorem fX8_16 : zFl RX8 16 8 3 := ⟨RX8, TX8, 35, rfl, by decide, rfl, zAL_of 740 (by rfl) rfl, inX8⟩
set_option maxRecDepth 100000 in
theorem fX8_19 : zFl RX8 19 8 4 := ⟨RX8, TX8, 35, rfl, by decide, rfl, zAL_of 741 (by rfl) rfl, inX8⟩
set_option maxRecDepth 100000 in
theorem fX8_22 : zFl RX8 22 8 5 := ⟨RX8, TX8, 35, rfl, by decide, rfl, zAL_of 742 (by rfl) rfl, inX8⟩
set_option maxRecDepth 100000 in
theorem fX8_25 : zFl RX8 25 8 6 := ⟨RX8, TX8, 35, rfl, by decide, rfl, zAL_of 743 (by rfl) rfl, inX8⟩
set_option maxRecDepth 100000 in
theorem fX8_28 : zFl RX8 28 8 7 := ⟨RX8, TX8, 35, rfl, by decide, rfl, zAL_of 744 (by rfl) rfl, inX8⟩
set_option maxRecDepth 100000 in
theorem fX8_31 : zFl RX8 31 8 8 := ⟨RX8, TX8, 35, rfl, by decide, rfl, zAL_of 745 (by rfl) rfl, inX8⟩
set_option maxRecDepth 100000 in
theorem fX8_34 : zFl RX8 34 8 9 := ⟨RX8, TX8, 35, rfl, by decide, rfl, zAL_of 746 (by rfl) rfl, inX8⟩
set_option maxRecDepth 100000 in
theorem fX8_37 : zFl RX8 37 8 10 := ⟨RX8, TX8, 35, rfl, by decide, rfl, zAL_of 747 (by rfl) rfl, inX8⟩
set_option maxRecDepth 100000 in
theorem fX8_40 : zFl RX8 40 8 11 := ⟨RX8, TX8, 35, rfl, by decide, rfl, zAL_of 748 (by rfl) rfl, inX8⟩
set_option maxRecDepth 100000 in
theorem fX8_43 : zFl RX8 43 8 12 := ⟨RX8, TX8, 35, rfl, by decide, rfl, zAL_of 749 (by rfl) rfl, inX8⟩
set_option maxRecDepth 100000 in
theorem fX8_46 : zFl RX8 46 8 13 := ⟨RX8, TX8, 35, rfl, by decide, rfl, zAL_of 750 (by rfl) rfl, inX8⟩
set_option maxRecDepth 100000 in
theorem fX8_49 : zFl RX8 49 8 16 := ⟨RX8, TX8, 35, rfl, by decide, rfl, zAL_of 753 (by rfl) rfl, inX8⟩
set_option maxRecDepth 100000 in
theorem fX8_52 : zFl RX8 52 8 17 := ⟨RX8, TX8, 35, rfl, by decide, rfl, zAL_of 754 (by rfl) rfl, inX8⟩
set_option maxRecDepth 100000 in
theorem fX8_55 : zFl RX8 55 8 19 := ⟨RX8, TX8, 35, rfl, by decide, rfl, zAL_of 756 (by rfl) rfl, inX8⟩
set_option maxRecDepth 100000 in
theorem fX8_58 : zFl RX8 58 8 27 := ⟨RX8, TX8, 35, rfl, by decide, rfl, zAL_of 764 (by rfl) rfl, inX8⟩
set_option maxRecDepth 100000 in
theorem fX8_61 : zFl RX8 61 8 29 := ⟨RX8, TX8, 35, rfl, by decide, rfl, zAL_of 766 (by rfl) rfl, inX8⟩
set_option maxRecDepth 100000 in
theorem fX8_64 : zFl RX8 64 8 30 := ⟨RX8, TX8, 35, rfl, by decide, rfl, zAL_of 767 (by rfl) rfl, inX8⟩
set_option maxRecDepth 100000 in
theorem fX8_67 : zFl RX8 67 8 32 := ⟨RX8, TX8, 35, rfl, by decide, rfl, zAL_of 769 (by rfl) rfl, inX8⟩
set_option maxRecDepth 100000 in
theorem fX8_70 : zFl RX8 70 8 33 := ⟨RX8, TX8, 35, rfl, by decide, rfl, zAL_of 770 (by rfl) rfl, inX8⟩
set_option maxRecDepth 100000 in
theorem fX8_73 : zFl RX8 73 8 34 := ⟨RX8, TX8, 35, rfl, by decide, rfl, zAL_of 771 (by rfl) rfl, inX8⟩
set_option maxRecDepth 100000 in
theorem kX8_81 : Cond.constantLong RX8 81 (8) ∈ zAL := zAL_of 847 (by rfl) rfl
set_option maxRecDepth 100000 in
theorem fX8_87 : zFl RX8 87 8 0 := ⟨RX8, TX8, 35, rfl, by decide, rfl, zAL_of 737 (by rfl) rfl, inX8⟩
set_option maxRecDepth 100000 in
theorem kX8_91 : Cond.constantLong RX8 91 (255) ∈ zAL := zAL_of 851 (by rfl) rfl
set_option maxRecDepth 100000 in
theorem fX8_93 : zFl RX8 93 8 18 := ⟨RX8, TX8, 35, rfl, by decide, rfl, zAL_of 755 (by rfl) rfl, inX8⟩
set_option maxRecDepth 100000 in
theorem kX8_100 : Cond.constantLong RX8 100 (48) ∈ zAL := zAL_of 876 (by rfl) rfl
set_option maxRecDepth 100000 in
theorem kX8_102 : Cond.constantLong RX8 102 (57) ∈ zAL := zAL_of 877 (by rfl) rfl
set_option maxRecDepth 100000 in
theorem kX8_104 : Cond.constantLong RX8 104 (2) ∈ zAL := zAL_of 878 (by rfl) rfl
set_option maxRecDepth 100000 in
theorem kX8_110 : Cond.constantLong RX8 110 (9) ∈ zAL := zAL_of 879 (by rfl) rfl
set_option maxRecDepth 100000 in
theorem fX8_124 : zFl RX8 124 8 14 := ⟨RX8, TX8, 35, rfl, by decide, rfl, zAL_of 751 (by rfl) rfl, inX8⟩
set_option maxRecDepth 100000 in
theorem fX8_127 : zFl RX8 127 8 15 := ⟨RX8, TX8, 35, rfl, by decide, rfl, zAL_of 752 (by rfl) rfl, inX8⟩
set_option maxRecDepth 100000 in
theorem fX8_130 : zFl RX8 130 8 20 := ⟨RX8, TX8, 35, rfl, by decide, rfl, zAL_of 757 (by rfl) rfl, inX8⟩
set_option maxRecDepth 100000 in
theorem fX8_133 : zFl RX8 133 8 21 := ⟨RX8, TX8, 35, rfl, by decide, rfl, zAL_of 758 (by rfl) rfl, inX8⟩
set_option maxRecDepth 100000 in
theorem fX8_136 : zFl RX8 136 8 23 := ⟨RX8, TX8, 35, rfl, by decide, rfl, zAL_of 760 (by rfl) rfl, inX8⟩
set_option maxRecDepth 100000 in
theorem fX8_139 : zFl RX8 139 8 25 := ⟨RX8, TX8, 35, rfl, by decide, rfl, zAL_of 762 (by rfl) rfl, inX8⟩
set_option maxRecDepth 100000 in
theorem fX8_142 : zFl RX8 142 8 26 := ⟨RX8, TX8, 35, rfl, by decide, rfl, zAL_of 763 (by rfl) rfl, inX8⟩
set_option maxRecDepth 100000 in
theorem fX8_145 : zFl RX8 145 8 28 := ⟨RX8, TX8, 35, rfl, by decide, rfl, zAL_of 765 (by rfl) rfl, inX8⟩
set_option maxRecDepth 100000 in
theorem kX8_148 : Cond.constantLong RX8 148 (7919) ∈ zAL := zAL_of 921 (by rfl) rfl
set_option maxRecDepth 100000 in
theorem kX8_150 : Cond.constantLong RX8 150 (6151) ∈ zAL := zAL_of 922 (by rfl) rfl
set_option maxRecDepth 100000 in
theorem kX8_152 : Cond.constantLong RX8 152 (3571) ∈ zAL := zAL_of 923 (by rfl) rfl
set_option maxRecDepth 100000 in
theorem kX8_154 : Cond.constantLong RX8 154 (65521) ∈ zAL := zAL_of 924 (by rfl) rfl
set_option maxRecDepth 100000 in
theorem kX8_156 : Cond.constantLong RX8 156 (20) ∈ zAL := zAL_of 925 (by rfl) rfl
set_option maxRecDepth 100000 in
theorem fX8_161 : zFl RX8 161 8 22 := ⟨RX8, TX8, 35, rfl, by decide, rfl, zAL_of 759 (by rfl) rfl, inX8⟩
set_option maxRecDepth 100000 in
theorem fX8_164 : zFl RX8 164 8 24 := ⟨RX8, TX8, 35, rfl, by decide, rfl, zAL_of 761 (by rfl) rfl, inX8⟩
set_option maxRecDepth 100000 in
theorem fX8_171 : zFl RX8 171 8 31 := ⟨RX8, TX8, 35, rfl, by decide, rfl, zAL_of 768 (by rfl) rfl, inX8⟩
set_option maxRecDepth 100000 in
theorem kX8_199 : Cond.constantLong RX8 199 (4) ∈ zAL := zAL_of 896 (by rfl) rfl
set_option maxRecDepth 100000 in
theorem kX8_204 : Cond.constantLong RX8 204 (199) ∈ zAL := zAL_of 945 (by rfl) rfl
set_option maxRecDepth 100000 in
theorem kX8_206 : Cond.constantLong RX8 206 (5) ∈ zAL := zAL_of 954 (by rfl) rfl
set_option maxRecDepth 100000 in
theorem kX8_220 : Cond.constantLong RX8 220 (99) ∈ zAL := zAL_of 983 (by rfl) rfl
set_option maxRecDepth 100000 in
theorem kX8_225 : Cond.constantLong RX8 225 (-1) ∈ zAL := zAL_of 1007 (by rfl) rfl
set_option maxRecDepth 100000 in
theorem kX8_227 : Cond.constantLong RX8 227 (3) ∈ zAL := zAL_of 1008 (by rfl) rfl
set_option maxRecDepth 100000 in
theorem kX8_232 : Cond.constantLong RX8 232 (10) ∈ zAL := zAL_of 1020 (by rfl) rfl
set_option maxRecDepth 100000 in
theorem kX8_258 : Cond.constantLong RX8 258 (9999) ∈ zAL := zAL_of 1067 (by rfl) rfl
set_option maxRecDepth 100000 in
theorem kJ6_265 : Cond.constant RJ6 265 (1431655765) ∈ zAL := zAL_of 583 (by rfl) rfl
set_option maxRecDepth 100000 in
theorem kJ6_266 : Cond.constant RJ6 266 (858993459) ∈ zAL := zAL_of 584 (by rfl) rfl
set_option maxRecDepth 100000 in
theorem kJ6_267 : Cond.constant RJ6 267 (252645135) ∈ zAL := zAL_of 585 (by rfl) rfl
set_option maxRecDepth 100000 in
theorem kL_13 : Cond.constantLong RL 13 (4294967295) ∈ zAL := zAL_of 1080 (by rfl) rfl
theorem pX0_3 : zFp 0 3 .int := ⟨RX0, TX0, 4, tyX0, rfl, rfl, tyX0_ok, nmX0, by decide +kernel⟩
theorem pX1_6 : zFp 1 6 (.object "QueueTurns$Plan") := ⟨RX1, TX1, 16, tyX1, rfl, rfl, tyX1_ok, nmX1, by decide +kernel⟩
theorem pX1_7 : zFp 1 7 .int := ⟨RX1, TX1, 16, tyX1, rfl, rfl, tyX1_ok, nmX1, by decide +kernel⟩
theorem pX1_8 : zFp 1 8 .int := ⟨RX1, TX1, 16, tyX1, rfl, rfl, tyX1_ok, nmX1, by decide +kernel⟩
theorem pX1_9 : zFp 1 9 .int := ⟨RX1, TX1, 16, tyX1, rfl, rfl, tyX1_ok, nmX1, by decide +kernel⟩
theorem pX1_10 : zFp 1 10 .int := ⟨RX1, TX1, 16, tyX1, rfl, rfl, tyX1_ok, nmX1, by decide +kernel⟩
theorem pX1_11 : zFp 1 11 .int := ⟨RX1, TX1, 16, tyX1, rfl, rfl, tyX1_ok, nmX1, by decide +kernel⟩
theorem pX1_12 : zFp 1 12 .int := ⟨RX1, TX1, 16, tyX1, rfl, rfl, tyX1_ok, nmX1, by decide +kernel⟩
theorem pX1_13 : zFp 1 13 .int := ⟨RX1, TX1, 16, tyX1, rfl, rfl, tyX1_ok, nmX1, by decide +kernel⟩
theorem pX1_14 : zFp 1 14 .int := ⟨RX1, TX1, 16, tyX1, rfl, rfl, tyX1_ok, nmX1, by decide +kernel⟩
theorem pX1_15 : zFp 1 15 .int := ⟨RX1, TX1, 16, tyX1, rfl, rfl, tyX1_ok, nmX1, by decide +kernel⟩
theorem pX2_2 : zFp 2 2 .int := ⟨RX2, TX2, 6, tyX2, rfl, rfl, tyX2_ok, nmX2, by decide +kernel⟩
theorem pX2_3 : zFp 2 3 .int := ⟨RX2, TX2, 6, tyX2, rfl, rfl, tyX2_ok, nmX2, by decide +kernel⟩
theorem pX2_4 : zFp 2 4 .int := ⟨RX2, TX2, 6, tyX2, rfl, rfl, tyX2_ok, nmX2, by decide +kernel⟩
theorem pX2_5 : zFp 2 5 .int := ⟨RX2, TX2, 6, tyX2, rfl, rfl, tyX2_ok, nmX2, by decide +kernel⟩
theorem pX4_5 : zFp 4 5 .int := ⟨RX4, TX4, 11, tyX4, rfl, rfl, tyX4_ok, nmX4, by decide +kernel⟩
theorem pX4_6 : zFp 4 6 .int := ⟨RX4, TX4, 11, tyX4, rfl, rfl, tyX4_ok, nmX4, by decide +kernel⟩
theorem pX4_7 : zFp 4 7 .int := ⟨RX4, TX4, 11, tyX4, rfl, rfl, tyX4_ok, nmX4, by decide +kernel⟩
theorem pX4_8 : zFp 4 8 .int := ⟨RX4, TX4, 11, tyX4, rfl, rfl, tyX4_ok, nmX4, by decide +kernel⟩
theorem pX4_9 : zFp 4 9 .int := ⟨RX4, TX4, 11, tyX4, rfl, rfl, tyX4_ok, nmX4, by decide +kernel⟩
theorem pX4_10 : zFp 4 10 .int := ⟨RX4, TX4, 11, tyX4, rfl, rfl, tyX4_ok, nmX4, by decide +kernel⟩
theorem pX5_3 : zFp 5 3 .int := ⟨RX5, TX5, 8, tyX5, rfl, rfl, tyX5_ok, nmX5, by decide +kernel⟩
theorem pX5_4 : zFp 5 4 .int := ⟨RX5, TX5, 8, tyX5, rfl, rfl, tyX5_ok, nmX5, by decide +kernel⟩
theorem pX5_5 : zFp 5 5 .int := ⟨RX5, TX5, 8, tyX5, rfl, rfl, tyX5_ok, nmX5, by decide +kernel⟩
theorem pX5_6 : zFp 5 6 .int := ⟨RX5, TX5, 8, tyX5, rfl, rfl, tyX5_ok, nmX5, by decide +kernel⟩
theorem pX5_7 : zFp 5 7 .int := ⟨RX5, TX5, 8, tyX5, rfl, rfl, tyX5_ok, nmX5, by decide +kernel⟩
theorem pX6_2 : zFp 6 2 .int := ⟨RX6, TX6, 4, tyX6, rfl, rfl, tyX6_ok, nmX6, by decide +kernel⟩
theorem pX6_3 : zFp 6 3 .int := ⟨RX6, TX6, 4, tyX6, rfl, rfl, tyX6_ok, nmX6, by decide +kernel⟩
theorem pX7_6 : zFp 7 6 .int := ⟨RX7, TX7, 10, tyX7, rfl, rfl, tyX7_ok, nmX7, by decide +kernel⟩
theorem pX7_7 : zFp 7 7 (.object "QueueTurns$Plan") := ⟨RX7, TX7, 10, tyX7, rfl, rfl, tyX7_ok, nmX7, by decide +kernel⟩
theorem pX7_8 : zFp 7 8 (.object "QueueTurns$Plan") := ⟨RX7, TX7, 10, tyX7, rfl, rfl, tyX7_ok, nmX7, by decide +kernel⟩
theorem pX7_9 : zFp 7 9 .int := ⟨RX7, TX7, 10, tyX7, rfl, rfl, tyX7_ok, nmX7, by decide +kernel⟩
theorem pX8_0 : zFp 8 0 .int := ⟨RX8, TX8, 35, tyX8, rfl, rfl, tyX8_ok, nmX8, by decide +kernel⟩
theorem pX8_14 : zFp 8 14 .int := ⟨RX8, TX8, 35, tyX8, rfl, rfl, tyX8_ok, nmX8, by decide +kernel⟩
theorem pX8_15 : zFp 8 15 .int := ⟨RX8, TX8, 35, tyX8, rfl, rfl, tyX8_ok, nmX8, by decide +kernel⟩
theorem pX8_18 : zFp 8 18 .int := ⟨RX8, TX8, 35, tyX8, rfl, rfl, tyX8_ok, nmX8, by decide +kernel⟩
theorem pX8_20 : zFp 8 20 .int := ⟨RX8, TX8, 35, tyX8, rfl, rfl, tyX8_ok, nmX8, by decide +kernel⟩
theorem pX8_21 : zFp 8 21 .int := ⟨RX8, TX8, 35, tyX8, rfl, rfl, tyX8_ok, nmX8, by decide +kernel⟩
theorem pX8_22 : zFp 8 22 .int := ⟨RX8, TX8, 35, tyX8, rfl, rfl, tyX8_ok, nmX8, by decide +kernel⟩
theorem pX8_23 : zFp 8 23 .int := ⟨RX8, TX8, 35, tyX8, rfl, rfl, tyX8_ok, nmX8, by decide +kernel⟩
theorem pX8_24 : zFp 8 24 .int := ⟨RX8, TX8, 35, tyX8, rfl, rfl, tyX8_ok, nmX8, by decide +kernel⟩
theorem pX8_25 : zFp 8 25 .int := ⟨RX8, TX8, 35, tyX8, rfl, rfl, tyX8_ok, nmX8, by decide +kernel⟩
theorem pX8_26 : zFp 8 26 .int := ⟨RX8, TX8, 35, tyX8, rfl, rfl, tyX8_ok, nmX8, by decide +kernel⟩
theorem pX8_28 : zFp 8 28 .int := ⟨RX8, TX8, 35, tyX8, rfl, rfl, tyX8_ok, nmX8, by decide +kernel⟩
theorem pX8_31 : zFp 8 31 .int := ⟨RX8, TX8, 35, tyX8, rfl, rfl, tyX8_ok, nmX8, by decide +kernel⟩
abbrev mX0_init : zQ6 := (yX0_init, cX0_init, 1, none, 1)
abbrev mX0_add : zQ6 := (yX0_add, cX0_add, 3, some .boolean, 0)
abbrev mX0_dropLast : zQ6 := (yX0_dropLast, cX0_dropLast, 1, none, 0)
abbrev mX0_clear : zQ6 := (yX0_clear, cX0_clear, 2, none, 1)
abbrev mX0_copyFrom : zQ6 := (yX0_copyFrom, cX0_copyFrom, 3, none, 2)
abbrev mX1_init : zQ6 := (yX1_init, cX1_init, 1, none, 4)
abbrev mX1_asTold : zQ6 := (yX1_asTold, cX1_asTold, 3, none, 0)
abbrev mX1_addExtra : zQ6 := (yX1_addExtra, cX1_addExtra, 4, none, 1)
abbrev mX1_runTo : zQ6 := (yX1_runTo, cX1_runTo, 3, none, 2)
abbrev mX1_begin : zQ6 := (yX1_begin, cX1_begin, 2, none, 0)
abbrev mX1_letGoAway : zQ6 := (yX1_letGoAway, cX1_letGoAway, 5, none, 1)
abbrev mX1_isToldCry : zQ6 := (yX1_isToldCry, cX1_isToldCry, 4, some .boolean, 0)
abbrev mX1_isExtraCry : zQ6 := (yX1_isExtraCry, cX1_isExtraCry, 3, some .boolean, 0)
abbrev mX1_isDrawnCry : zQ6 := (yX1_isDrawnCry, cX1_isDrawnCry, 4, some .boolean, 1)
abbrev mX1_isDrawn : zQ6 := (yX1_isDrawn, cX1_isDrawn, 5, some .boolean, 0)
abbrev mX1_turn : zQ6 := (yX1_turn, cX1_turn, 5, none, 0)
abbrev mX1_letCome : zQ6 := (yX1_letCome, cX1_letCome, 2, none, 1)
abbrev mX1_join : zQ6 := (yX1_join, cX1_join, 4, none, 0)
abbrev mX1_serve : zQ6 := (yX1_serve, cX1_serve, 4, none, 1)
abbrev mX1_sendHome : zQ6 := (yX1_sendHome, cX1_sendHome, 3, none, 1)
abbrev mX1_end : zQ6 := (yX1_end, cX1_end, 4, none, 0)
abbrev mX1_placeOf : zQ6 := (yX1_placeOf, cX1_placeOf, 3, some .int, 0)
abbrev mX1_manyOf : zQ6 := (yX1_manyOf, cX1_manyOf, 4, some .int, 0)
abbrev mX1_timeOf : zQ6 := (yX1_timeOf, cX1_timeOf, 2, some .int, 0)
abbrev mX1_unfair : zQ6 := (yX1_unfair, cX1_unfair, 6, some .int, 0)
abbrev mX2_init : zQ6 := (yX2_init, cX2_init, 1, none, 1)
abbrev mX2_manyIn : zQ6 := (yX2_manyIn, cX2_manyIn, 2, some .int, 0)
abbrev mX2_isIn : zQ6 := (yX2_isIn, cX2_isIn, 4, some .boolean, 1)
abbrev mX2_add : zQ6 := (yX2_add, cX2_add, 3, none, 0)
abbrev mX2_forget : zQ6 := (yX2_forget, cX2_forget, 1, none, 0)
abbrev mX2_findTurns : zQ6 := (yX2_findTurns, cX2_findTurns, 3, none, 1)
abbrev mX2_isFitting : zQ6 := (yX2_isFitting, cX2_isFitting, 7, some .boolean, 0)
abbrev mX3_init : zQ6 := (yX3_init, cX3_init, 1, none, 1)
abbrev mX3_findChances : zQ6 := (yX3_findChances, cX3_findChances, 9, none, 0)
abbrev mX3_meanAbove : zQ6 := (yX3_meanAbove, cX3_meanAbove, 7, some .long, 1)
abbrev mX3_chanceAbove : zQ6 := (yX3_chanceAbove, cX3_chanceAbove, 8, some .long, 1)
abbrev mX3_lowest : zQ6 := (yX3_lowest, cX3_lowest, 11, some .long, 0)
abbrev mX3_bestPlace : zQ6 := (yX3_bestPlace, cX3_bestPlace, 9, some .int, 2)
abbrev mX3_bestEnd : zQ6 := (yX3_bestEnd, cX3_bestEnd, 3, some .int, 2)
abbrev mX4_init : zQ6 := (yX4_init, cX4_init, 1, none, 3)
abbrev mX4_clear : zQ6 := (yX4_clear, cX4_clear, 1, none, 2)
abbrev mX4_isTold : zQ6 := (yX4_isTold, cX4_isTold, 2, some .boolean, 0)
abbrev mX4_hasChild : zQ6 := (yX4_hasChild, cX4_hasChild, 2, some .boolean, 1)
abbrev mX4_take : zQ6 := (yX4_take, cX4_take, 5, some .boolean, 2)
abbrev mX4_addPerson : zQ6 := (yX4_addPerson, cX4_addPerson, 5, some .boolean, 0)
abbrev mX4_addCry : zQ6 := (yX4_addCry, cX4_addCry, 3, some .boolean, 1)
abbrev mX4_setService : zQ6 := (yX4_setService, cX4_setService, 3, some .boolean, 0)
abbrev mX5_init : zQ6 := (yX5_init, cX5_init, 1, none, 5)
abbrev mX5_timeWithout : zQ6 := (yX5_timeWithout, cX5_timeWithout, 4, some .int, 3)
abbrev mX5_gainedBy : zQ6 := (yX5_gainedBy, cX5_gainedBy, 4, some .int, 4)
abbrev mX5_mostGained : zQ6 := (yX5_mostGained, cX5_mostGained, 6, some .int, 5)
abbrev mX5_fewestHushed : zQ6 := (yX5_fewestHushed, cX5_fewestHushed, 7, some .int, 4)
abbrev mX5_isServedBy : zQ6 := (yX5_isServedBy, cX5_isServedBy, 5, some .boolean, 3)
abbrev mX5_cryOnceMore : zQ6 := (yX5_cryOnceMore, cX5_cryOnceMore, 6, none, 4)
abbrev mX5_play : zQ6 := (yX5_play, cX5_play, 6, none, 3)
abbrev mX5_isRest : zQ6 := (yX5_isRest, cX5_isRest, 6, some .boolean, 0)
abbrev mX5_unfairBy : zQ6 := (yX5_unfairBy, cX5_unfairBy, 3, some .int, 3)
abbrev mX5_bestLaw : zQ6 := (yX5_bestLaw, cX5_bestLaw, 6, some .int, 4)
abbrev mX6_init : zQ6 := (yX6_init, cX6_init, 1, none, 1)
abbrev mX6_append : zQ6 := (yX6_append, cX6_append, 2, none, 0)
abbrev mX6_readInto : zQ6 := (yX6_readInto, cX6_readInto, 4, some .int, 4)
abbrev mX6_readItem : zQ6 := (yX6_readItem, cX6_readItem, 4, some .boolean, 3)
abbrev mX6_numbersOf : zQ6 := (yX6_numbersOf, cX6_numbersOf, 1, some .int, 0)
abbrev mX6_readNumbers : zQ6 := (yX6_readNumbers, cX6_readNumbers, 3, some .boolean, 2)
abbrev mX6_readNumber : zQ6 := (yX6_readNumber, cX6_readNumber, 3, some .int, 1)
abbrev mX6_figureAt : zQ6 := (yX6_figureAt, cX6_figureAt, 1, some .int, 0)
abbrev mX6_nextByte : zQ6 := (yX6_nextByte, cX6_nextByte, 2, some .int, 0)
abbrev mX7_init : zQ6 := (yX7_init, cX7_init, 1, none, 6)
abbrev mX7_write : zQ6 := (yX7_write, cX7_write, 5, some .int, 1)
abbrev mX7_wipe : zQ6 := (yX7_wipe, cX7_wipe, 2, some .int, 0)
abbrev mX7_fault : zQ6 := (yX7_fault, cX7_fault, 1, some .int, 5)
abbrev mX7_lay : zQ6 := (yX7_lay, cX7_lay, 2, some .int, 5)
abbrev mX7_person : zQ6 := (yX7_person, cX7_person, 3, some .int, 4)
abbrev mX7_place : zQ6 := (yX7_place, cX7_place, 3, some .int, 3)
abbrev mX7_row : zQ6 := (yX7_row, cX7_row, 2, some .int, 3)
abbrev mX7_all : zQ6 := (yX7_all, cX7_all, 2, some .int, 4)
abbrev mX7_cry : zQ6 := (yX7_cry, cX7_cry, 3, some .int, 5)
abbrev mX7_suspect : zQ6 := (yX7_suspect, cX7_suspect, 1, some .int, 6)
abbrev mX7_tell : zQ6 := (yX7_tell, cX7_tell, 3, some .int, 2)
abbrev mX7_takeBack : zQ6 := (yX7_takeBack, cX7_takeBack, 1, some .int, 1)
abbrev mX7_hush : zQ6 := (yX7_hush, cX7_hush, 3, some .int, 5)
abbrev mX7_again : zQ6 := (yX7_again, cX7_again, 3, some .int, 5)
abbrev mX7_game : zQ6 := (yX7_game, cX7_game, 4, some .int, 4)
abbrev mX7_laws : zQ6 := (yX7_laws, cX7_laws, 2, some .int, 5)
abbrev mX7_mean : zQ6 := (yX7_mean, cX7_mean, 5, some .long, 2)
abbrev mX7_by : zQ6 := (yX7_by, cX7_by, 6, some .long, 2)
abbrev mX7_best : zQ6 := (yX7_best, cX7_best, 4, some .int, 3)
abbrev mX7_name : zQ6 := (yX7_name, cX7_name, 3, some .int, 2)
abbrev mX7_noNames : zQ6 := (yX7_noNames, cX7_noNames, 2, some .int, 1)
abbrev mX7_fits : zQ6 := (yX7_fits, cX7_fits, 2, some .int, 2)
abbrev mX7_drawn : zQ6 := (yX7_drawn, cX7_drawn, 3, some .int, 3)
abbrev mX7_keep : zQ6 := (yX7_keep, cX7_keep, 1, some .int, 3)
abbrev mX7_back : zQ6 := (yX7_back, cX7_back, 1, some .int, 3)
abbrev mX7_count : zQ6 := (yX7_count, cX7_count, 2, some .int, 0)
abbrev mX7_isPerson : zQ6 := (yX7_isPerson, cX7_isPerson, 2, some .boolean, 1)
abbrev mX7_isMinute : zQ6 := (yX7_isMinute, cX7_isMinute, 1, some .boolean, 0)
abbrev mX7_areOdds : zQ6 := (yX7_areOdds, cX7_areOdds, 2, some .boolean, 0)
abbrev mX7_runAsTold : zQ6 := (yX7_runAsTold, cX7_runAsTold, 1, none, 3)
abbrev mX8_init : zQ6 := (yX8_init, cX8_init, 2, none, 1)
abbrev mX8_in : zQ6 := (yX8_in, cX8_in, 6, some .boolean, 0)
abbrev mX8_has : zQ6 := (yX8_has, cX8_has, 2, some .boolean, 0)
abbrev mX8_noMorning : zQ6 := (yX8_noMorning, cX8_noMorning, 2, none, 0)
abbrev mX8_write : zQ6 := (yX8_write, cX8_write, 5, some .int, 1)
abbrev mX8_wipe : zQ6 := (yX8_wipe, cX8_wipe, 2, some .int, 0)
abbrev mX8_byteAt : zQ6 := (yX8_byteAt, cX8_byteAt, 2, some .int, 0)
abbrev mX8_figures : zQ6 := (yX8_figures, cX8_figures, 5, some .boolean, 1)
abbrev mX8_item : zQ6 := (yX8_item, cX8_item, 2, some .boolean, 2)
abbrev mX8_readAll : zQ6 := (yX8_readAll, cX8_readAll, 2, some .int, 3)
abbrev mX8_fault : zQ6 := (yX8_fault, cX8_fault, 1, some .int, 4)
abbrev mX8_copyCries : zQ6 := (yX8_copyCries, cX8_copyCries, 4, none, 0)
abbrev mX8_lay : zQ6 := (yX8_lay, cX8_lay, 2, some .int, 4)
abbrev mX8_isPerson : zQ6 := (yX8_isPerson, cX8_isPerson, 2, some .boolean, 1)
abbrev mX8_asItIs : zQ6 := (yX8_asItIs, cX8_asItIs, 1, none, 0)
abbrev mX8_isInLine : zQ6 := (yX8_isInLine, cX8_isInLine, 4, some .boolean, 0)
abbrev mX8_takeOut : zQ6 := (yX8_takeOut, cX8_takeOut, 3, none, 0)
abbrev mX8_putIn : zQ6 := (yX8_putIn, cX8_putIn, 4, none, 0)
abbrev mX8_doesCry : zQ6 := (yX8_doesCry, cX8_doesCry, 7, some .boolean, 1)
abbrev mX8_turnLine : zQ6 := (yX8_turnLine, cX8_turnLine, 4, none, 0)
abbrev mX8_end : zQ6 := (yX8_end, cX8_end, 4, none, 0)
abbrev mX8_go : zQ6 := (yX8_go, cX8_go, 6, none, 2)
abbrev mX8_goAsItIs : zQ6 := (yX8_goAsItIs, cX8_goAsItIs, 1, none, 3)
abbrev mX8_timeOf : zQ6 := (yX8_timeOf, cX8_timeOf, 2, some .int, 0)
abbrev mX8_unfair : zQ6 := (yX8_unfair, cX8_unfair, 5, some .int, 0)
abbrev mX8_howMany : zQ6 := (yX8_howMany, cX8_howMany, 4, some .int, 0)
abbrev mX8_person : zQ6 := (yX8_person, cX8_person, 3, some .int, 4)
abbrev mX8_place : zQ6 := (yX8_place, cX8_place, 4, some .int, 3)
abbrev mX8_row : zQ6 := (yX8_row, cX8_row, 2, some .int, 3)
abbrev mX8_all : zQ6 := (yX8_all, cX8_all, 2, some .int, 4)
abbrev mX8_gainedOf : zQ6 := (yX8_gainedOf, cX8_gainedOf, 3, some .int, 4)
abbrev mX8_cry : zQ6 := (yX8_cry, cX8_cry, 3, some .int, 5)
abbrev mX8_suspect : zQ6 := (yX8_suspect, cX8_suspect, 5, some .int, 5)
abbrev mX8_tell : zQ6 := (yX8_tell, cX8_tell, 3, some .int, 2)
abbrev mX8_takeBack : zQ6 := (yX8_takeBack, cX8_takeBack, 1, some .int, 0)
abbrev mX8_ones : zQ6 := (yX8_ones, cX8_ones, 3, some .int, 0)
abbrev mX8_hush : zQ6 := (yX8_hush, cX8_hush, 6, some .int, 3)
abbrev mX8_again : zQ6 := (yX8_again, cX8_again, 7, some .int, 4)
abbrev mX8_game : zQ6 := (yX8_game, cX8_game, 9, some .int, 3)
abbrev mX8_unfairBy : zQ6 := (yX8_unfairBy, cX8_unfairBy, 2, some .int, 3)
abbrev mX8_laws : zQ6 := (yX8_laws, cX8_laws, 6, some .int, 4)
abbrev mX8_tens : zQ6 := (yX8_tens, cX8_tens, 4, some .long, 0)
abbrev mX8_behindOf : zQ6 := (yX8_behindOf, cX8_behindOf, 4, some .long, 1)
abbrev mX8_layMeans : zQ6 := (yX8_layMeans, cX8_layMeans, 5, none, 2)
abbrev mX8_layBy : zQ6 := (yX8_layBy, cX8_layBy, 7, none, 2)
abbrev mX8_lowest : zQ6 := (yX8_lowest, cX8_lowest, 11, some .long, 0)
abbrev mX8_areOf : zQ6 := (yX8_areOf, cX8_areOf, 2, some .boolean, 1)
abbrev mX8_mean : zQ6 := (yX8_mean, cX8_mean, 5, some .long, 3)
abbrev mX8_by : zQ6 := (yX8_by, cX8_by, 6, some .long, 3)
abbrev mX8_best : zQ6 := (yX8_best, cX8_best, 6, some .int, 3)
abbrev mX8_name : zQ6 := (yX8_name, cX8_name, 4, some .int, 1)
abbrev mX8_noNames : zQ6 := (yX8_noNames, cX8_noNames, 2, some .int, 0)
abbrev mX8_isFit : zQ6 := (yX8_isFit, cX8_isFit, 9, some .boolean, 1)
abbrev mX8_fits : zQ6 := (yX8_fits, cX8_fits, 6, some .int, 2)
abbrev mX8_drawn : zQ6 := (yX8_drawn, cX8_drawn, 3, some .int, 3)
abbrev mX8_keep : zQ6 := (yX8_keep, cX8_keep, 1, some .int, 1)
abbrev mX8_back : zQ6 := (yX8_back, cX8_back, 1, some .int, 1)
abbrev mX8_count : zQ6 := (yX8_count, cX8_count, 2, some .int, 0)
abbrev mJ6_bitCount_0f7a4 : zQ6 := (yJ6_bitCount_0f7a4, cJ6_bitCount_0f7a4, 1, some .int, 0)
abbrev mJ9_min_7cf53 : zQ6 := (yJ9_min_7cf53, cJ9_min_7cf53, 2, some .int, 0)
set_option maxRecDepth 100000 in
theorem lX0_25 : zMl RX0 25 mX0_dropLast 0 := ⟨zAL_of 123 (by rfl) rfl, zAL_of 33 (by rfl) rfl, zAL_of 126 (by rfl) rfl, ⟨by decide, by decide, by decide +kernel⟩, by decide⟩
set_option maxRecDepth 100000 in
theorem vX0_dropLast : zMv mX0_dropLast := ⟨zAL_of 124 (by rfl) rfl, zAL_of 125 (by rfl) rfl⟩
set_option maxRecDepth 100000 in
theorem lX0_28 : zMl RX0 28 mX0_clear 0 := ⟨zAL_of 717 (by rfl) rfl, zAL_of 33 (by rfl) rfl, zAL_of 122 (by rfl) rfl, ⟨by decide, by decide, by decide +kernel⟩, by decide⟩
set_option maxRecDepth 100000 in
theorem vX0_clear : zMv mX0_clear := ⟨zAL_of 120 (by rfl) rfl, zAL_of 121 (by rfl) rfl⟩
set_option maxRecDepth 100000 in
theorem lX0_31 : zMl RX0 31 mX0_add 2 := ⟨zAL_of 718 (by rfl) rfl, zAL_of 33 (by rfl) rfl, zAL_of 329 (by rfl) rfl, ⟨by decide, by decide, by decide +kernel⟩, by decide⟩
set_option maxRecDepth 100000 in
theorem vX0_add : zMv mX0_add := ⟨zAL_of 327 (by rfl) rfl, zAL_of 328 (by rfl) rfl⟩
set_option maxRecDepth 100000 in
theorem lX1_49 : zMl RX1 49 mX4_isTold 1 := ⟨zAL_of 602 (by rfl) rfl, zAL_of 32 (by rfl) rfl, zAL_of 417 (by rfl) rfl, ⟨by decide, by decide, by decide +kernel⟩, by decide⟩
set_option maxRecDepth 100000 in
theorem vX4_isTold : zMv mX4_isTold := ⟨zAL_of 415 (by rfl) rfl, zAL_of 416 (by rfl) rfl⟩
set_option maxRecDepth 100000 in
theorem lX1_53 : zMl RX1 53 mX1_begin 0 := ⟨zAL_of 452 (by rfl) rfl, zAL_of 31 (by rfl) rfl, zAL_of 455 (by rfl) rfl, ⟨by decide, by decide, by decide +kernel⟩, by decide⟩
set_option maxRecDepth 100000 in
theorem vX1_begin : zMv mX1_begin := ⟨zAL_of 453 (by rfl) rfl, zAL_of 454 (by rfl) rfl⟩
set_option maxRecDepth 100000 in
theorem lX1_62 : zMl RX1 62 mX1_letGoAway 1 := ⟨zAL_of 456 (by rfl) rfl, zAL_of 31 (by rfl) rfl, zAL_of 459 (by rfl) rfl, ⟨by decide, by decide, by decide +kernel⟩, by decide⟩
set_option maxRecDepth 100000 in
theorem vX1_letGoAway : zMv mX1_letGoAway := ⟨zAL_of 457 (by rfl) rfl, zAL_of 458 (by rfl) rfl⟩
set_option maxRecDepth 100000 in
theorem lX1_66 : zMl RX1 66 mX1_isDrawnCry 1 := ⟨zAL_of 464 (by rfl) rfl, zAL_of 31 (by rfl) rfl, zAL_of 467 (by rfl) rfl, ⟨by decide, by decide, by decide +kernel⟩, by decide⟩
set_option maxRecDepth 100000 in
theorem vX1_isDrawnCry : zMv mX1_isDrawnCry := ⟨zAL_of 465 (by rfl) rfl, zAL_of 466 (by rfl) rfl⟩
set_option maxRecDepth 100000 in
theorem lX1_69 : zMl RX1 69 mX1_isToldCry 1 := ⟨zAL_of 477 (by rfl) rfl, zAL_of 31 (by rfl) rfl, zAL_of 480 (by rfl) rfl, ⟨by decide, by decide, by decide +kernel⟩, by decide⟩
set_option maxRecDepth 100000 in
theorem vX1_isToldCry : zMv mX1_isToldCry := ⟨zAL_of 478 (by rfl) rfl, zAL_of 479 (by rfl) rfl⟩
set_option maxRecDepth 100000 in
theorem lX1_72 : zMl RX1 72 mX1_isExtraCry 1 := ⟨zAL_of 481 (by rfl) rfl, zAL_of 31 (by rfl) rfl, zAL_of 484 (by rfl) rfl, ⟨by decide, by decide, by decide +kernel⟩, by decide⟩
set_option maxRecDepth 100000 in
theorem vX1_isExtraCry : zMv mX1_isExtraCry := ⟨zAL_of 482 (by rfl) rfl, zAL_of 483 (by rfl) rfl⟩
set_option maxRecDepth 100000 in
theorem lX1_75 : zMl RX1 75 mX1_turn 1 := ⟨zAL_of 485 (by rfl) rfl, zAL_of 31 (by rfl) rfl, zAL_of 488 (by rfl) rfl, ⟨by decide, by decide, by decide +kernel⟩, by decide⟩
set_option maxRecDepth 100000 in
theorem vX1_turn : zMv mX1_turn := ⟨zAL_of 486 (by rfl) rfl, zAL_of 487 (by rfl) rfl⟩
set_option maxRecDepth 100000 in
theorem lX1_78 : zMl RX1 78 mX1_letCome 1 := ⟨zAL_of 489 (by rfl) rfl, zAL_of 31 (by rfl) rfl, zAL_of 492 (by rfl) rfl, ⟨by decide, by decide, by decide +kernel⟩, by decide⟩
set_option maxRecDepth 100000 in
theorem vX1_letCome : zMv mX1_letCome := ⟨zAL_of 490 (by rfl) rfl, zAL_of 491 (by rfl) rfl⟩
set_option maxRecDepth 100000 in
theorem lX1_84 : zMl RX1 84 mX1_serve 1 := ⟨zAL_of 497 (by rfl) rfl, zAL_of 31 (by rfl) rfl, zAL_of 500 (by rfl) rfl, ⟨by decide, by decide, by decide +kernel⟩, by decide⟩
set_option maxRecDepth 100000 in
theorem vX1_serve : zMv mX1_serve := ⟨zAL_of 498 (by rfl) rfl, zAL_of 499 (by rfl) rfl⟩
set_option maxRecDepth 100000 in
theorem lX1_90 : zMl RX1 90 mX1_sendHome 1 := ⟨zAL_of 504 (by rfl) rfl, zAL_of 31 (by rfl) rfl, zAL_of 507 (by rfl) rfl, ⟨by decide, by decide, by decide +kernel⟩, by decide⟩
set_option maxRecDepth 100000 in
theorem vX1_sendHome : zMv mX1_sendHome := ⟨zAL_of 505 (by rfl) rfl, zAL_of 506 (by rfl) rfl⟩
set_option maxRecDepth 100000 in
theorem lX1_112 : zMl RX1 112 mX1_end 3 := ⟨zAL_of 460 (by rfl) rfl, zAL_of 31 (by rfl) rfl, zAL_of 463 (by rfl) rfl, ⟨by decide, by decide, by decide +kernel⟩, by decide⟩
set_option maxRecDepth 100000 in
theorem vX1_end : zMv mX1_end := ⟨zAL_of 461 (by rfl) rfl, zAL_of 462 (by rfl) rfl⟩
set_option maxRecDepth 100000 in
theorem lX1_132 : zMl RX1 132 mX1_isDrawn 2 := ⟨zAL_of 468 (by rfl) rfl, zAL_of 31 (by rfl) rfl, zAL_of 471 (by rfl) rfl, ⟨by decide, by decide, by decide +kernel⟩, by decide⟩
set_option maxRecDepth 100000 in
theorem vX1_isDrawn : zMv mX1_isDrawn := ⟨zAL_of 469 (by rfl) rfl, zAL_of 470 (by rfl) rfl⟩
set_option maxRecDepth 100000 in
theorem lX1_152 : zMl RX1 152 mX1_join 1 := ⟨zAL_of 493 (by rfl) rfl, zAL_of 31 (by rfl) rfl, zAL_of 496 (by rfl) rfl, ⟨by decide, by decide, by decide +kernel⟩, by decide⟩
set_option maxRecDepth 100000 in
theorem vX1_join : zMv mX1_join := ⟨zAL_of 494 (by rfl) rfl, zAL_of 495 (by rfl) rfl⟩
set_option maxRecDepth 100000 in
theorem lX2_25 : zMl RX2 25 mX2_manyIn 1 := ⟨zAL_of 680 (by rfl) rfl, zAL_of 35 (by rfl) rfl, zAL_of 683 (by rfl) rfl, ⟨by decide, by decide, by decide +kernel⟩, by decide⟩
set_option maxRecDepth 100000 in
theorem vX2_manyIn : zMv mX2_manyIn := ⟨zAL_of 681 (by rfl) rfl, zAL_of 682 (by rfl) rfl⟩
set_option maxRecDepth 100000 in
theorem lX2_35 : zMl RX2 35 mX2_isFitting 1 := ⟨zAL_of 701 (by rfl) rfl, zAL_of 35 (by rfl) rfl, zAL_of 704 (by rfl) rfl, ⟨by decide, by decide, by decide +kernel⟩, by decide⟩
set_option maxRecDepth 100000 in
theorem vX2_isFitting : zMv mX2_isFitting := ⟨zAL_of 702 (by rfl) rfl, zAL_of 703 (by rfl) rfl⟩
set_option maxRecDepth 100000 in
theorem lX3_25 : zMl RX3 25 mX3_findChances 3 := ⟨zAL_of 641 (by rfl) rfl, zAL_of 34 (by rfl) rfl, zAL_of 644 (by rfl) rfl, ⟨by decide, by decide, by decide +kernel⟩, by decide⟩
set_option maxRecDepth 100000 in
theorem vX3_findChances : zMv mX3_findChances := ⟨zAL_of 642 (by rfl) rfl, zAL_of 643 (by rfl) rfl⟩
set_option maxRecDepth 100000 in
theorem lX3_29 : zMl RX3 29 mX3_meanAbove 3 := ⟨zAL_of 667 (by rfl) rfl, zAL_of 34 (by rfl) rfl, zAL_of 640 (by rfl) rfl, ⟨by decide, by decide, by decide +kernel⟩, by decide⟩
set_option maxRecDepth 100000 in
theorem vX3_meanAbove : zMv mX3_meanAbove := ⟨zAL_of 638 (by rfl) rfl, zAL_of 639 (by rfl) rfl⟩
set_option maxRecDepth 100000 in
theorem lX4_31 : zMl RX4 31 mX4_clear 0 := ⟨zAL_of 115 (by rfl) rfl, zAL_of 32 (by rfl) rfl, zAL_of 118 (by rfl) rfl, ⟨by decide, by decide, by decide +kernel⟩, by decide⟩
set_option maxRecDepth 100000 in
theorem vX4_clear : zMv mX4_clear := ⟨zAL_of 116 (by rfl) rfl, zAL_of 117 (by rfl) rfl⟩
set_option maxRecDepth 100000 in
theorem lX4_38 : zMl RX4 38 mX0_clear 0 := ⟨zAL_of 119 (by rfl) rfl, zAL_of 33 (by rfl) rfl, zAL_of 122 (by rfl) rfl, ⟨by decide, by decide, by decide +kernel⟩, by decide⟩
set_option maxRecDepth 100000 in
theorem lX4_54 : zMl RX4 54 mX4_isTold 1 := ⟨zAL_of 414 (by rfl) rfl, zAL_of 32 (by rfl) rfl, zAL_of 417 (by rfl) rfl, ⟨by decide, by decide, by decide +kernel⟩, by decide⟩
set_option maxRecDepth 100000 in
theorem lX4_58 : zMl RX4 58 mX4_addPerson 3 := ⟨zAL_of 409 (by rfl) rfl, zAL_of 32 (by rfl) rfl, zAL_of 321 (by rfl) rfl, ⟨by decide, by decide, by decide +kernel⟩, by decide⟩
set_option maxRecDepth 100000 in
theorem vX4_addPerson : zMv mX4_addPerson := ⟨zAL_of 319 (by rfl) rfl, zAL_of 320 (by rfl) rfl⟩
set_option maxRecDepth 100000 in
theorem lX4_62 : zMl RX4 62 mX4_hasChild 1 := ⟨zAL_of 410 (by rfl) rfl, zAL_of 32 (by rfl) rfl, zAL_of 413 (by rfl) rfl, ⟨by decide, by decide, by decide +kernel⟩, by decide⟩
set_option maxRecDepth 100000 in
theorem vX4_hasChild : zMv mX4_hasChild := ⟨zAL_of 411 (by rfl) rfl, zAL_of 412 (by rfl) rfl⟩
set_option maxRecDepth 100000 in
theorem lX4_65 : zMl RX4 65 mX4_addCry 2 := ⟨zAL_of 418 (by rfl) rfl, zAL_of 32 (by rfl) rfl, zAL_of 325 (by rfl) rfl, ⟨by decide, by decide, by decide +kernel⟩, by decide⟩
set_option maxRecDepth 100000 in
theorem vX4_addCry : zMv mX4_addCry := ⟨zAL_of 323 (by rfl) rfl, zAL_of 324 (by rfl) rfl⟩
set_option maxRecDepth 100000 in
theorem lX4_69 : zMl RX4 69 mX4_setService 2 := ⟨zAL_of 419 (by rfl) rfl, zAL_of 32 (by rfl) rfl, zAL_of 422 (by rfl) rfl, ⟨by decide, by decide, by decide +kernel⟩, by decide⟩
set_option maxRecDepth 100000 in
theorem vX4_setService : zMv mX4_setService := ⟨zAL_of 420 (by rfl) rfl, zAL_of 421 (by rfl) rfl⟩
set_option maxRecDepth 100000 in
theorem lX4_72 : zMl RX4 72 mX0_add 2 := ⟨zAL_of 326 (by rfl) rfl, zAL_of 33 (by rfl) rfl, zAL_of 329 (by rfl) rfl, ⟨by decide, by decide, by decide +kernel⟩, by decide⟩
set_option maxRecDepth 100000 in
theorem lX5_25 : zMl RX5 25 mX1_asTold 1 := ⟨zAL_of 547 (by rfl) rfl, zAL_of 31 (by rfl) rfl, zAL_of 447 (by rfl) rfl, ⟨by decide, by decide, by decide +kernel⟩, by decide⟩
set_option maxRecDepth 100000 in
theorem vX1_asTold : zMv mX1_asTold := ⟨zAL_of 445 (by rfl) rfl, zAL_of 446 (by rfl) rfl⟩
set_option maxRecDepth 100000 in
theorem lX5_33 : zMl RX5 33 mX1_runTo 1 := ⟨zAL_of 548 (by rfl) rfl, zAL_of 31 (by rfl) rfl, zAL_of 451 (by rfl) rfl, ⟨by decide, by decide, by decide +kernel⟩, by decide⟩
set_option maxRecDepth 100000 in
theorem vX1_runTo : zMv mX1_runTo := ⟨zAL_of 449 (by rfl) rfl, zAL_of 450 (by rfl) rfl⟩
set_option maxRecDepth 100000 in
theorem lX5_37 : zMl RX5 37 mX1_timeOf 1 := ⟨zAL_of 549 (by rfl) rfl, zAL_of 31 (by rfl) rfl, zAL_of 552 (by rfl) rfl, ⟨by decide, by decide, by decide +kernel⟩, by decide⟩
set_option maxRecDepth 100000 in
theorem vX1_timeOf : zMv mX1_timeOf := ⟨zAL_of 550 (by rfl) rfl, zAL_of 551 (by rfl) rfl⟩
set_option maxRecDepth 100000 in
theorem lX5_52 : zMl RX5 52 mX5_timeWithout 3 := ⟨zAL_of 543 (by rfl) rfl, zAL_of 30 (by rfl) rfl, zAL_of 546 (by rfl) rfl, ⟨by decide, by decide, by decide +kernel⟩, by decide⟩
set_option maxRecDepth 100000 in
theorem vX5_timeWithout : zMv mX5_timeWithout := ⟨zAL_of 544 (by rfl) rfl, zAL_of 545 (by rfl) rfl⟩
set_option maxRecDepth 100000 in
theorem lX5_59 : zMl RX5 59 mX5_gainedBy 2 := ⟨zAL_of 561 (by rfl) rfl, zAL_of 30 (by rfl) rfl, zAL_of 542 (by rfl) rfl, ⟨by decide, by decide, by decide +kernel⟩, by decide⟩
set_option maxRecDepth 100000 in
theorem vX5_gainedBy : zMv mX5_gainedBy := ⟨zAL_of 540 (by rfl) rfl, zAL_of 541 (by rfl) rfl⟩
set_option maxRecDepth 100000 in
theorem lX5_63 : zMl RX5 63 mJ6_bitCount_0f7a4 1 := ⟨zAL_of 580 (by rfl) rfl, zAL_of 38 (by rfl) rfl, zAL_of 582 (by rfl) rfl, ⟨by decide, by decide, by decide +kernel⟩, by decide⟩
set_option maxRecDepth 100000 in
theorem vJ6_bitCount_0f7a4 : Cond.static mJ6_bitCount_0f7a4.1 ∈ zAL := zAL_of 581 (by rfl) rfl
set_option maxRecDepth 100000 in
theorem lX5_68 : zMl RX5 68 mX5_isServedBy 4 := ⟨zAL_of 586 (by rfl) rfl, zAL_of 30 (by rfl) rfl, zAL_of 589 (by rfl) rfl, ⟨by decide, by decide, by decide +kernel⟩, by decide⟩
set_option maxRecDepth 100000 in
theorem vX5_isServedBy : zMv mX5_isServedBy := ⟨zAL_of 587 (by rfl) rfl, zAL_of 588 (by rfl) rfl⟩
set_option maxRecDepth 100000 in
theorem lX5_78 : zMl RX5 78 mX1_addExtra 3 := ⟨zAL_of 598 (by rfl) rfl, zAL_of 31 (by rfl) rfl, zAL_of 601 (by rfl) rfl, ⟨by decide, by decide, by decide +kernel⟩, by decide⟩
set_option maxRecDepth 100000 in
theorem vX1_addExtra : zMv mX1_addExtra := ⟨zAL_of 599 (by rfl) rfl, zAL_of 600 (by rfl) rfl⟩
set_option maxRecDepth 100000 in
theorem lX5_88 : zMl RX5 88 mX5_isRest 2 := ⟨zAL_of 611 (by rfl) rfl, zAL_of 30 (by rfl) rfl, zAL_of 614 (by rfl) rfl, ⟨by decide, by decide, by decide +kernel⟩, by decide⟩
set_option maxRecDepth 100000 in
theorem vX5_isRest : zMv mX5_isRest := ⟨zAL_of 612 (by rfl) rfl, zAL_of 613 (by rfl) rfl⟩
set_option maxRecDepth 100000 in
theorem lX5_101 : zMl RX5 101 mX1_unfair 0 := ⟨zAL_of 627 (by rfl) rfl, zAL_of 31 (by rfl) rfl, zAL_of 530 (by rfl) rfl, ⟨by decide, by decide, by decide +kernel⟩, by decide⟩
set_option maxRecDepth 100000 in
theorem vX1_unfair : zMv mX1_unfair := ⟨zAL_of 528 (by rfl) rfl, zAL_of 529 (by rfl) rfl⟩
set_option maxRecDepth 100000 in
theorem lX5_105 : zMl RX5 105 mX5_unfairBy 2 := ⟨zAL_of 623 (by rfl) rfl, zAL_of 30 (by rfl) rfl, zAL_of 626 (by rfl) rfl, ⟨by decide, by decide, by decide +kernel⟩, by decide⟩
set_option maxRecDepth 100000 in
theorem vX5_unfairBy : zMv mX5_unfairBy := ⟨zAL_of 624 (by rfl) rfl, zAL_of 625 (by rfl) rfl⟩
set_option maxRecDepth 100000 in
theorem lX6_26 : zMl RX6 26 mX4_clear 0 := ⟨zAL_of 381 (by rfl) rfl, zAL_of 32 (by rfl) rfl, zAL_of 118 (by rfl) rfl, ⟨by decide, by decide, by decide +kernel⟩, by decide⟩
set_option maxRecDepth 100000 in
theorem lX6_31 : zMl RX6 31 mX6_readItem 1 := ⟨zAL_of 382 (by rfl) rfl, zAL_of 29 (by rfl) rfl, zAL_of 385 (by rfl) rfl, ⟨by decide, by decide, by decide +kernel⟩, by decide⟩
set_option maxRecDepth 100000 in
theorem vX6_readItem : zMv mX6_readItem := ⟨zAL_of 383 (by rfl) rfl, zAL_of 384 (by rfl) rfl⟩
set_option maxRecDepth 100000 in
theorem lX6_35 : zMl RX6 35 mX6_nextByte 0 := ⟨zAL_of 386 (by rfl) rfl, zAL_of 29 (by rfl) rfl, zAL_of 389 (by rfl) rfl, ⟨by decide, by decide, by decide +kernel⟩, by decide⟩
set_option maxRecDepth 100000 in
theorem vX6_nextByte : zMv mX6_nextByte := ⟨zAL_of 387 (by rfl) rfl, zAL_of 388 (by rfl) rfl⟩
set_option maxRecDepth 100000 in
theorem lX6_39 : zMl RX6 39 mX6_numbersOf 1 := ⟨zAL_of 390 (by rfl) rfl, zAL_of 29 (by rfl) rfl, zAL_of 392 (by rfl) rfl, ⟨by decide, by decide, by decide +kernel⟩, by decide⟩
set_option maxRecDepth 100000 in
theorem vX6_numbersOf : Cond.static mX6_numbersOf.1 ∈ zAL := zAL_of 391 (by rfl) rfl
set_option maxRecDepth 100000 in
theorem lX6_43 : zMl RX6 43 mX6_readNumbers 1 := ⟨zAL_of 393 (by rfl) rfl, zAL_of 29 (by rfl) rfl, zAL_of 396 (by rfl) rfl, ⟨by decide, by decide, by decide +kernel⟩, by decide⟩
set_option maxRecDepth 100000 in
theorem vX6_readNumbers : zMv mX6_readNumbers := ⟨zAL_of 394 (by rfl) rfl, zAL_of 395 (by rfl) rfl⟩
set_option maxRecDepth 100000 in
theorem lX6_47 : zMl RX6 47 mX4_take 4 := ⟨zAL_of 405 (by rfl) rfl, zAL_of 32 (by rfl) rfl, zAL_of 408 (by rfl) rfl, ⟨by decide, by decide, by decide +kernel⟩, by decide⟩
set_option maxRecDepth 100000 in
theorem vX4_take : zMv mX4_take := ⟨zAL_of 406 (by rfl) rfl, zAL_of 407 (by rfl) rfl⟩
set_option maxRecDepth 100000 in
theorem lX6_51 : zMl RX6 51 mX6_readNumber 0 := ⟨zAL_of 397 (by rfl) rfl, zAL_of 29 (by rfl) rfl, zAL_of 400 (by rfl) rfl, ⟨by decide, by decide, by decide +kernel⟩, by decide⟩
set_option maxRecDepth 100000 in
theorem vX6_readNumber : zMv mX6_readNumber := ⟨zAL_of 398 (by rfl) rfl, zAL_of 399 (by rfl) rfl⟩
set_option maxRecDepth 100000 in
theorem lX6_54 : zMl RX6 54 mX6_figureAt 0 := ⟨zAL_of 401 (by rfl) rfl, zAL_of 29 (by rfl) rfl, zAL_of 404 (by rfl) rfl, ⟨by decide, by decide, by decide +kernel⟩, by decide⟩
set_option maxRecDepth 100000 in
theorem vX6_figureAt : zMv mX6_figureAt := ⟨zAL_of 402 (by rfl) rfl, zAL_of 403 (by rfl) rfl⟩
set_option maxRecDepth 100000 in
theorem lX7_63 : zMl RX7 63 mX4_addPerson 3 := ⟨zAL_of 318 (by rfl) rfl, zAL_of 32 (by rfl) rfl, zAL_of 321 (by rfl) rfl, ⟨by decide, by decide, by decide +kernel⟩, by decide⟩
set_option maxRecDepth 100000 in
theorem lX7_67 : zMl RX7 67 mX4_addCry 2 := ⟨zAL_of 322 (by rfl) rfl, zAL_of 32 (by rfl) rfl, zAL_of 325 (by rfl) rfl, ⟨by decide, by decide, by decide +kernel⟩, by decide⟩
set_option maxRecDepth 100000 in
theorem lX7_84 : zMl RX7 84 mX6_append 1 := ⟨zAL_of 365 (by rfl) rfl, zAL_of 29 (by rfl) rfl, zAL_of 368 (by rfl) rfl, ⟨by decide, by decide, by decide +kernel⟩, by decide⟩
set_option maxRecDepth 100000 in
theorem vX6_append : zMv mX6_append := ⟨zAL_of 366 (by rfl) rfl, zAL_of 367 (by rfl) rfl⟩
set_option maxRecDepth 100000 in
theorem lX7_88 : zMl RX7 88 mX6_readInto 1 := ⟨zAL_of 377 (by rfl) rfl, zAL_of 29 (by rfl) rfl, zAL_of 380 (by rfl) rfl, ⟨by decide, by decide, by decide +kernel⟩, by decide⟩
set_option maxRecDepth 100000 in
theorem vX6_readInto : zMv mX6_readInto := ⟨zAL_of 378 (by rfl) rfl, zAL_of 379 (by rfl) rfl⟩
set_option maxRecDepth 100000 in
theorem lX7_95 : zMl RX7 95 mX2_forget 0 := ⟨zAL_of 427 (by rfl) rfl, zAL_of 35 (by rfl) rfl, zAL_of 430 (by rfl) rfl, ⟨by decide, by decide, by decide +kernel⟩, by decide⟩
set_option maxRecDepth 100000 in
theorem vX2_forget : zMv mX2_forget := ⟨zAL_of 428 (by rfl) rfl, zAL_of 429 (by rfl) rfl⟩
set_option maxRecDepth 100000 in
theorem lX7_98 : zMl RX7 98 mX7_isPerson 1 := ⟨zAL_of 435 (by rfl) rfl, zAL_of 28 (by rfl) rfl, zAL_of 438 (by rfl) rfl, ⟨by decide, by decide, by decide +kernel⟩, by decide⟩
set_option maxRecDepth 100000 in
theorem vX7_isPerson : zMv mX7_isPerson := ⟨zAL_of 437 (by rfl) rfl, zAL_of 0 (by rfl) rfl⟩
set_option maxRecDepth 100000 in
theorem lX7_112 : zMl RX7 112 mX7_runAsTold 0 := ⟨zAL_of 440 (by rfl) rfl, zAL_of 28 (by rfl) rfl, zAL_of 443 (by rfl) rfl, ⟨by decide, by decide, by decide +kernel⟩, by decide⟩
set_option maxRecDepth 100000 in
theorem vX7_runAsTold : zMv mX7_runAsTold := ⟨zAL_of 442 (by rfl) rfl, zAL_of 1 (by rfl) rfl⟩
set_option maxRecDepth 100000 in
theorem lX7_123 : zMl RX7 123 mX7_isMinute 1 := ⟨zAL_of 512 (by rfl) rfl, zAL_of 28 (by rfl) rfl, zAL_of 514 (by rfl) rfl, ⟨by decide, by decide, by decide +kernel⟩, by decide⟩
set_option maxRecDepth 100000 in
theorem vX7_isMinute : Cond.static mX7_isMinute.1 ∈ zAL := zAL_of 513 (by rfl) rfl
set_option maxRecDepth 100000 in
theorem lX7_126 : zMl RX7 126 mX1_asTold 1 := ⟨zAL_of 444 (by rfl) rfl, zAL_of 31 (by rfl) rfl, zAL_of 447 (by rfl) rfl, ⟨by decide, by decide, by decide +kernel⟩, by decide⟩
set_option maxRecDepth 100000 in
theorem lX7_130 : zMl RX7 130 mX1_runTo 1 := ⟨zAL_of 448 (by rfl) rfl, zAL_of 31 (by rfl) rfl, zAL_of 451 (by rfl) rfl, ⟨by decide, by decide, by decide +kernel⟩, by decide⟩
set_option maxRecDepth 100000 in
theorem lX7_134 : zMl RX7 134 mX1_placeOf 1 := ⟨zAL_of 515 (by rfl) rfl, zAL_of 31 (by rfl) rfl, zAL_of 518 (by rfl) rfl, ⟨by decide, by decide, by decide +kernel⟩, by decide⟩
set_option maxRecDepth 100000 in
theorem vX1_placeOf : zMv mX1_placeOf := ⟨zAL_of 516 (by rfl) rfl, zAL_of 517 (by rfl) rfl⟩
set_option maxRecDepth 100000 in
theorem lX7_142 : zMl RX7 142 mX1_unfair 0 := ⟨zAL_of 527 (by rfl) rfl, zAL_of 31 (by rfl) rfl, zAL_of 530 (by rfl) rfl, ⟨by decide, by decide, by decide +kernel⟩, by decide⟩
set_option maxRecDepth 100000 in
theorem lX7_146 : zMl RX7 146 mX1_manyOf 1 := ⟨zAL_of 531 (by rfl) rfl, zAL_of 31 (by rfl) rfl, zAL_of 534 (by rfl) rfl, ⟨by decide, by decide, by decide +kernel⟩, by decide⟩
set_option maxRecDepth 100000 in
theorem vX1_manyOf : zMv mX1_manyOf := ⟨zAL_of 532 (by rfl) rfl, zAL_of 533 (by rfl) rfl⟩
set_option maxRecDepth 100000 in
theorem lX7_155 : zMl RX7 155 mX5_gainedBy 2 := ⟨zAL_of 539 (by rfl) rfl, zAL_of 30 (by rfl) rfl, zAL_of 542 (by rfl) rfl, ⟨by decide, by decide, by decide +kernel⟩, by decide⟩
set_option maxRecDepth 100000 in
theorem lX7_159 : zMl RX7 159 mX5_mostGained 1 := ⟨zAL_of 557 (by rfl) rfl, zAL_of 30 (by rfl) rfl, zAL_of 560 (by rfl) rfl, ⟨by decide, by decide, by decide +kernel⟩, by decide⟩
set_option maxRecDepth 100000 in
theorem vX5_mostGained : zMv mX5_mostGained := ⟨zAL_of 558 (by rfl) rfl, zAL_of 559 (by rfl) rfl⟩
set_option maxRecDepth 100000 in
theorem lX7_162 : zMl RX7 162 mX4_hasChild 1 := ⟨zAL_of 566 (by rfl) rfl, zAL_of 32 (by rfl) rfl, zAL_of 413 (by rfl) rfl, ⟨by decide, by decide, by decide +kernel⟩, by decide⟩
set_option maxRecDepth 100000 in
theorem lX7_165 : zMl RX7 165 mX0_dropLast 0 := ⟨zAL_of 571 (by rfl) rfl, zAL_of 33 (by rfl) rfl, zAL_of 126 (by rfl) rfl, ⟨by decide, by decide, by decide +kernel⟩, by decide⟩
set_option maxRecDepth 100000 in
theorem lX7_168 : zMl RX7 168 mX5_fewestHushed 3 := ⟨zAL_of 576 (by rfl) rfl, zAL_of 30 (by rfl) rfl, zAL_of 579 (by rfl) rfl, ⟨by decide, by decide, by decide +kernel⟩, by decide⟩
set_option maxRecDepth 100000 in
theorem vX5_fewestHushed : zMv mX5_fewestHushed := ⟨zAL_of 577 (by rfl) rfl, zAL_of 578 (by rfl) rfl⟩
set_option maxRecDepth 100000 in
theorem lX7_172 : zMl RX7 172 mX5_cryOnceMore 2 := ⟨zAL_of 594 (by rfl) rfl, zAL_of 30 (by rfl) rfl, zAL_of 597 (by rfl) rfl, ⟨by decide, by decide, by decide +kernel⟩, by decide⟩
set_option maxRecDepth 100000 in
theorem vX5_cryOnceMore : zMv mX5_cryOnceMore := ⟨zAL_of 595 (by rfl) rfl, zAL_of 596 (by rfl) rfl⟩
set_option maxRecDepth 100000 in
theorem lX7_182 : zMl RX7 182 mX5_play 3 := ⟨zAL_of 607 (by rfl) rfl, zAL_of 30 (by rfl) rfl, zAL_of 610 (by rfl) rfl, ⟨by decide, by decide, by decide +kernel⟩, by decide⟩
set_option maxRecDepth 100000 in
theorem vX5_play : zMv mX5_play := ⟨zAL_of 608 (by rfl) rfl, zAL_of 609 (by rfl) rfl⟩
set_option maxRecDepth 100000 in
theorem lX7_195 : zMl RX7 195 mX5_bestLaw 1 := ⟨zAL_of 619 (by rfl) rfl, zAL_of 30 (by rfl) rfl, zAL_of 622 (by rfl) rfl, ⟨by decide, by decide, by decide +kernel⟩, by decide⟩
set_option maxRecDepth 100000 in
theorem vX5_bestLaw : zMv mX5_bestLaw := ⟨zAL_of 620 (by rfl) rfl, zAL_of 621 (by rfl) rfl⟩
set_option maxRecDepth 100000 in
theorem lX7_198 : zMl RX7 198 mX5_unfairBy 2 := ⟨zAL_of 628 (by rfl) rfl, zAL_of 30 (by rfl) rfl, zAL_of 626 (by rfl) rfl, ⟨by decide, by decide, by decide +kernel⟩, by decide⟩
set_option maxRecDepth 100000 in
theorem lX7_201 : zMl RX7 201 mX7_areOdds 2 := ⟨zAL_of 633 (by rfl) rfl, zAL_of 28 (by rfl) rfl, zAL_of 635 (by rfl) rfl, ⟨by decide, by decide, by decide +kernel⟩, by decide⟩
set_option maxRecDepth 100000 in
theorem vX7_areOdds : Cond.static mX7_areOdds.1 ∈ zAL := zAL_of 634 (by rfl) rfl
set_option maxRecDepth 100000 in
theorem lX7_206 : zMl RX7 206 mX3_meanAbove 3 := ⟨zAL_of 637 (by rfl) rfl, zAL_of 34 (by rfl) rfl, zAL_of 640 (by rfl) rfl, ⟨by decide, by decide, by decide +kernel⟩, by decide⟩
set_option maxRecDepth 100000 in
theorem lX7_210 : zMl RX7 210 mX3_lowest 2 := ⟨zAL_of 647 (by rfl) rfl, zAL_of 34 (by rfl) rfl, zAL_of 650 (by rfl) rfl, ⟨by decide, by decide, by decide +kernel⟩, by decide⟩
set_option maxRecDepth 100000 in
theorem vX3_lowest : zMv mX3_lowest := ⟨zAL_of 648 (by rfl) rfl, zAL_of 649 (by rfl) rfl⟩
set_option maxRecDepth 100000 in
theorem lX7_214 : zMl RX7 214 mX3_chanceAbove 4 := ⟨zAL_of 655 (by rfl) rfl, zAL_of 34 (by rfl) rfl, zAL_of 658 (by rfl) rfl, ⟨by decide, by decide, by decide +kernel⟩, by decide⟩
set_option maxRecDepth 100000 in
theorem vX3_chanceAbove : zMv mX3_chanceAbove := ⟨zAL_of 656 (by rfl) rfl, zAL_of 657 (by rfl) rfl⟩
set_option maxRecDepth 100000 in
theorem lX7_218 : zMl RX7 218 mX3_bestPlace 2 := ⟨zAL_of 663 (by rfl) rfl, zAL_of 34 (by rfl) rfl, zAL_of 666 (by rfl) rfl, ⟨by decide, by decide, by decide +kernel⟩, by decide⟩
set_option maxRecDepth 100000 in
theorem vX3_bestPlace : zMv mX3_bestPlace := ⟨zAL_of 664 (by rfl) rfl, zAL_of 665 (by rfl) rfl⟩
set_option maxRecDepth 100000 in
theorem lX7_222 : zMl RX7 222 mX3_bestEnd 2 := ⟨zAL_of 668 (by rfl) rfl, zAL_of 34 (by rfl) rfl, zAL_of 671 (by rfl) rfl, ⟨by decide, by decide, by decide +kernel⟩, by decide⟩
set_option maxRecDepth 100000 in
theorem vX3_bestEnd : zMv mX3_bestEnd := ⟨zAL_of 669 (by rfl) rfl, zAL_of 670 (by rfl) rfl⟩
set_option maxRecDepth 100000 in
theorem lX7_225 : zMl RX7 225 mX2_isIn 2 := ⟨zAL_of 676 (by rfl) rfl, zAL_of 35 (by rfl) rfl, zAL_of 679 (by rfl) rfl, ⟨by decide, by decide, by decide +kernel⟩, by decide⟩
set_option maxRecDepth 100000 in
theorem vX2_isIn : zMv mX2_isIn := ⟨zAL_of 677 (by rfl) rfl, zAL_of 678 (by rfl) rfl⟩
set_option maxRecDepth 100000 in
theorem lX7_228 : zMl RX7 228 mX2_manyIn 1 := ⟨zAL_of 684 (by rfl) rfl, zAL_of 35 (by rfl) rfl, zAL_of 683 (by rfl) rfl, ⟨by decide, by decide, by decide +kernel⟩, by decide⟩
set_option maxRecDepth 100000 in
theorem lX7_231 : zMl RX7 231 mX2_add 2 := ⟨zAL_of 685 (by rfl) rfl, zAL_of 35 (by rfl) rfl, zAL_of 688 (by rfl) rfl, ⟨by decide, by decide, by decide +kernel⟩, by decide⟩
set_option maxRecDepth 100000 in
theorem vX2_add : zMv mX2_add := ⟨zAL_of 686 (by rfl) rfl, zAL_of 687 (by rfl) rfl⟩
set_option maxRecDepth 100000 in
theorem lX7_241 : zMl RX7 241 mX2_findTurns 0 := ⟨zAL_of 697 (by rfl) rfl, zAL_of 35 (by rfl) rfl, zAL_of 700 (by rfl) rfl, ⟨by decide, by decide, by decide +kernel⟩, by decide⟩
set_option maxRecDepth 100000 in
theorem vX2_findTurns : zMv mX2_findTurns := ⟨zAL_of 698 (by rfl) rfl, zAL_of 699 (by rfl) rfl⟩
set_option maxRecDepth 100000 in
theorem lX7_253 : zMl RX7 253 mX0_copyFrom 1 := ⟨zAL_of 713 (by rfl) rfl, zAL_of 33 (by rfl) rfl, zAL_of 716 (by rfl) rfl, ⟨by decide, by decide, by decide +kernel⟩, by decide⟩
set_option maxRecDepth 100000 in
theorem vX0_copyFrom : zMv mX0_copyFrom := ⟨zAL_of 714 (by rfl) rfl, zAL_of 715 (by rfl) rfl⟩
set_option maxRecDepth 100000 in
theorem lX7_260 : zMl RX7 260 mX4_isTold 1 := ⟨zAL_of 439 (by rfl) rfl, zAL_of 32 (by rfl) rfl, zAL_of 417 (by rfl) rfl, ⟨by decide, by decide, by decide +kernel⟩, by decide⟩
set_option maxRecDepth 100000 in
theorem lX8_77 : zMl RX8 77 mX8_noMorning 1 := ⟨zAL_of 733 (by rfl) rfl, zAL_of 36 (by rfl) rfl, zAL_of 736 (by rfl) rfl, ⟨by decide, by decide, by decide +kernel⟩, by decide⟩
set_option maxRecDepth 100000 in
theorem vX8_noMorning : zMv mX8_noMorning := ⟨zAL_of 735 (by rfl) rfl, zAL_of 2 (by rfl) rfl⟩
set_option maxRecDepth 100000 in
theorem lX8_83 : zMl RX8 83 mX8_in 3 := ⟨zAL_of 848 (by rfl) rfl, zAL_of 36 (by rfl) rfl, zAL_of 850 (by rfl) rfl, ⟨by decide, by decide, by decide +kernel⟩, by decide⟩
set_option maxRecDepth 100000 in
theorem vX8_in : Cond.static mX8_in.1 ∈ zAL := zAL_of 849 (by rfl) rfl
set_option maxRecDepth 100000 in
theorem lX8_96 : zMl RX8 96 mX8_byteAt 1 := ⟨zAL_of 868 (by rfl) rfl, zAL_of 36 (by rfl) rfl, zAL_of 871 (by rfl) rfl, ⟨by decide, by decide, by decide +kernel⟩, by decide⟩
set_option maxRecDepth 100000 in
theorem vX8_byteAt : zMv mX8_byteAt := ⟨zAL_of 870 (by rfl) rfl, zAL_of 5 (by rfl) rfl⟩
set_option maxRecDepth 100000 in
theorem lX8_106 : zMl RX8 106 mX8_figures 1 := ⟨zAL_of 872 (by rfl) rfl, zAL_of 36 (by rfl) rfl, zAL_of 875 (by rfl) rfl, ⟨by decide, by decide, by decide +kernel⟩, by decide⟩
set_option maxRecDepth 100000 in
theorem vX8_figures : zMv mX8_figures := ⟨zAL_of 874 (by rfl) rfl, zAL_of 6 (by rfl) rfl⟩
set_option maxRecDepth 100000 in
theorem lX8_112 : zMl RX8 112 mX8_item 0 := ⟨zAL_of 864 (by rfl) rfl, zAL_of 36 (by rfl) rfl, zAL_of 867 (by rfl) rfl, ⟨by decide, by decide, by decide +kernel⟩, by decide⟩
set_option maxRecDepth 100000 in
theorem vX8_item : zMv mX8_item := ⟨zAL_of 866 (by rfl) rfl, zAL_of 4 (by rfl) rfl⟩
set_option maxRecDepth 100000 in
theorem lX8_116 : zMl RX8 116 mX8_readAll 0 := ⟨zAL_of 860 (by rfl) rfl, zAL_of 36 (by rfl) rfl, zAL_of 863 (by rfl) rfl, ⟨by decide, by decide, by decide +kernel⟩, by decide⟩
set_option maxRecDepth 100000 in
theorem vX8_readAll : zMv mX8_readAll := ⟨zAL_of 862 (by rfl) rfl, zAL_of 3 (by rfl) rfl⟩
set_option maxRecDepth 100000 in
theorem lX8_120 : zMl RX8 120 mX8_copyCries 2 := ⟨zAL_of 884 (by rfl) rfl, zAL_of 36 (by rfl) rfl, zAL_of 887 (by rfl) rfl, ⟨by decide, by decide, by decide +kernel⟩, by decide⟩
set_option maxRecDepth 100000 in
theorem vX8_copyCries : zMv mX8_copyCries := ⟨zAL_of 886 (by rfl) rfl, zAL_of 7 (by rfl) rfl⟩
set_option maxRecDepth 100000 in
theorem lX8_158 : zMl RX8 158 mX8_isInLine 1 := ⟨zAL_of 926 (by rfl) rfl, zAL_of 36 (by rfl) rfl, zAL_of 929 (by rfl) rfl, ⟨by decide, by decide, by decide +kernel⟩, by decide⟩
set_option maxRecDepth 100000 in
theorem vX8_isInLine : zMv mX8_isInLine := ⟨zAL_of 928 (by rfl) rfl, zAL_of 15 (by rfl) rfl⟩
set_option maxRecDepth 100000 in
theorem lX8_167 : zMl RX8 167 mX8_has 2 := ⟨zAL_of 930 (by rfl) rfl, zAL_of 36 (by rfl) rfl, zAL_of 932 (by rfl) rfl, ⟨by decide, by decide, by decide +kernel⟩, by decide⟩
set_option maxRecDepth 100000 in
theorem vX8_has : Cond.static mX8_has.1 ∈ zAL := zAL_of 931 (by rfl) rfl
set_option maxRecDepth 100000 in
theorem lX8_174 : zMl RX8 174 mX8_end 3 := ⟨zAL_of 909 (by rfl) rfl, zAL_of 36 (by rfl) rfl, zAL_of 912 (by rfl) rfl, ⟨by decide, by decide, by decide +kernel⟩, by decide⟩
set_option maxRecDepth 100000 in
theorem vX8_end : zMv mX8_end := ⟨zAL_of 911 (by rfl) rfl, zAL_of 12 (by rfl) rfl⟩
set_option maxRecDepth 100000 in
theorem lX8_178 : zMl RX8 178 mX8_takeOut 1 := ⟨zAL_of 913 (by rfl) rfl, zAL_of 36 (by rfl) rfl, zAL_of 916 (by rfl) rfl, ⟨by decide, by decide, by decide +kernel⟩, by decide⟩
set_option maxRecDepth 100000 in
theorem vX8_takeOut : zMv mX8_takeOut := ⟨zAL_of 915 (by rfl) rfl, zAL_of 13 (by rfl) rfl⟩
set_option maxRecDepth 100000 in
theorem lX8_181 : zMl RX8 181 mX8_doesCry 1 := ⟨zAL_of 917 (by rfl) rfl, zAL_of 36 (by rfl) rfl, zAL_of 920 (by rfl) rfl, ⟨by decide, by decide, by decide +kernel⟩, by decide⟩
set_option maxRecDepth 100000 in
theorem vX8_doesCry : zMv mX8_doesCry := ⟨zAL_of 919 (by rfl) rfl, zAL_of 14 (by rfl) rfl⟩
set_option maxRecDepth 100000 in
theorem lX8_184 : zMl RX8 184 mX8_turnLine 0 := ⟨zAL_of 933 (by rfl) rfl, zAL_of 36 (by rfl) rfl, zAL_of 936 (by rfl) rfl, ⟨by decide, by decide, by decide +kernel⟩, by decide⟩
set_option maxRecDepth 100000 in
theorem vX8_turnLine : zMv mX8_turnLine := ⟨zAL_of 935 (by rfl) rfl, zAL_of 16 (by rfl) rfl⟩
set_option maxRecDepth 100000 in
theorem lX8_187 : zMl RX8 187 mX8_putIn 2 := ⟨zAL_of 937 (by rfl) rfl, zAL_of 36 (by rfl) rfl, zAL_of 940 (by rfl) rfl, ⟨by decide, by decide, by decide +kernel⟩, by decide⟩
set_option maxRecDepth 100000 in
theorem vX8_putIn : zMv mX8_putIn := ⟨zAL_of 939 (by rfl) rfl, zAL_of 17 (by rfl) rfl⟩
set_option maxRecDepth 100000 in
theorem lX8_190 : zMl RX8 190 mX8_asItIs 0 := ⟨zAL_of 901 (by rfl) rfl, zAL_of 36 (by rfl) rfl, zAL_of 904 (by rfl) rfl, ⟨by decide, by decide, by decide +kernel⟩, by decide⟩
set_option maxRecDepth 100000 in
theorem vX8_asItIs : zMv mX8_asItIs := ⟨zAL_of 903 (by rfl) rfl, zAL_of 10 (by rfl) rfl⟩
set_option maxRecDepth 100000 in
theorem lX8_193 : zMl RX8 193 mX8_go 1 := ⟨zAL_of 905 (by rfl) rfl, zAL_of 36 (by rfl) rfl, zAL_of 908 (by rfl) rfl, ⟨by decide, by decide, by decide +kernel⟩, by decide⟩
set_option maxRecDepth 100000 in
theorem vX8_go : zMv mX8_go := ⟨zAL_of 907 (by rfl) rfl, zAL_of 11 (by rfl) rfl⟩
set_option maxRecDepth 100000 in
theorem lX8_196 : zMl RX8 196 mX8_isPerson 1 := ⟨zAL_of 892 (by rfl) rfl, zAL_of 36 (by rfl) rfl, zAL_of 895 (by rfl) rfl, ⟨by decide, by decide, by decide +kernel⟩, by decide⟩
set_option maxRecDepth 100000 in
theorem vX8_isPerson : zMv mX8_isPerson := ⟨zAL_of 894 (by rfl) rfl, zAL_of 8 (by rfl) rfl⟩
set_option maxRecDepth 100000 in
theorem lX8_201 : zMl RX8 201 mX8_goAsItIs 0 := ⟨zAL_of 897 (by rfl) rfl, zAL_of 36 (by rfl) rfl, zAL_of 900 (by rfl) rfl, ⟨by decide, by decide, by decide +kernel⟩, by decide⟩
set_option maxRecDepth 100000 in
theorem vX8_goAsItIs : zMv mX8_goAsItIs := ⟨zAL_of 899 (by rfl) rfl, zAL_of 9 (by rfl) rfl⟩
set_option maxRecDepth 100000 in
theorem lX8_208 : zMl RX8 208 mX8_howMany 1 := ⟨zAL_of 955 (by rfl) rfl, zAL_of 36 (by rfl) rfl, zAL_of 958 (by rfl) rfl, ⟨by decide, by decide, by decide +kernel⟩, by decide⟩
set_option maxRecDepth 100000 in
theorem vX8_howMany : zMv mX8_howMany := ⟨zAL_of 957 (by rfl) rfl, zAL_of 18 (by rfl) rfl⟩
set_option maxRecDepth 100000 in
theorem lX8_211 : zMl RX8 211 mX8_unfair 0 := ⟨zAL_of 959 (by rfl) rfl, zAL_of 36 (by rfl) rfl, zAL_of 962 (by rfl) rfl, ⟨by decide, by decide, by decide +kernel⟩, by decide⟩
set_option maxRecDepth 100000 in
theorem vX8_unfair : zMv mX8_unfair := ⟨zAL_of 961 (by rfl) rfl, zAL_of 19 (by rfl) rfl⟩
set_option maxRecDepth 100000 in
theorem lX8_214 : zMl RX8 214 mX8_timeOf 1 := ⟨zAL_of 971 (by rfl) rfl, zAL_of 36 (by rfl) rfl, zAL_of 974 (by rfl) rfl, ⟨by decide, by decide, by decide +kernel⟩, by decide⟩
set_option maxRecDepth 100000 in
theorem vX8_timeOf : zMv mX8_timeOf := ⟨zAL_of 973 (by rfl) rfl, zAL_of 21 (by rfl) rfl⟩
set_option maxRecDepth 100000 in
theorem lX8_217 : zMl RX8 217 mX8_gainedOf 1 := ⟨zAL_of 967 (by rfl) rfl, zAL_of 36 (by rfl) rfl, zAL_of 970 (by rfl) rfl, ⟨by decide, by decide, by decide +kernel⟩, by decide⟩
set_option maxRecDepth 100000 in
theorem vX8_gainedOf : zMv mX8_gainedOf := ⟨zAL_of 969 (by rfl) rfl, zAL_of 20 (by rfl) rfl⟩
set_option maxRecDepth 100000 in
theorem lX8_222 : zMl RX8 222 mX8_ones 1 := ⟨zAL_of 992 (by rfl) rfl, zAL_of 36 (by rfl) rfl, zAL_of 994 (by rfl) rfl, ⟨by decide, by decide, by decide +kernel⟩, by decide⟩
set_option maxRecDepth 100000 in
theorem vX8_ones : Cond.static mX8_ones.1 ∈ zAL := zAL_of 993 (by rfl) rfl
set_option maxRecDepth 100000 in
theorem lX8_229 : zMl RX8 229 mX8_unfairBy 1 := ⟨zAL_of 1009 (by rfl) rfl, zAL_of 36 (by rfl) rfl, zAL_of 1012 (by rfl) rfl, ⟨by decide, by decide, by decide +kernel⟩, by decide⟩
set_option maxRecDepth 100000 in
theorem vX8_unfairBy : zMv mX8_unfairBy := ⟨zAL_of 1011 (by rfl) rfl, zAL_of 22 (by rfl) rfl⟩
set_option maxRecDepth 100000 in
theorem lX8_234 : zMl RX8 234 mX8_tens 1 := ⟨zAL_of 1029 (by rfl) rfl, zAL_of 36 (by rfl) rfl, zAL_of 1031 (by rfl) rfl, ⟨by decide, by decide, by decide +kernel⟩, by decide⟩
set_option maxRecDepth 100000 in
theorem vX8_tens : Cond.static mX8_tens.1 ∈ zAL := zAL_of 1030 (by rfl) rfl
set_option maxRecDepth 100000 in
theorem lX8_238 : zMl RX8 238 mX8_behindOf 3 := ⟨zAL_of 1025 (by rfl) rfl, zAL_of 36 (by rfl) rfl, zAL_of 1028 (by rfl) rfl, ⟨by decide, by decide, by decide +kernel⟩, by decide⟩
set_option maxRecDepth 100000 in
theorem vX8_behindOf : zMv mX8_behindOf := ⟨zAL_of 1027 (by rfl) rfl, zAL_of 24 (by rfl) rfl⟩
set_option maxRecDepth 100000 in
theorem lX8_242 : zMl RX8 242 mX8_areOf 2 := ⟨zAL_of 1017 (by rfl) rfl, zAL_of 36 (by rfl) rfl, zAL_of 1019 (by rfl) rfl, ⟨by decide, by decide, by decide +kernel⟩, by decide⟩
set_option maxRecDepth 100000 in
theorem vX8_areOf : Cond.static mX8_areOf.1 ∈ zAL := zAL_of 1018 (by rfl) rfl
set_option maxRecDepth 100000 in
theorem lX8_245 : zMl RX8 245 mX8_layMeans 2 := ⟨zAL_of 1021 (by rfl) rfl, zAL_of 36 (by rfl) rfl, zAL_of 1024 (by rfl) rfl, ⟨by decide, by decide, by decide +kernel⟩, by decide⟩
set_option maxRecDepth 100000 in
theorem vX8_layMeans : zMv mX8_layMeans := ⟨zAL_of 1023 (by rfl) rfl, zAL_of 23 (by rfl) rfl⟩
set_option maxRecDepth 100000 in
theorem lX8_248 : zMl RX8 248 mX8_lowest 3 := ⟨zAL_of 1032 (by rfl) rfl, zAL_of 36 (by rfl) rfl, zAL_of 1034 (by rfl) rfl, ⟨by decide, by decide, by decide +kernel⟩, by decide⟩
set_option maxRecDepth 100000 in
theorem vX8_lowest : Cond.static mX8_lowest.1 ∈ zAL := zAL_of 1033 (by rfl) rfl
set_option maxRecDepth 100000 in
theorem lX8_252 : zMl RX8 252 mX8_layBy 3 := ⟨zAL_of 1039 (by rfl) rfl, zAL_of 36 (by rfl) rfl, zAL_of 1042 (by rfl) rfl, ⟨by decide, by decide, by decide +kernel⟩, by decide⟩
set_option maxRecDepth 100000 in
theorem vX8_layBy : zMv mX8_layBy := ⟨zAL_of 1041 (by rfl) rfl, zAL_of 25 (by rfl) rfl⟩
set_option maxRecDepth 100000 in
theorem lX8_255 : zMl RX8 255 mX8_isFit 1 := ⟨zAL_of 1059 (by rfl) rfl, zAL_of 36 (by rfl) rfl, zAL_of 1062 (by rfl) rfl, ⟨by decide, by decide, by decide +kernel⟩, by decide⟩
set_option maxRecDepth 100000 in
theorem vX8_isFit : zMv mX8_isFit := ⟨zAL_of 1061 (by rfl) rfl, zAL_of 26 (by rfl) rfl⟩
set_option maxRecDepth 100000 in
theorem lL_15 : zMl RL 15 mX7_write 2 := ⟨zAL_of 361 (by rfl) rfl, zAL_of 28 (by rfl) rfl, zAL_of 364 (by rfl) rfl, ⟨by decide, by decide, by decide +kernel⟩, by decide⟩
set_option maxRecDepth 100000 in
theorem vX7_write : zMv mX7_write := ⟨zAL_of 362 (by rfl) rfl, zAL_of 363 (by rfl) rfl⟩
set_option maxRecDepth 100000 in
theorem lL_19 : zMl RL 19 mX8_write 2 := ⟨zAL_of 843 (by rfl) rfl, zAL_of 36 (by rfl) rfl, zAL_of 846 (by rfl) rfl, ⟨by decide, by decide, by decide +kernel⟩, by decide⟩
set_option maxRecDepth 100000 in
theorem vX8_write : zMv mX8_write := ⟨zAL_of 844 (by rfl) rfl, zAL_of 845 (by rfl) rfl⟩
set_option maxRecDepth 100000 in
theorem lL_20 : zMl RL 20 mX7_wipe 0 := ⟨zAL_of 369 (by rfl) rfl, zAL_of 28 (by rfl) rfl, zAL_of 372 (by rfl) rfl, ⟨by decide, by decide, by decide +kernel⟩, by decide⟩
set_option maxRecDepth 100000 in
theorem vX7_wipe : zMv mX7_wipe := ⟨zAL_of 370 (by rfl) rfl, zAL_of 371 (by rfl) rfl⟩
set_option maxRecDepth 100000 in
theorem lL_24 : zMl RL 24 mX8_wipe 0 := ⟨zAL_of 852 (by rfl) rfl, zAL_of 36 (by rfl) rfl, zAL_of 855 (by rfl) rfl, ⟨by decide, by decide, by decide +kernel⟩, by decide⟩
set_option maxRecDepth 100000 in
theorem vX8_wipe : zMv mX8_wipe := ⟨zAL_of 853 (by rfl) rfl, zAL_of 854 (by rfl) rfl⟩
set_option maxRecDepth 100000 in
theorem lL_25 : zMl RL 25 mX7_fault 0 := ⟨zAL_of 373 (by rfl) rfl, zAL_of 28 (by rfl) rfl, zAL_of 376 (by rfl) rfl, ⟨by decide, by decide, by decide +kernel⟩, by decide⟩
set_option maxRecDepth 100000 in
theorem vX7_fault : zMv mX7_fault := ⟨zAL_of 374 (by rfl) rfl, zAL_of 375 (by rfl) rfl⟩
set_option maxRecDepth 100000 in
theorem lL_28 : zMl RL 28 mX8_fault 0 := ⟨zAL_of 856 (by rfl) rfl, zAL_of 36 (by rfl) rfl, zAL_of 859 (by rfl) rfl, ⟨by decide, by decide, by decide +kernel⟩, by decide⟩
set_option maxRecDepth 100000 in
theorem vX8_fault : zMv mX8_fault := ⟨zAL_of 857 (by rfl) rfl, zAL_of 858 (by rfl) rfl⟩
set_option maxRecDepth 100000 in
theorem lL_29 : zMl RL 29 mX7_lay 0 := ⟨zAL_of 423 (by rfl) rfl, zAL_of 28 (by rfl) rfl, zAL_of 426 (by rfl) rfl, ⟨by decide, by decide, by decide +kernel⟩, by decide⟩
set_option maxRecDepth 100000 in
theorem vX7_lay : zMv mX7_lay := ⟨zAL_of 424 (by rfl) rfl, zAL_of 425 (by rfl) rfl⟩
set_option maxRecDepth 100000 in
theorem lL_32 : zMl RL 32 mX8_lay 0 := ⟨zAL_of 880 (by rfl) rfl, zAL_of 36 (by rfl) rfl, zAL_of 883 (by rfl) rfl, ⟨by decide, by decide, by decide +kernel⟩, by decide⟩
set_option maxRecDepth 100000 in
theorem vX8_lay : zMv mX8_lay := ⟨zAL_of 881 (by rfl) rfl, zAL_of 882 (by rfl) rfl⟩
set_option maxRecDepth 100000 in
theorem lL_33 : zMl RL 33 mX7_person 2 := ⟨zAL_of 431 (by rfl) rfl, zAL_of 28 (by rfl) rfl, zAL_of 434 (by rfl) rfl, ⟨by decide, by decide, by decide +kernel⟩, by decide⟩
set_option maxRecDepth 100000 in
theorem vX7_person : zMv mX7_person := ⟨zAL_of 432 (by rfl) rfl, zAL_of 433 (by rfl) rfl⟩
set_option maxRecDepth 100000 in
theorem lL_37 : zMl RL 37 mX8_person 2 := ⟨zAL_of 888 (by rfl) rfl, zAL_of 36 (by rfl) rfl, zAL_of 891 (by rfl) rfl, ⟨by decide, by decide, by decide +kernel⟩, by decide⟩
set_option maxRecDepth 100000 in
theorem vX8_person : zMv mX8_person := ⟨zAL_of 889 (by rfl) rfl, zAL_of 890 (by rfl) rfl⟩
set_option maxRecDepth 100000 in
theorem lL_38 : zMl RL 38 mX7_place 2 := ⟨zAL_of 508 (by rfl) rfl, zAL_of 28 (by rfl) rfl, zAL_of 511 (by rfl) rfl, ⟨by decide, by decide, by decide +kernel⟩, by decide⟩
set_option maxRecDepth 100000 in
theorem vX7_place : zMv mX7_place := ⟨zAL_of 509 (by rfl) rfl, zAL_of 510 (by rfl) rfl⟩
set_option maxRecDepth 100000 in
theorem lL_41 : zMl RL 41 mX8_place 2 := ⟨zAL_of 941 (by rfl) rfl, zAL_of 36 (by rfl) rfl, zAL_of 944 (by rfl) rfl, ⟨by decide, by decide, by decide +kernel⟩, by decide⟩
set_option maxRecDepth 100000 in
theorem vX8_place : zMv mX8_place := ⟨zAL_of 942 (by rfl) rfl, zAL_of 943 (by rfl) rfl⟩
set_option maxRecDepth 100000 in
theorem lL_42 : zMl RL 42 mX7_row 1 := ⟨zAL_of 519 (by rfl) rfl, zAL_of 28 (by rfl) rfl, zAL_of 522 (by rfl) rfl, ⟨by decide, by decide, by decide +kernel⟩, by decide⟩
set_option maxRecDepth 100000 in
theorem vX7_row : zMv mX7_row := ⟨zAL_of 520 (by rfl) rfl, zAL_of 521 (by rfl) rfl⟩
set_option maxRecDepth 100000 in
theorem lL_46 : zMl RL 46 mX8_row 1 := ⟨zAL_of 946 (by rfl) rfl, zAL_of 36 (by rfl) rfl, zAL_of 949 (by rfl) rfl, ⟨by decide, by decide, by decide +kernel⟩, by decide⟩
set_option maxRecDepth 100000 in
theorem vX8_row : zMv mX8_row := ⟨zAL_of 947 (by rfl) rfl, zAL_of 948 (by rfl) rfl⟩
set_option maxRecDepth 100000 in
theorem lL_47 : zMl RL 47 mX7_all 1 := ⟨zAL_of 523 (by rfl) rfl, zAL_of 28 (by rfl) rfl, zAL_of 526 (by rfl) rfl, ⟨by decide, by decide, by decide +kernel⟩, by decide⟩
set_option maxRecDepth 100000 in
theorem vX7_all : zMv mX7_all := ⟨zAL_of 524 (by rfl) rfl, zAL_of 525 (by rfl) rfl⟩
set_option maxRecDepth 100000 in
theorem lL_50 : zMl RL 50 mX8_all 1 := ⟨zAL_of 950 (by rfl) rfl, zAL_of 36 (by rfl) rfl, zAL_of 953 (by rfl) rfl, ⟨by decide, by decide, by decide +kernel⟩, by decide⟩
set_option maxRecDepth 100000 in
theorem vX8_all : zMv mX8_all := ⟨zAL_of 951 (by rfl) rfl, zAL_of 952 (by rfl) rfl⟩
set_option maxRecDepth 100000 in
theorem lL_51 : zMl RL 51 mX7_cry 2 := ⟨zAL_of 535 (by rfl) rfl, zAL_of 28 (by rfl) rfl, zAL_of 538 (by rfl) rfl, ⟨by decide, by decide, by decide +kernel⟩, by decide⟩
set_option maxRecDepth 100000 in
theorem vX7_cry : zMv mX7_cry := ⟨zAL_of 536 (by rfl) rfl, zAL_of 537 (by rfl) rfl⟩
set_option maxRecDepth 100000 in
theorem lL_54 : zMl RL 54 mX8_cry 2 := ⟨zAL_of 963 (by rfl) rfl, zAL_of 36 (by rfl) rfl, zAL_of 966 (by rfl) rfl, ⟨by decide, by decide, by decide +kernel⟩, by decide⟩
set_option maxRecDepth 100000 in
theorem vX8_cry : zMv mX8_cry := ⟨zAL_of 964 (by rfl) rfl, zAL_of 965 (by rfl) rfl⟩
set_option maxRecDepth 100000 in
theorem lL_55 : zMl RL 55 mX7_suspect 0 := ⟨zAL_of 553 (by rfl) rfl, zAL_of 28 (by rfl) rfl, zAL_of 556 (by rfl) rfl, ⟨by decide, by decide, by decide +kernel⟩, by decide⟩
set_option maxRecDepth 100000 in
theorem vX7_suspect : zMv mX7_suspect := ⟨zAL_of 554 (by rfl) rfl, zAL_of 555 (by rfl) rfl⟩
set_option maxRecDepth 100000 in
theorem lL_58 : zMl RL 58 mX8_suspect 0 := ⟨zAL_of 975 (by rfl) rfl, zAL_of 36 (by rfl) rfl, zAL_of 978 (by rfl) rfl, ⟨by decide, by decide, by decide +kernel⟩, by decide⟩
set_option maxRecDepth 100000 in
theorem vX8_suspect : zMv mX8_suspect := ⟨zAL_of 976 (by rfl) rfl, zAL_of 977 (by rfl) rfl⟩
set_option maxRecDepth 100000 in
theorem lL_59 : zMl RL 59 mX7_tell 2 := ⟨zAL_of 562 (by rfl) rfl, zAL_of 28 (by rfl) rfl, zAL_of 565 (by rfl) rfl, ⟨by decide, by decide, by decide +kernel⟩, by decide⟩
set_option maxRecDepth 100000 in
theorem vX7_tell : zMv mX7_tell := ⟨zAL_of 563 (by rfl) rfl, zAL_of 564 (by rfl) rfl⟩
set_option maxRecDepth 100000 in
theorem lL_62 : zMl RL 62 mX8_tell 2 := ⟨zAL_of 979 (by rfl) rfl, zAL_of 36 (by rfl) rfl, zAL_of 982 (by rfl) rfl, ⟨by decide, by decide, by decide +kernel⟩, by decide⟩
set_option maxRecDepth 100000 in
theorem vX8_tell : zMv mX8_tell := ⟨zAL_of 980 (by rfl) rfl, zAL_of 981 (by rfl) rfl⟩
set_option maxRecDepth 100000 in
theorem lL_63 : zMl RL 63 mX7_takeBack 0 := ⟨zAL_of 567 (by rfl) rfl, zAL_of 28 (by rfl) rfl, zAL_of 570 (by rfl) rfl, ⟨by decide, by decide, by decide +kernel⟩, by decide⟩
set_option maxRecDepth 100000 in
theorem vX7_takeBack : zMv mX7_takeBack := ⟨zAL_of 568 (by rfl) rfl, zAL_of 569 (by rfl) rfl⟩
set_option maxRecDepth 100000 in
theorem lL_66 : zMl RL 66 mX8_takeBack 0 := ⟨zAL_of 984 (by rfl) rfl, zAL_of 36 (by rfl) rfl, zAL_of 987 (by rfl) rfl, ⟨by decide, by decide, by decide +kernel⟩, by decide⟩
set_option maxRecDepth 100000 in
theorem vX8_takeBack : zMv mX8_takeBack := ⟨zAL_of 985 (by rfl) rfl, zAL_of 986 (by rfl) rfl⟩
set_option maxRecDepth 100000 in
theorem lL_67 : zMl RL 67 mX7_hush 2 := ⟨zAL_of 572 (by rfl) rfl, zAL_of 28 (by rfl) rfl, zAL_of 575 (by rfl) rfl, ⟨by decide, by decide, by decide +kernel⟩, by decide⟩
set_option maxRecDepth 100000 in
theorem vX7_hush : zMv mX7_hush := ⟨zAL_of 573 (by rfl) rfl, zAL_of 574 (by rfl) rfl⟩
set_option maxRecDepth 100000 in
theorem lL_70 : zMl RL 70 mX8_hush 2 := ⟨zAL_of 988 (by rfl) rfl, zAL_of 36 (by rfl) rfl, zAL_of 991 (by rfl) rfl, ⟨by decide, by decide, by decide +kernel⟩, by decide⟩
set_option maxRecDepth 100000 in
theorem vX8_hush : zMv mX8_hush := ⟨zAL_of 989 (by rfl) rfl, zAL_of 990 (by rfl) rfl⟩
set_option maxRecDepth 100000 in
theorem lL_71 : zMl RL 71 mX7_again 2 := ⟨zAL_of 590 (by rfl) rfl, zAL_of 28 (by rfl) rfl, zAL_of 593 (by rfl) rfl, ⟨by decide, by decide, by decide +kernel⟩, by decide⟩
set_option maxRecDepth 100000 in
theorem vX7_again : zMv mX7_again := ⟨zAL_of 591 (by rfl) rfl, zAL_of 592 (by rfl) rfl⟩
set_option maxRecDepth 100000 in
theorem lL_74 : zMl RL 74 mX8_again 2 := ⟨zAL_of 995 (by rfl) rfl, zAL_of 36 (by rfl) rfl, zAL_of 998 (by rfl) rfl, ⟨by decide, by decide, by decide +kernel⟩, by decide⟩
set_option maxRecDepth 100000 in
theorem vX8_again : zMv mX8_again := ⟨zAL_of 996 (by rfl) rfl, zAL_of 997 (by rfl) rfl⟩
set_option maxRecDepth 100000 in
theorem lL_75 : zMl RL 75 mX7_game 3 := ⟨zAL_of 603 (by rfl) rfl, zAL_of 28 (by rfl) rfl, zAL_of 606 (by rfl) rfl, ⟨by decide, by decide, by decide +kernel⟩, by decide⟩
set_option maxRecDepth 100000 in
theorem vX7_game : zMv mX7_game := ⟨zAL_of 604 (by rfl) rfl, zAL_of 605 (by rfl) rfl⟩
set_option maxRecDepth 100000 in
theorem lL_79 : zMl RL 79 mX8_game 3 := ⟨zAL_of 999 (by rfl) rfl, zAL_of 36 (by rfl) rfl, zAL_of 1002 (by rfl) rfl, ⟨by decide, by decide, by decide +kernel⟩, by decide⟩
set_option maxRecDepth 100000 in
theorem vX8_game : zMv mX8_game := ⟨zAL_of 1000 (by rfl) rfl, zAL_of 1001 (by rfl) rfl⟩
set_option maxRecDepth 100000 in
theorem lL_80 : zMl RL 80 mX7_laws 1 := ⟨zAL_of 615 (by rfl) rfl, zAL_of 28 (by rfl) rfl, zAL_of 618 (by rfl) rfl, ⟨by decide, by decide, by decide +kernel⟩, by decide⟩
set_option maxRecDepth 100000 in
theorem vX7_laws : zMv mX7_laws := ⟨zAL_of 616 (by rfl) rfl, zAL_of 617 (by rfl) rfl⟩
set_option maxRecDepth 100000 in
theorem lL_83 : zMl RL 83 mX8_laws 1 := ⟨zAL_of 1003 (by rfl) rfl, zAL_of 36 (by rfl) rfl, zAL_of 1006 (by rfl) rfl, ⟨by decide, by decide, by decide +kernel⟩, by decide⟩
set_option maxRecDepth 100000 in
theorem vX8_laws : zMv mX8_laws := ⟨zAL_of 1004 (by rfl) rfl, zAL_of 1005 (by rfl) rfl⟩
set_option maxRecDepth 100000 in
theorem lL_84 : zMl RL 84 mX7_mean 4 := ⟨zAL_of 629 (by rfl) rfl, zAL_of 28 (by rfl) rfl, zAL_of 632 (by rfl) rfl, ⟨by decide, by decide, by decide +kernel⟩, by decide⟩
set_option maxRecDepth 100000 in
theorem vX7_mean : zMv mX7_mean := ⟨zAL_of 630 (by rfl) rfl, zAL_of 631 (by rfl) rfl⟩
set_option maxRecDepth 100000 in
theorem lL_88 : zMl RL 88 mX8_mean 4 := ⟨zAL_of 1013 (by rfl) rfl, zAL_of 36 (by rfl) rfl, zAL_of 1016 (by rfl) rfl, ⟨by decide, by decide, by decide +kernel⟩, by decide⟩
set_option maxRecDepth 100000 in
theorem vX8_mean : zMv mX8_mean := ⟨zAL_of 1014 (by rfl) rfl, zAL_of 1015 (by rfl) rfl⟩
set_option maxRecDepth 100000 in
theorem lL_89 : zMl RL 89 mX7_by 5 := ⟨zAL_of 651 (by rfl) rfl, zAL_of 28 (by rfl) rfl, zAL_of 654 (by rfl) rfl, ⟨by decide, by decide, by decide +kernel⟩, by decide⟩
set_option maxRecDepth 100000 in
theorem vX7_by : zMv mX7_by := ⟨zAL_of 652 (by rfl) rfl, zAL_of 653 (by rfl) rfl⟩
set_option maxRecDepth 100000 in
theorem lL_93 : zMl RL 93 mX8_by 5 := ⟨zAL_of 1035 (by rfl) rfl, zAL_of 36 (by rfl) rfl, zAL_of 1038 (by rfl) rfl, ⟨by decide, by decide, by decide +kernel⟩, by decide⟩
set_option maxRecDepth 100000 in
theorem vX8_by : zMv mX8_by := ⟨zAL_of 1036 (by rfl) rfl, zAL_of 1037 (by rfl) rfl⟩
set_option maxRecDepth 100000 in
theorem lL_94 : zMl RL 94 mX7_best 3 := ⟨zAL_of 659 (by rfl) rfl, zAL_of 28 (by rfl) rfl, zAL_of 662 (by rfl) rfl, ⟨by decide, by decide, by decide +kernel⟩, by decide⟩
set_option maxRecDepth 100000 in
theorem vX7_best : zMv mX7_best := ⟨zAL_of 660 (by rfl) rfl, zAL_of 661 (by rfl) rfl⟩
set_option maxRecDepth 100000 in
theorem lL_97 : zMl RL 97 mX8_best 3 := ⟨zAL_of 1043 (by rfl) rfl, zAL_of 36 (by rfl) rfl, zAL_of 1046 (by rfl) rfl, ⟨by decide, by decide, by decide +kernel⟩, by decide⟩
set_option maxRecDepth 100000 in
theorem vX8_best : zMv mX8_best := ⟨zAL_of 1044 (by rfl) rfl, zAL_of 1045 (by rfl) rfl⟩
set_option maxRecDepth 100000 in
theorem lL_98 : zMl RL 98 mX7_name 2 := ⟨zAL_of 672 (by rfl) rfl, zAL_of 28 (by rfl) rfl, zAL_of 675 (by rfl) rfl, ⟨by decide, by decide, by decide +kernel⟩, by decide⟩
set_option maxRecDepth 100000 in
theorem vX7_name : zMv mX7_name := ⟨zAL_of 673 (by rfl) rfl, zAL_of 674 (by rfl) rfl⟩
set_option maxRecDepth 100000 in
theorem lL_101 : zMl RL 101 mX8_name 2 := ⟨zAL_of 1047 (by rfl) rfl, zAL_of 36 (by rfl) rfl, zAL_of 1050 (by rfl) rfl, ⟨by decide, by decide, by decide +kernel⟩, by decide⟩
set_option maxRecDepth 100000 in
theorem vX8_name : zMv mX8_name := ⟨zAL_of 1048 (by rfl) rfl, zAL_of 1049 (by rfl) rfl⟩
set_option maxRecDepth 100000 in
theorem lL_102 : zMl RL 102 mX7_noNames 0 := ⟨zAL_of 689 (by rfl) rfl, zAL_of 28 (by rfl) rfl, zAL_of 692 (by rfl) rfl, ⟨by decide, by decide, by decide +kernel⟩, by decide⟩
set_option maxRecDepth 100000 in
theorem vX7_noNames : zMv mX7_noNames := ⟨zAL_of 690 (by rfl) rfl, zAL_of 691 (by rfl) rfl⟩
set_option maxRecDepth 100000 in
theorem lL_105 : zMl RL 105 mX8_noNames 0 := ⟨zAL_of 1051 (by rfl) rfl, zAL_of 36 (by rfl) rfl, zAL_of 1054 (by rfl) rfl, ⟨by decide, by decide, by decide +kernel⟩, by decide⟩
set_option maxRecDepth 100000 in
theorem vX8_noNames : zMv mX8_noNames := ⟨zAL_of 1052 (by rfl) rfl, zAL_of 1053 (by rfl) rfl⟩
set_option maxRecDepth 100000 in
theorem lL_106 : zMl RL 106 mX7_fits 1 := ⟨zAL_of 693 (by rfl) rfl, zAL_of 28 (by rfl) rfl, zAL_of 696 (by rfl) rfl, ⟨by decide, by decide, by decide +kernel⟩, by decide⟩
set_option maxRecDepth 100000 in
theorem vX7_fits : zMv mX7_fits := ⟨zAL_of 694 (by rfl) rfl, zAL_of 695 (by rfl) rfl⟩
set_option maxRecDepth 100000 in
theorem lL_109 : zMl RL 109 mX8_fits 1 := ⟨zAL_of 1055 (by rfl) rfl, zAL_of 36 (by rfl) rfl, zAL_of 1058 (by rfl) rfl, ⟨by decide, by decide, by decide +kernel⟩, by decide⟩
set_option maxRecDepth 100000 in
theorem vX8_fits : zMv mX8_fits := ⟨zAL_of 1056 (by rfl) rfl, zAL_of 1057 (by rfl) rfl⟩
set_option maxRecDepth 100000 in
theorem lL_110 : zMl RL 110 mX7_drawn 2 := ⟨zAL_of 705 (by rfl) rfl, zAL_of 28 (by rfl) rfl, zAL_of 708 (by rfl) rfl, ⟨by decide, by decide, by decide +kernel⟩, by decide⟩
set_option maxRecDepth 100000 in
theorem vX7_drawn : zMv mX7_drawn := ⟨zAL_of 706 (by rfl) rfl, zAL_of 707 (by rfl) rfl⟩
set_option maxRecDepth 100000 in
theorem lL_113 : zMl RL 113 mX8_drawn 2 := ⟨zAL_of 1063 (by rfl) rfl, zAL_of 36 (by rfl) rfl, zAL_of 1066 (by rfl) rfl, ⟨by decide, by decide, by decide +kernel⟩, by decide⟩
set_option maxRecDepth 100000 in
theorem vX8_drawn : zMv mX8_drawn := ⟨zAL_of 1064 (by rfl) rfl, zAL_of 1065 (by rfl) rfl⟩
set_option maxRecDepth 100000 in
theorem lL_114 : zMl RL 114 mX7_keep 0 := ⟨zAL_of 709 (by rfl) rfl, zAL_of 28 (by rfl) rfl, zAL_of 712 (by rfl) rfl, ⟨by decide, by decide, by decide +kernel⟩, by decide⟩
set_option maxRecDepth 100000 in
theorem vX7_keep : zMv mX7_keep := ⟨zAL_of 710 (by rfl) rfl, zAL_of 711 (by rfl) rfl⟩
set_option maxRecDepth 100000 in
theorem lL_117 : zMl RL 117 mX8_keep 0 := ⟨zAL_of 1068 (by rfl) rfl, zAL_of 36 (by rfl) rfl, zAL_of 1071 (by rfl) rfl, ⟨by decide, by decide, by decide +kernel⟩, by decide⟩
set_option maxRecDepth 100000 in
theorem vX8_keep : zMv mX8_keep := ⟨zAL_of 1069 (by rfl) rfl, zAL_of 1070 (by rfl) rfl⟩
set_option maxRecDepth 100000 in
theorem lL_118 : zMl RL 118 mX7_back 0 := ⟨zAL_of 719 (by rfl) rfl, zAL_of 28 (by rfl) rfl, zAL_of 722 (by rfl) rfl, ⟨by decide, by decide, by decide +kernel⟩, by decide⟩
set_option maxRecDepth 100000 in
theorem vX7_back : zMv mX7_back := ⟨zAL_of 720 (by rfl) rfl, zAL_of 721 (by rfl) rfl⟩
set_option maxRecDepth 100000 in
theorem lL_121 : zMl RL 121 mX8_back 0 := ⟨zAL_of 1072 (by rfl) rfl, zAL_of 36 (by rfl) rfl, zAL_of 1075 (by rfl) rfl, ⟨by decide, by decide, by decide +kernel⟩, by decide⟩
set_option maxRecDepth 100000 in
theorem vX8_back : zMv mX8_back := ⟨zAL_of 1073 (by rfl) rfl, zAL_of 1074 (by rfl) rfl⟩
set_option maxRecDepth 100000 in
theorem lL_122 : zMl RL 122 mX7_count 1 := ⟨zAL_of 723 (by rfl) rfl, zAL_of 28 (by rfl) rfl, zAL_of 726 (by rfl) rfl, ⟨by decide, by decide, by decide +kernel⟩, by decide⟩
set_option maxRecDepth 100000 in
theorem vX7_count : zMv mX7_count := ⟨zAL_of 724 (by rfl) rfl, zAL_of 725 (by rfl) rfl⟩
set_option maxRecDepth 100000 in
theorem lL_125 : zMl RL 125 mX8_count 1 := ⟨zAL_of 1076 (by rfl) rfl, zAL_of 36 (by rfl) rfl, zAL_of 1079 (by rfl) rfl, ⟨by decide, by decide, by decide +kernel⟩, by decide⟩
set_option maxRecDepth 100000 in
theorem vX8_count : zMv mX8_count := ⟨zAL_of 1077 (by rfl) rfl, zAL_of 1078 (by rfl) rfl⟩
end
section
theorem dX0_init_0 : zD cX0_init 0 (.aload_n 0) 1 1 := ⟨by decide +kernel, rfl⟩
theorem dX0_init_1 : zD cX0_init 1 (.invokespecial 3) 3 4 := ⟨by decide +kernel, rfl⟩
theorem dX0_init_4 : zD cX0_init 4 (.aload_n 0) 1 5 := ⟨by decide +kernel, rfl⟩
theorem dX0_init_5 : zD cX0_init 5 (.bipush 8) 2 7 := ⟨by decide +kernel, rfl⟩
theorem dX0_init_7 : zD cX0_init 7 (.newarray .int) 2 9 := ⟨by decide +kernel, rfl⟩
theorem dX0_init_9 : zD cX0_init 9 (.putfield 9) 3 12 := ⟨by decide +kernel, rfl⟩
theorem dX0_init_12 : zD cX0_init 12 (.aload_n 0) 1 13 := ⟨by decide +kernel, rfl⟩
theorem dX0_init_13 : zD cX0_init 13 (.bipush 8) 2 15 := ⟨by decide +kernel, rfl⟩
theorem dX0_init_15 : zD cX0_init 15 (.newarray .int) 2 17 := ⟨by decide +kernel, rfl⟩
theorem dX0_init_17 : zD cX0_init 17 (.putfield 15) 3 20 := ⟨by decide +kernel, rfl⟩
theorem dX0_init_20 : zD cX0_init 20 (.aload_n 0) 1 21 := ⟨by decide +kernel, rfl⟩
theorem dX0_init_21 : zD cX0_init 21 (.bipush 100) 2 23 := ⟨by decide +kernel, rfl⟩
theorem dX0_init_23 : zD cX0_init 23 (.newarray .int) 2 25 := ⟨by decide +kernel, rfl⟩
theorem dX0_init_25 : zD cX0_init 25 (.putfield 18) 3 28 := ⟨by decide +kernel, rfl⟩
theorem dX0_init_28 : zD cX0_init 28 (.aload_n 0) 1 29 := ⟨by decide +kernel, rfl⟩
theorem dX0_init_29 : zD cX0_init 29 (.iconst 0) 1 30 := ⟨by decide +kernel, rfl⟩
theorem dX0_init_30 : zD cX0_init 30 (.putfield 21) 3 33 := ⟨by decide +kernel, rfl⟩
theorem dX0_init_33 : zD cX0_init 33 .return_ 1 34 := ⟨by decide +kernel, rfl⟩
theorem dX0_add_0 : zD cX0_add 0 (.aload_n 0) 1 1 := ⟨by decide +kernel, rfl⟩
theorem dX0_add_1 : zD cX0_add 1 (.getfield 21) 3 4 := ⟨by decide +kernel, rfl⟩
theorem dX0_add_4 : zD cX0_add 4 (.aload_n 0) 1 5 := ⟨by decide +kernel, rfl⟩
theorem dX0_add_5 : zD cX0_add 5 (.getfield 9) 3 8 := ⟨by decide +kernel, rfl⟩
theorem dX0_add_8 : zD cX0_add 8 .arraylength 1 9 := ⟨by decide +kernel, rfl⟩
theorem dX0_add_9 : zJ cX0_add 9 (.if_icmp .ge) 12 25 := ⟨16, by decide +kernel, rfl, by decide⟩
theorem dX0_add_12 : zD cX0_add 12 (.iload_n 2) 1 13 := ⟨by decide +kernel, rfl⟩
theorem dX0_add_13 : zJ cX0_add 13 (.ifCond .lt) 16 25 := ⟨12, by decide +kernel, rfl, by decide⟩
theorem dX0_add_16 : zD cX0_add 16 (.iload_n 2) 1 17 := ⟨by decide +kernel, rfl⟩
theorem dX0_add_17 : zD cX0_add 17 (.aload_n 0) 1 18 := ⟨by decide +kernel, rfl⟩
theorem dX0_add_18 : zD cX0_add 18 (.getfield 18) 3 21 := ⟨by decide +kernel, rfl⟩
theorem dX0_add_21 : zD cX0_add 21 .arraylength 1 22 := ⟨by decide +kernel, rfl⟩
theorem dX0_add_22 : zJ cX0_add 22 (.if_icmp .lt) 25 27 := ⟨5, by decide +kernel, rfl, by decide⟩
theorem dX0_add_25 : zD cX0_add 25 (.iconst 0) 1 26 := ⟨by decide +kernel, rfl⟩
theorem dX0_add_26 : zD cX0_add 26 .ireturn 1 27 := ⟨by decide +kernel, rfl⟩
theorem dX0_add_27 : zD cX0_add 27 (.aload_n 0) 1 28 := ⟨by decide +kernel, rfl⟩
theorem dX0_add_28 : zD cX0_add 28 (.getfield 9) 3 31 := ⟨by decide +kernel, rfl⟩
theorem dX0_add_31 : zD cX0_add 31 (.aload_n 0) 1 32 := ⟨by decide +kernel, rfl⟩
theorem dX0_add_32 : zD cX0_add 32 (.getfield 21) 3 35 := ⟨by decide +kernel, rfl⟩
theorem dX0_add_35 : zD cX0_add 35 (.iload_n 1) 1 36 := ⟨by decide +kernel, rfl⟩
theorem dX0_add_36 : zD cX0_add 36 .iastore 1 37 := ⟨by decide +kernel, rfl⟩
theorem dX0_add_37 : zD cX0_add 37 (.aload_n 0) 1 38 := ⟨by decide +kernel, rfl⟩
theorem dX0_add_38 : zD cX0_add 38 (.getfield 15) 3 41 := ⟨by decide +kernel, rfl⟩
theorem dX0_add_41 : zD cX0_add 41 (.aload_n 0) 1 42 := ⟨by decide +kernel, rfl⟩
theorem dX0_add_42 : zD cX0_add 42 (.getfield 21) 3 45 := ⟨by decide +kernel, rfl⟩
theorem dX0_add_45 : zD cX0_add 45 (.iload_n 2) 1 46 := ⟨by decide +kernel, rfl⟩
theorem dX0_add_46 : zD cX0_add 46 .iastore 1 47 := ⟨by decide +kernel, rfl⟩
theorem dX0_add_47 : zD cX0_add 47 (.aload_n 0) 1 48 := ⟨by decide +kernel, rfl⟩
theorem dX0_add_48 : zD cX0_add 48 (.getfield 18) 3 51 := ⟨by decide +kernel, rfl⟩
theorem dX0_add_51 : zD cX0_add 51 (.iload_n 2) 1 52 := ⟨by decide +kernel, rfl⟩
theorem dX0_add_52 : zD cX0_add 52 .dup2 1 53 := ⟨by decide +kernel, rfl⟩
theorem dX0_add_53 : zD cX0_add 53 .iaload 1 54 := ⟨by decide +kernel, rfl⟩
theorem dX0_add_54 : zD cX0_add 54 (.iconst 1) 1 55 := ⟨by decide +kernel, rfl⟩
theorem dX0_add_55 : zD cX0_add 55 (.aload_n 0) 1 56 := ⟨by decide +kernel, rfl⟩
theorem dX0_add_56 : zD cX0_add 56 (.getfield 21) 3 59 := ⟨by decide +kernel, rfl⟩
theorem dX0_add_59 : zD cX0_add 59 .ishl 1 60 := ⟨by decide +kernel, rfl⟩
theorem dX0_add_60 : zD cX0_add 60 .ior 1 61 := ⟨by decide +kernel, rfl⟩
theorem dX0_add_61 : zD cX0_add 61 .iastore 1 62 := ⟨by decide +kernel, rfl⟩
theorem dX0_add_62 : zD cX0_add 62 (.aload_n 0) 1 63 := ⟨by decide +kernel, rfl⟩
theorem dX0_add_63 : zD cX0_add 63 .dup 1 64 := ⟨by decide +kernel, rfl⟩
theorem dX0_add_64 : zD cX0_add 64 (.getfield 21) 3 67 := ⟨by decide +kernel, rfl⟩
theorem dX0_add_67 : zD cX0_add 67 (.iconst 1) 1 68 := ⟨by decide +kernel, rfl⟩
theorem dX0_add_68 : zD cX0_add 68 .iadd 1 69 := ⟨by decide +kernel, rfl⟩
theorem dX0_add_69 : zD cX0_add 69 (.putfield 21) 3 72 := ⟨by decide +kernel, rfl⟩
theorem dX0_add_72 : zD cX0_add 72 (.iconst 1) 1 73 := ⟨by decide +kernel, rfl⟩
theorem dX0_add_73 : zD cX0_add 73 .ireturn 1 74 := ⟨by decide +kernel, rfl⟩
theorem dX0_dropLast_0 : zD cX0_dropLast 0 (.aload_n 0) 1 1 := ⟨by decide +kernel, rfl⟩
theorem dX0_dropLast_1 : zD cX0_dropLast 1 (.getfield 21) 3 4 := ⟨by decide +kernel, rfl⟩
theorem dX0_dropLast_4 : zJ cX0_dropLast 4 (.ifCond .le) 7 42 := ⟨38, by decide +kernel, rfl, by decide⟩
theorem dX0_dropLast_7 : zD cX0_dropLast 7 (.aload_n 0) 1 8 := ⟨by decide +kernel, rfl⟩
theorem dX0_dropLast_8 : zD cX0_dropLast 8 .dup 1 9 := ⟨by decide +kernel, rfl⟩
theorem dX0_dropLast_9 : zD cX0_dropLast 9 (.getfield 21) 3 12 := ⟨by decide +kernel, rfl⟩
theorem dX0_dropLast_12 : zD cX0_dropLast 12 (.iconst 1) 1 13 := ⟨by decide +kernel, rfl⟩
theorem dX0_dropLast_13 : zD cX0_dropLast 13 .isub 1 14 := ⟨by decide +kernel, rfl⟩
theorem dX0_dropLast_14 : zD cX0_dropLast 14 (.putfield 21) 3 17 := ⟨by decide +kernel, rfl⟩
theorem dX0_dropLast_17 : zD cX0_dropLast 17 (.aload_n 0) 1 18 := ⟨by decide +kernel, rfl⟩
theorem dX0_dropLast_18 : zD cX0_dropLast 18 (.getfield 18) 3 21 := ⟨by decide +kernel, rfl⟩
theorem dX0_dropLast_21 : zD cX0_dropLast 21 (.aload_n 0) 1 22 := ⟨by decide +kernel, rfl⟩
theorem dX0_dropLast_22 : zD cX0_dropLast 22 (.getfield 15) 3 25 := ⟨by decide +kernel, rfl⟩
theorem dX0_dropLast_25 : zD cX0_dropLast 25 (.aload_n 0) 1 26 := ⟨by decide +kernel, rfl⟩
theorem dX0_dropLast_26 : zD cX0_dropLast 26 (.getfield 21) 3 29 := ⟨by decide +kernel, rfl⟩
theorem dX0_dropLast_29 : zD cX0_dropLast 29 .iaload 1 30 := ⟨by decide +kernel, rfl⟩
theorem dX0_dropLast_30 : zD cX0_dropLast 30 .dup2 1 31 := ⟨by decide +kernel, rfl⟩
theorem dX0_dropLast_31 : zD cX0_dropLast 31 .iaload 1 32 := ⟨by decide +kernel, rfl⟩
theorem dX0_dropLast_32 : zD cX0_dropLast 32 (.iconst 1) 1 33 := ⟨by decide +kernel, rfl⟩
theorem dX0_dropLast_33 : zD cX0_dropLast 33 (.aload_n 0) 1 34 := ⟨by decide +kernel, rfl⟩
theorem dX0_dropLast_34 : zD cX0_dropLast 34 (.getfield 21) 3 37 := ⟨by decide +kernel, rfl⟩
theorem dX0_dropLast_37 : zD cX0_dropLast 37 .ishl 1 38 := ⟨by decide +kernel, rfl⟩
theorem dX0_dropLast_38 : zD cX0_dropLast 38 (.iconst (-1)) 1 39 := ⟨by decide +kernel, rfl⟩
theorem dX0_dropLast_39 : zD cX0_dropLast 39 .ixor 1 40 := ⟨by decide +kernel, rfl⟩
theorem dX0_dropLast_40 : zD cX0_dropLast 40 .iand 1 41 := ⟨by decide +kernel, rfl⟩
theorem dX0_dropLast_41 : zD cX0_dropLast 41 .iastore 1 42 := ⟨by decide +kernel, rfl⟩
theorem dX0_dropLast_42 : zD cX0_dropLast 42 .return_ 1 43 := ⟨by decide +kernel, rfl⟩
theorem dX0_clear_0 : zD cX0_clear 0 (.aload_n 0) 1 1 := ⟨by decide +kernel, rfl⟩
theorem dX0_clear_1 : zD cX0_clear 1 (.getfield 21) 3 4 := ⟨by decide +kernel, rfl⟩
theorem dX0_clear_4 : zD cX0_clear 4 (.istore_n 1) 1 5 := ⟨by decide +kernel, rfl⟩
theorem dX0_clear_5 : zD cX0_clear 5 (.iload_n 1) 1 6 := ⟨by decide +kernel, rfl⟩
theorem dX0_clear_6 : zJ cX0_clear 6 (.ifCond .le) 9 19 := ⟨13, by decide +kernel, rfl, by decide⟩
theorem dX0_clear_9 : zD cX0_clear 9 (.aload_n 0) 1 10 := ⟨by decide +kernel, rfl⟩
theorem dX0_clear_10 : zD cX0_clear 10 (.invokevirtual 25) 3 13 := ⟨by decide +kernel, rfl⟩
theorem dX0_clear_13 : zD cX0_clear 13 (.iinc 1 (-1)) 3 16 := ⟨by decide +kernel, rfl⟩
theorem dX0_clear_16 : zJ cX0_clear 16 .goto 19 5 := ⟨-11, by decide +kernel, rfl, by decide⟩
theorem dX0_clear_19 : zD cX0_clear 19 .return_ 1 20 := ⟨by decide +kernel, rfl⟩
theorem dX0_copyFrom_0 : zD cX0_copyFrom 0 (.aload_n 0) 1 1 := ⟨by decide +kernel, rfl⟩
theorem dX0_copyFrom_1 : zD cX0_copyFrom 1 (.invokevirtual 28) 3 4 := ⟨by decide +kernel, rfl⟩
theorem dX0_copyFrom_4 : zD cX0_copyFrom 4 (.iconst 0) 1 5 := ⟨by decide +kernel, rfl⟩
theorem dX0_copyFrom_5 : zD cX0_copyFrom 5 (.istore_n 2) 1 6 := ⟨by decide +kernel, rfl⟩
theorem dX0_copyFrom_6 : zD cX0_copyFrom 6 (.iload_n 2) 1 7 := ⟨by decide +kernel, rfl⟩
theorem dX0_copyFrom_7 : zD cX0_copyFrom 7 (.aload_n 1) 1 8 := ⟨by decide +kernel, rfl⟩
theorem dX0_copyFrom_8 : zD cX0_copyFrom 8 (.getfield 21) 3 11 := ⟨by decide +kernel, rfl⟩
theorem dX0_copyFrom_11 : zJ cX0_copyFrom 11 (.if_icmp .ge) 14 37 := ⟨26, by decide +kernel, rfl, by decide⟩
theorem dX0_copyFrom_14 : zD cX0_copyFrom 14 (.aload_n 0) 1 15 := ⟨by decide +kernel, rfl⟩
theorem dX0_copyFrom_15 : zD cX0_copyFrom 15 (.aload_n 1) 1 16 := ⟨by decide +kernel, rfl⟩
theorem dX0_copyFrom_16 : zD cX0_copyFrom 16 (.getfield 9) 3 19 := ⟨by decide +kernel, rfl⟩
theorem dX0_copyFrom_19 : zD cX0_copyFrom 19 (.iload_n 2) 1 20 := ⟨by decide +kernel, rfl⟩
theorem dX0_copyFrom_20 : zD cX0_copyFrom 20 .iaload 1 21 := ⟨by decide +kernel, rfl⟩
theorem dX0_copyFrom_21 : zD cX0_copyFrom 21 (.aload_n 1) 1 22 := ⟨by decide +kernel, rfl⟩
theorem dX0_copyFrom_22 : zD cX0_copyFrom 22 (.getfield 15) 3 25 := ⟨by decide +kernel, rfl⟩
theorem dX0_copyFrom_25 : zD cX0_copyFrom 25 (.iload_n 2) 1 26 := ⟨by decide +kernel, rfl⟩
theorem dX0_copyFrom_26 : zD cX0_copyFrom 26 .iaload 1 27 := ⟨by decide +kernel, rfl⟩
theorem dX0_copyFrom_27 : zD cX0_copyFrom 27 (.invokevirtual 31) 3 30 := ⟨by decide +kernel, rfl⟩
theorem dX0_copyFrom_30 : zD cX0_copyFrom 30 .pop 1 31 := ⟨by decide +kernel, rfl⟩
theorem dX0_copyFrom_31 : zD cX0_copyFrom 31 (.iinc 2 1) 3 34 := ⟨by decide +kernel, rfl⟩
theorem dX0_copyFrom_34 : zJ cX0_copyFrom 34 .goto 37 6 := ⟨-28, by decide +kernel, rfl, by decide⟩
theorem dX0_copyFrom_37 : zD cX0_copyFrom 37 .return_ 1 38 := ⟨by decide +kernel, rfl⟩
theorem dX1_init_0 : zD cX1_init 0 (.aload_n 0) 1 1 := ⟨by decide +kernel, rfl⟩
theorem dX1_init_1 : zD cX1_init 1 (.invokespecial 3) 3 4 := ⟨by decide +kernel, rfl⟩
theorem dX1_init_4 : zD cX1_init 4 (.aload_n 0) 1 5 := ⟨by decide +kernel, rfl⟩
theorem dX1_init_5 : zD cX1_init 5 (.bipush 10) 2 7 := ⟨by decide +kernel, rfl⟩
theorem dX1_init_7 : zD cX1_init 7 (.newarray .int) 2 9 := ⟨by decide +kernel, rfl⟩
theorem dX1_init_9 : zD cX1_init 9 (.putfield 9) 3 12 := ⟨by decide +kernel, rfl⟩
theorem dX1_init_12 : zD cX1_init 12 (.aload_n 0) 1 13 := ⟨by decide +kernel, rfl⟩
theorem dX1_init_13 : zD cX1_init 13 (.bipush 10) 2 15 := ⟨by decide +kernel, rfl⟩
theorem dX1_init_15 : zD cX1_init 15 (.newarray .int) 2 17 := ⟨by decide +kernel, rfl⟩
theorem dX1_init_17 : zD cX1_init 17 (.putfield 15) 3 20 := ⟨by decide +kernel, rfl⟩
theorem dX1_init_20 : zD cX1_init 20 (.aload_n 0) 1 21 := ⟨by decide +kernel, rfl⟩
theorem dX1_init_21 : zD cX1_init 21 (.bipush 10) 2 23 := ⟨by decide +kernel, rfl⟩
theorem dX1_init_23 : zD cX1_init 23 (.newarray .boolean) 2 25 := ⟨by decide +kernel, rfl⟩
theorem dX1_init_25 : zD cX1_init 25 (.putfield 18) 3 28 := ⟨by decide +kernel, rfl⟩
theorem dX1_init_28 : zD cX1_init 28 (.aload_n 0) 1 29 := ⟨by decide +kernel, rfl⟩
theorem dX1_init_29 : zD cX1_init 29 (.bipush 10) 2 31 := ⟨by decide +kernel, rfl⟩
theorem dX1_init_31 : zD cX1_init 31 (.newarray .int) 2 33 := ⟨by decide +kernel, rfl⟩
theorem dX1_init_33 : zD cX1_init 33 (.putfield 22) 3 36 := ⟨by decide +kernel, rfl⟩
theorem dX1_init_36 : zD cX1_init 36 (.aload_n 0) 1 37 := ⟨by decide +kernel, rfl⟩
theorem dX1_init_37 : zD cX1_init 37 (.iconst 2) 1 38 := ⟨by decide +kernel, rfl⟩
theorem dX1_init_38 : zD cX1_init 38 (.newarray .int) 2 40 := ⟨by decide +kernel, rfl⟩
theorem dX1_init_40 : zD cX1_init 40 (.putfield 25) 3 43 := ⟨by decide +kernel, rfl⟩
theorem dX1_init_43 : zD cX1_init 43 (.aload_n 0) 1 44 := ⟨by decide +kernel, rfl⟩
theorem dX1_init_44 : zD cX1_init 44 (.iconst 2) 1 45 := ⟨by decide +kernel, rfl⟩
theorem dX1_init_45 : zD cX1_init 45 (.newarray .int) 2 47 := ⟨by decide +kernel, rfl⟩
theorem dX1_init_47 : zD cX1_init 47 (.putfield 28) 3 50 := ⟨by decide +kernel, rfl⟩
theorem dX1_init_50 : zD cX1_init 50 (.aload_n 0) 1 51 := ⟨by decide +kernel, rfl⟩
theorem dX1_init_51 : zD cX1_init 51 (.new 31) 3 54 := ⟨by decide +kernel, rfl⟩
theorem dX1_init_54 : zD cX1_init 54 .dup 1 55 := ⟨by decide +kernel, rfl⟩
theorem dX1_init_55 : zD cX1_init 55 (.invokespecial 33) 3 58 := ⟨by decide +kernel, rfl⟩
theorem dX1_init_58 : zD cX1_init 58 (.putfield 34) 3 61 := ⟨by decide +kernel, rfl⟩
theorem dX1_init_61 : zD cX1_init 61 .return_ 1 62 := ⟨by decide +kernel, rfl⟩
theorem dX1_asTold_0 : zD cX1_asTold 0 (.aload_n 0) 1 1 := ⟨by decide +kernel, rfl⟩
theorem dX1_asTold_1 : zD cX1_asTold 1 (.aload_n 1) 1 2 := ⟨by decide +kernel, rfl⟩
theorem dX1_asTold_2 : zD cX1_asTold 2 (.putfield 34) 3 5 := ⟨by decide +kernel, rfl⟩
theorem dX1_asTold_5 : zD cX1_asTold 5 (.aload_n 0) 1 6 := ⟨by decide +kernel, rfl⟩
theorem dX1_asTold_6 : zD cX1_asTold 6 (.aload_n 1) 1 7 := ⟨by decide +kernel, rfl⟩
theorem dX1_asTold_7 : zD cX1_asTold 7 (.getfield 38) 3 10 := ⟨by decide +kernel, rfl⟩
theorem dX1_asTold_10 : zD cX1_asTold 10 (.putfield 42) 3 13 := ⟨by decide +kernel, rfl⟩
theorem dX1_asTold_13 : zD cX1_asTold 13 (.aload_n 0) 1 14 := ⟨by decide +kernel, rfl⟩
theorem dX1_asTold_14 : zD cX1_asTold 14 (.iconst 0) 1 15 := ⟨by decide +kernel, rfl⟩
theorem dX1_asTold_15 : zD cX1_asTold 15 (.putfield 43) 3 18 := ⟨by decide +kernel, rfl⟩
theorem dX1_asTold_18 : zD cX1_asTold 18 (.aload_n 0) 1 19 := ⟨by decide +kernel, rfl⟩
theorem dX1_asTold_19 : zD cX1_asTold 19 (.iconst (-1)) 1 20 := ⟨by decide +kernel, rfl⟩
theorem dX1_asTold_20 : zD cX1_asTold 20 (.putfield 46) 3 23 := ⟨by decide +kernel, rfl⟩
theorem dX1_asTold_23 : zD cX1_asTold 23 (.iconst 0) 1 24 := ⟨by decide +kernel, rfl⟩
theorem dX1_asTold_24 : zD cX1_asTold 24 (.istore_n 2) 1 25 := ⟨by decide +kernel, rfl⟩
theorem dX1_asTold_25 : zD cX1_asTold 25 (.iload_n 2) 1 26 := ⟨by decide +kernel, rfl⟩
theorem dX1_asTold_26 : zD cX1_asTold 26 (.iconst 2) 1 27 := ⟨by decide +kernel, rfl⟩
theorem dX1_asTold_27 : zJ cX1_asTold 27 (.if_icmp .ge) 30 50 := ⟨23, by decide +kernel, rfl, by decide⟩
theorem dX1_asTold_30 : zD cX1_asTold 30 (.aload_n 0) 1 31 := ⟨by decide +kernel, rfl⟩
theorem dX1_asTold_31 : zD cX1_asTold 31 (.getfield 25) 3 34 := ⟨by decide +kernel, rfl⟩
theorem dX1_asTold_34 : zD cX1_asTold 34 (.iload_n 2) 1 35 := ⟨by decide +kernel, rfl⟩
theorem dX1_asTold_35 : zD cX1_asTold 35 (.iconst 0) 1 36 := ⟨by decide +kernel, rfl⟩
theorem dX1_asTold_36 : zD cX1_asTold 36 .iastore 1 37 := ⟨by decide +kernel, rfl⟩
theorem dX1_asTold_37 : zD cX1_asTold 37 (.aload_n 0) 1 38 := ⟨by decide +kernel, rfl⟩
theorem dX1_asTold_38 : zD cX1_asTold 38 (.getfield 28) 3 41 := ⟨by decide +kernel, rfl⟩
theorem dX1_asTold_41 : zD cX1_asTold 41 (.iload_n 2) 1 42 := ⟨by decide +kernel, rfl⟩
theorem dX1_asTold_42 : zD cX1_asTold 42 (.iconst (-1)) 1 43 := ⟨by decide +kernel, rfl⟩
theorem dX1_asTold_43 : zD cX1_asTold 43 .iastore 1 44 := ⟨by decide +kernel, rfl⟩
theorem dX1_asTold_44 : zD cX1_asTold 44 (.iinc 2 1) 3 47 := ⟨by decide +kernel, rfl⟩
theorem dX1_asTold_47 : zJ cX1_asTold 47 .goto 50 25 := ⟨-22, by decide +kernel, rfl, by decide⟩
theorem dX1_asTold_50 : zD cX1_asTold 50 .return_ 1 51 := ⟨by decide +kernel, rfl⟩
theorem dX1_addExtra_0 : zD cX1_addExtra 0 (.iload_n 1) 1 1 := ⟨by decide +kernel, rfl⟩
theorem dX1_addExtra_1 : zJ cX1_addExtra 1 (.ifCond .lt) 4 34 := ⟨33, by decide +kernel, rfl, by decide⟩
theorem dX1_addExtra_4 : zD cX1_addExtra 4 (.iload_n 1) 1 5 := ⟨by decide +kernel, rfl⟩
theorem dX1_addExtra_5 : zD cX1_addExtra 5 (.iconst 2) 1 6 := ⟨by decide +kernel, rfl⟩
theorem dX1_addExtra_6 : zJ cX1_addExtra 6 (.if_icmp .ge) 9 34 := ⟨28, by decide +kernel, rfl, by decide⟩
theorem dX1_addExtra_9 : zD cX1_addExtra 9 (.aload_n 0) 1 10 := ⟨by decide +kernel, rfl⟩
theorem dX1_addExtra_10 : zD cX1_addExtra 10 (.getfield 34) 3 13 := ⟨by decide +kernel, rfl⟩
theorem dX1_addExtra_13 : zD cX1_addExtra 13 (.iload_n 2) 1 14 := ⟨by decide +kernel, rfl⟩
theorem dX1_addExtra_14 : zD cX1_addExtra 14 (.invokevirtual 49) 3 17 := ⟨by decide +kernel, rfl⟩
theorem dX1_addExtra_17 : zJ cX1_addExtra 17 (.ifCond .eq) 20 34 := ⟨17, by decide +kernel, rfl, by decide⟩
theorem dX1_addExtra_20 : zD cX1_addExtra 20 (.aload_n 0) 1 21 := ⟨by decide +kernel, rfl⟩
theorem dX1_addExtra_21 : zD cX1_addExtra 21 (.getfield 25) 3 24 := ⟨by decide +kernel, rfl⟩
theorem dX1_addExtra_24 : zD cX1_addExtra 24 (.iload_n 1) 1 25 := ⟨by decide +kernel, rfl⟩
theorem dX1_addExtra_25 : zD cX1_addExtra 25 (.iload_n 2) 1 26 := ⟨by decide +kernel, rfl⟩
theorem dX1_addExtra_26 : zD cX1_addExtra 26 .iastore 1 27 := ⟨by decide +kernel, rfl⟩
theorem dX1_addExtra_27 : zD cX1_addExtra 27 (.aload_n 0) 1 28 := ⟨by decide +kernel, rfl⟩
theorem dX1_addExtra_28 : zD cX1_addExtra 28 (.getfield 28) 3 31 := ⟨by decide +kernel, rfl⟩
theorem dX1_addExtra_31 : zD cX1_addExtra 31 (.iload_n 1) 1 32 := ⟨by decide +kernel, rfl⟩
theorem dX1_addExtra_32 : zD cX1_addExtra 32 (.iload_n 3) 1 33 := ⟨by decide +kernel, rfl⟩
theorem dX1_addExtra_33 : zD cX1_addExtra 33 .iastore 1 34 := ⟨by decide +kernel, rfl⟩
theorem dX1_addExtra_34 : zD cX1_addExtra 34 .return_ 1 35 := ⟨by decide +kernel, rfl⟩
theorem dX1_runTo_0 : zD cX1_runTo 0 (.aload_n 0) 1 1 := ⟨by decide +kernel, rfl⟩
theorem dX1_runTo_1 : zD cX1_runTo 1 (.invokevirtual 53) 3 4 := ⟨by decide +kernel, rfl⟩
theorem dX1_runTo_4 : zD cX1_runTo 4 (.iconst 0) 1 5 := ⟨by decide +kernel, rfl⟩
theorem dX1_runTo_5 : zD cX1_runTo 5 (.istore_n 2) 1 6 := ⟨by decide +kernel, rfl⟩
theorem dX1_runTo_6 : zD cX1_runTo 6 (.iload_n 2) 1 7 := ⟨by decide +kernel, rfl⟩
theorem dX1_runTo_7 : zD cX1_runTo 7 (.iload_n 1) 1 8 := ⟨by decide +kernel, rfl⟩
theorem dX1_runTo_8 : zJ cX1_runTo 8 (.if_icmp .gt) 11 126 := ⟨118, by decide +kernel, rfl, by decide⟩
theorem dX1_runTo_11 : zD cX1_runTo 11 (.iload_n 2) 1 12 := ⟨by decide +kernel, rfl⟩
theorem dX1_runTo_12 : zD cX1_runTo 12 (.sipush 200) 3 15 := ⟨by decide +kernel, rfl⟩
theorem dX1_runTo_15 : zJ cX1_runTo 15 (.if_icmp .ge) 18 126 := ⟨111, by decide +kernel, rfl, by decide⟩
theorem dX1_runTo_18 : zD cX1_runTo 18 (.aload_n 0) 1 19 := ⟨by decide +kernel, rfl⟩
theorem dX1_runTo_19 : zD cX1_runTo 19 (.getfield 56) 3 22 := ⟨by decide +kernel, rfl⟩
theorem dX1_runTo_22 : zD cX1_runTo 22 (.aload_n 0) 1 23 := ⟨by decide +kernel, rfl⟩
theorem dX1_runTo_23 : zD cX1_runTo 23 (.getfield 34) 3 26 := ⟨by decide +kernel, rfl⟩
theorem dX1_runTo_26 : zD cX1_runTo 26 (.getfield 59) 3 29 := ⟨by decide +kernel, rfl⟩
theorem dX1_runTo_29 : zJ cX1_runTo 29 (.if_icmp .ge) 32 126 := ⟨97, by decide +kernel, rfl, by decide⟩
theorem dX1_runTo_32 : zD cX1_runTo 32 (.aload_n 0) 1 33 := ⟨by decide +kernel, rfl⟩
theorem dX1_runTo_33 : zD cX1_runTo 33 (.iload_n 2) 1 34 := ⟨by decide +kernel, rfl⟩
theorem dX1_runTo_34 : zD cX1_runTo 34 (.invokevirtual 62) 3 37 := ⟨by decide +kernel, rfl⟩
theorem dX1_runTo_37 : zD cX1_runTo 37 (.aload_n 0) 1 38 := ⟨by decide +kernel, rfl⟩
theorem dX1_runTo_38 : zD cX1_runTo 38 (.getfield 46) 3 41 := ⟨by decide +kernel, rfl⟩
theorem dX1_runTo_41 : zJ cX1_runTo 41 (.ifCond .lt) 44 55 := ⟨14, by decide +kernel, rfl, by decide⟩
theorem dX1_runTo_44 : zD cX1_runTo 44 (.aload_n 0) 1 45 := ⟨by decide +kernel, rfl⟩
theorem dX1_runTo_45 : zD cX1_runTo 45 (.iload_n 2) 1 46 := ⟨by decide +kernel, rfl⟩
theorem dX1_runTo_46 : zD cX1_runTo 46 (.invokevirtual 66) 3 49 := ⟨by decide +kernel, rfl⟩
theorem dX1_runTo_49 : zJ cX1_runTo 49 (.ifCond .eq) 52 76 := ⟨27, by decide +kernel, rfl, by decide⟩
theorem dX1_runTo_52 : zJ cX1_runTo 52 .goto 55 71 := ⟨19, by decide +kernel, rfl, by decide⟩
theorem dX1_runTo_55 : zD cX1_runTo 55 (.aload_n 0) 1 56 := ⟨by decide +kernel, rfl⟩
theorem dX1_runTo_56 : zD cX1_runTo 56 (.iload_n 2) 1 57 := ⟨by decide +kernel, rfl⟩
theorem dX1_runTo_57 : zD cX1_runTo 57 (.invokevirtual 69) 3 60 := ⟨by decide +kernel, rfl⟩
theorem dX1_runTo_60 : zJ cX1_runTo 60 (.ifCond .ne) 63 71 := ⟨11, by decide +kernel, rfl, by decide⟩
theorem dX1_runTo_63 : zD cX1_runTo 63 (.aload_n 0) 1 64 := ⟨by decide +kernel, rfl⟩
theorem dX1_runTo_64 : zD cX1_runTo 64 (.iload_n 2) 1 65 := ⟨by decide +kernel, rfl⟩
theorem dX1_runTo_65 : zD cX1_runTo 65 (.invokevirtual 72) 3 68 := ⟨by decide +kernel, rfl⟩
theorem dX1_runTo_68 : zJ cX1_runTo 68 (.ifCond .eq) 71 76 := ⟨8, by decide +kernel, rfl, by decide⟩
theorem dX1_runTo_71 : zD cX1_runTo 71 (.aload_n 0) 1 72 := ⟨by decide +kernel, rfl⟩
theorem dX1_runTo_72 : zD cX1_runTo 72 (.iload_n 2) 1 73 := ⟨by decide +kernel, rfl⟩
theorem dX1_runTo_73 : zD cX1_runTo 73 (.invokevirtual 75) 3 76 := ⟨by decide +kernel, rfl⟩
theorem dX1_runTo_76 : zD cX1_runTo 76 (.aload_n 0) 1 77 := ⟨by decide +kernel, rfl⟩
theorem dX1_runTo_77 : zD cX1_runTo 77 (.iload_n 2) 1 78 := ⟨by decide +kernel, rfl⟩
theorem dX1_runTo_78 : zD cX1_runTo 78 (.invokevirtual 78) 3 81 := ⟨by decide +kernel, rfl⟩
theorem dX1_runTo_81 : zD cX1_runTo 81 (.aload_n 0) 1 82 := ⟨by decide +kernel, rfl⟩
theorem dX1_runTo_82 : zD cX1_runTo 82 (.getfield 34) 3 85 := ⟨by decide +kernel, rfl⟩
theorem dX1_runTo_85 : zD cX1_runTo 85 (.getfield 81) 3 88 := ⟨by decide +kernel, rfl⟩
theorem dX1_runTo_88 : zJ cX1_runTo 88 (.ifCond .le) 91 108 := ⟨20, by decide +kernel, rfl, by decide⟩
theorem dX1_runTo_91 : zD cX1_runTo 91 (.iload_n 2) 1 92 := ⟨by decide +kernel, rfl⟩
theorem dX1_runTo_92 : zD cX1_runTo 92 (.aload_n 0) 1 93 := ⟨by decide +kernel, rfl⟩
theorem dX1_runTo_93 : zD cX1_runTo 93 (.getfield 34) 3 96 := ⟨by decide +kernel, rfl⟩
theorem dX1_runTo_96 : zD cX1_runTo 96 (.getfield 81) 3 99 := ⟨by decide +kernel, rfl⟩
theorem dX1_runTo_99 : zD cX1_runTo 99 .irem 1 100 := ⟨by decide +kernel, rfl⟩
theorem dX1_runTo_100 : zJ cX1_runTo 100 (.ifCond .ne) 103 108 := ⟨8, by decide +kernel, rfl, by decide⟩
theorem dX1_runTo_103 : zD cX1_runTo 103 (.aload_n 0) 1 104 := ⟨by decide +kernel, rfl⟩
theorem dX1_runTo_104 : zD cX1_runTo 104 (.iload_n 2) 1 105 := ⟨by decide +kernel, rfl⟩
theorem dX1_runTo_105 : zD cX1_runTo 105 (.invokevirtual 84) 3 108 := ⟨by decide +kernel, rfl⟩
theorem dX1_runTo_108 : zD cX1_runTo 108 (.aload_n 0) 1 109 := ⟨by decide +kernel, rfl⟩
theorem dX1_runTo_109 : zD cX1_runTo 109 (.getfield 87) 3 112 := ⟨by decide +kernel, rfl⟩
theorem dX1_runTo_112 : zJ cX1_runTo 112 (.ifCond .ne) 115 120 := ⟨8, by decide +kernel, rfl, by decide⟩
theorem dX1_runTo_115 : zD cX1_runTo 115 (.aload_n 0) 1 116 := ⟨by decide +kernel, rfl⟩
theorem dX1_runTo_116 : zD cX1_runTo 116 (.iload_n 2) 1 117 := ⟨by decide +kernel, rfl⟩
theorem dX1_runTo_117 : zD cX1_runTo 117 (.invokevirtual 90) 3 120 := ⟨by decide +kernel, rfl⟩
theorem dX1_runTo_120 : zD cX1_runTo 120 (.iinc 2 1) 3 123 := ⟨by decide +kernel, rfl⟩
theorem dX1_runTo_123 : zJ cX1_runTo 123 .goto 126 6 := ⟨-117, by decide +kernel, rfl, by decide⟩
theorem dX1_runTo_126 : zD cX1_runTo 126 .return_ 1 127 := ⟨by decide +kernel, rfl⟩
theorem dX1_begin_0 : zD cX1_begin 0 (.iconst 0) 1 1 := ⟨by decide +kernel, rfl⟩
theorem dX1_begin_1 : zD cX1_begin 1 (.istore_n 1) 1 2 := ⟨by decide +kernel, rfl⟩
theorem dX1_begin_2 : zD cX1_begin 2 (.iload_n 1) 1 3 := ⟨by decide +kernel, rfl⟩
theorem dX1_begin_3 : zD cX1_begin 3 (.bipush 10) 2 5 := ⟨by decide +kernel, rfl⟩
theorem dX1_begin_5 : zJ cX1_begin 5 (.if_icmp .ge) 8 37 := ⟨32, by decide +kernel, rfl, by decide⟩
theorem dX1_begin_8 : zD cX1_begin 8 (.aload_n 0) 1 9 := ⟨by decide +kernel, rfl⟩
theorem dX1_begin_9 : zD cX1_begin 9 (.getfield 9) 3 12 := ⟨by decide +kernel, rfl⟩
theorem dX1_begin_12 : zD cX1_begin 12 (.iload_n 1) 1 13 := ⟨by decide +kernel, rfl⟩
theorem dX1_begin_13 : zD cX1_begin 13 (.iconst 3) 1 14 := ⟨by decide +kernel, rfl⟩
theorem dX1_begin_14 : zD cX1_begin 14 .iastore 1 15 := ⟨by decide +kernel, rfl⟩
theorem dX1_begin_15 : zD cX1_begin 15 (.aload_n 0) 1 16 := ⟨by decide +kernel, rfl⟩
theorem dX1_begin_16 : zD cX1_begin 16 (.getfield 15) 3 19 := ⟨by decide +kernel, rfl⟩
theorem dX1_begin_19 : zD cX1_begin 19 (.iload_n 1) 1 20 := ⟨by decide +kernel, rfl⟩
theorem dX1_begin_20 : zD cX1_begin 20 (.sipush 200) 3 23 := ⟨by decide +kernel, rfl⟩
theorem dX1_begin_23 : zD cX1_begin 23 .iastore 1 24 := ⟨by decide +kernel, rfl⟩
theorem dX1_begin_24 : zD cX1_begin 24 (.aload_n 0) 1 25 := ⟨by decide +kernel, rfl⟩
theorem dX1_begin_25 : zD cX1_begin 25 (.getfield 18) 3 28 := ⟨by decide +kernel, rfl⟩
theorem dX1_begin_28 : zD cX1_begin 28 (.iload_n 1) 1 29 := ⟨by decide +kernel, rfl⟩
theorem dX1_begin_29 : zD cX1_begin 29 (.iconst 0) 1 30 := ⟨by decide +kernel, rfl⟩
theorem dX1_begin_30 : zD cX1_begin 30 .bastore 1 31 := ⟨by decide +kernel, rfl⟩
theorem dX1_begin_31 : zD cX1_begin 31 (.iinc 1 1) 3 34 := ⟨by decide +kernel, rfl⟩
theorem dX1_begin_34 : zJ cX1_begin 34 .goto 37 2 := ⟨-32, by decide +kernel, rfl, by decide⟩
theorem dX1_begin_37 : zD cX1_begin 37 (.aload_n 0) 1 38 := ⟨by decide +kernel, rfl⟩
theorem dX1_begin_38 : zD cX1_begin 38 (.iconst 0) 1 39 := ⟨by decide +kernel, rfl⟩
theorem dX1_begin_39 : zD cX1_begin 39 (.putfield 93) 3 42 := ⟨by decide +kernel, rfl⟩
theorem dX1_begin_42 : zD cX1_begin 42 (.aload_n 0) 1 43 := ⟨by decide +kernel, rfl⟩
theorem dX1_begin_43 : zD cX1_begin 43 (.iconst 0) 1 44 := ⟨by decide +kernel, rfl⟩
theorem dX1_begin_44 : zD cX1_begin 44 (.putfield 96) 3 47 := ⟨by decide +kernel, rfl⟩
theorem dX1_begin_47 : zD cX1_begin 47 (.aload_n 0) 1 48 := ⟨by decide +kernel, rfl⟩
theorem dX1_begin_48 : zD cX1_begin 48 (.iconst 0) 1 49 := ⟨by decide +kernel, rfl⟩
theorem dX1_begin_49 : zD cX1_begin 49 (.putfield 56) 3 52 := ⟨by decide +kernel, rfl⟩
theorem dX1_begin_52 : zD cX1_begin 52 (.aload_n 0) 1 53 := ⟨by decide +kernel, rfl⟩
theorem dX1_begin_53 : zD cX1_begin 53 (.aload_n 0) 1 54 := ⟨by decide +kernel, rfl⟩
theorem dX1_begin_54 : zD cX1_begin 54 (.getfield 34) 3 57 := ⟨by decide +kernel, rfl⟩
theorem dX1_begin_57 : zD cX1_begin 57 (.getfield 99) 3 60 := ⟨by decide +kernel, rfl⟩
theorem dX1_begin_60 : zD cX1_begin 60 (.putfield 87) 3 63 := ⟨by decide +kernel, rfl⟩
theorem dX1_begin_63 : zD cX1_begin 63 (.aload_n 0) 1 64 := ⟨by decide +kernel, rfl⟩
theorem dX1_begin_64 : zD cX1_begin 64 (.iconst 0) 1 65 := ⟨by decide +kernel, rfl⟩
theorem dX1_begin_65 : zD cX1_begin 65 (.putfield 100) 3 68 := ⟨by decide +kernel, rfl⟩
theorem dX1_begin_68 : zD cX1_begin 68 (.aload_n 0) 1 69 := ⟨by decide +kernel, rfl⟩
theorem dX1_begin_69 : zD cX1_begin 69 (.iconst (-1)) 1 70 := ⟨by decide +kernel, rfl⟩
theorem dX1_begin_70 : zD cX1_begin 70 (.putfield 103) 3 73 := ⟨by decide +kernel, rfl⟩
theorem dX1_begin_73 : zD cX1_begin 73 .return_ 1 74 := ⟨by decide +kernel, rfl⟩
theorem dX1_letGoAway_0 : zD cX1_letGoAway 0 (.iconst 0) 1 1 := ⟨by decide +kernel, rfl⟩
theorem dX1_letGoAway_1 : zD cX1_letGoAway 1 (.istore_n 2) 1 2 := ⟨by decide +kernel, rfl⟩
theorem dX1_letGoAway_2 : zD cX1_letGoAway 2 (.iconst 0) 1 3 := ⟨by decide +kernel, rfl⟩
theorem dX1_letGoAway_3 : zD cX1_letGoAway 3 (.istore_n 3) 1 4 := ⟨by decide +kernel, rfl⟩
theorem dX1_letGoAway_4 : zD cX1_letGoAway 4 (.iload_n 3) 1 5 := ⟨by decide +kernel, rfl⟩
theorem dX1_letGoAway_5 : zD cX1_letGoAway 5 (.aload_n 0) 1 6 := ⟨by decide +kernel, rfl⟩
theorem dX1_letGoAway_6 : zD cX1_letGoAway 6 (.getfield 93) 3 9 := ⟨by decide +kernel, rfl⟩
theorem dX1_letGoAway_9 : zJ cX1_letGoAway 9 (.if_icmp .ge) 12 73 := ⟨64, by decide +kernel, rfl, by decide⟩
theorem dX1_letGoAway_12 : zD cX1_letGoAway 12 (.aload_n 0) 1 13 := ⟨by decide +kernel, rfl⟩
theorem dX1_letGoAway_13 : zD cX1_letGoAway 13 (.getfield 22) 3 16 := ⟨by decide +kernel, rfl⟩
theorem dX1_letGoAway_16 : zD cX1_letGoAway 16 (.iload_n 3) 1 17 := ⟨by decide +kernel, rfl⟩
theorem dX1_letGoAway_17 : zD cX1_letGoAway 17 .iaload 1 18 := ⟨by decide +kernel, rfl⟩
theorem dX1_letGoAway_18 : zD cX1_letGoAway 18 (.istore 4) 2 20 := ⟨by decide +kernel, rfl⟩
theorem dX1_letGoAway_20 : zD cX1_letGoAway 20 (.iload_n 1) 1 21 := ⟨by decide +kernel, rfl⟩
theorem dX1_letGoAway_21 : zD cX1_letGoAway 21 (.aload_n 0) 1 22 := ⟨by decide +kernel, rfl⟩
theorem dX1_letGoAway_22 : zD cX1_letGoAway 22 (.getfield 34) 3 25 := ⟨by decide +kernel, rfl⟩
theorem dX1_letGoAway_25 : zD cX1_letGoAway 25 (.getfield 106) 3 28 := ⟨by decide +kernel, rfl⟩
theorem dX1_letGoAway_28 : zD cX1_letGoAway 28 (.iload 4) 2 30 := ⟨by decide +kernel, rfl⟩
theorem dX1_letGoAway_30 : zD cX1_letGoAway 30 .iaload 1 31 := ⟨by decide +kernel, rfl⟩
theorem dX1_letGoAway_31 : zD cX1_letGoAway 31 .isub 1 32 := ⟨by decide +kernel, rfl⟩
theorem dX1_letGoAway_32 : zD cX1_letGoAway 32 (.aload_n 0) 1 33 := ⟨by decide +kernel, rfl⟩
theorem dX1_letGoAway_33 : zD cX1_letGoAway 33 (.getfield 34) 3 36 := ⟨by decide +kernel, rfl⟩
theorem dX1_letGoAway_36 : zD cX1_letGoAway 36 (.getfield 109) 3 39 := ⟨by decide +kernel, rfl⟩
theorem dX1_letGoAway_39 : zD cX1_letGoAway 39 (.iload 4) 2 41 := ⟨by decide +kernel, rfl⟩
theorem dX1_letGoAway_41 : zD cX1_letGoAway 41 .iaload 1 42 := ⟨by decide +kernel, rfl⟩
theorem dX1_letGoAway_42 : zJ cX1_letGoAway 42 (.if_icmp .lt) 45 56 := ⟨14, by decide +kernel, rfl, by decide⟩
theorem dX1_letGoAway_45 : zD cX1_letGoAway 45 (.aload_n 0) 1 46 := ⟨by decide +kernel, rfl⟩
theorem dX1_letGoAway_46 : zD cX1_letGoAway 46 (.iload 4) 2 48 := ⟨by decide +kernel, rfl⟩
theorem dX1_letGoAway_48 : zD cX1_letGoAway 48 (.iconst 1) 1 49 := ⟨by decide +kernel, rfl⟩
theorem dX1_letGoAway_49 : zD cX1_letGoAway 49 (.iload_n 1) 1 50 := ⟨by decide +kernel, rfl⟩
theorem dX1_letGoAway_50 : zD cX1_letGoAway 50 (.invokevirtual 112) 3 53 := ⟨by decide +kernel, rfl⟩
theorem dX1_letGoAway_53 : zJ cX1_letGoAway 53 .goto 56 67 := ⟨14, by decide +kernel, rfl, by decide⟩
theorem dX1_letGoAway_56 : zD cX1_letGoAway 56 (.aload_n 0) 1 57 := ⟨by decide +kernel, rfl⟩
theorem dX1_letGoAway_57 : zD cX1_letGoAway 57 (.getfield 22) 3 60 := ⟨by decide +kernel, rfl⟩
theorem dX1_letGoAway_60 : zD cX1_letGoAway 60 (.iload_n 2) 1 61 := ⟨by decide +kernel, rfl⟩
theorem dX1_letGoAway_61 : zD cX1_letGoAway 61 (.iload 4) 2 63 := ⟨by decide +kernel, rfl⟩
theorem dX1_letGoAway_63 : zD cX1_letGoAway 63 .iastore 1 64 := ⟨by decide +kernel, rfl⟩
theorem dX1_letGoAway_64 : zD cX1_letGoAway 64 (.iinc 2 1) 3 67 := ⟨by decide +kernel, rfl⟩
theorem dX1_letGoAway_67 : zD cX1_letGoAway 67 (.iinc 3 1) 3 70 := ⟨by decide +kernel, rfl⟩
theorem dX1_letGoAway_70 : zJ cX1_letGoAway 70 .goto 73 4 := ⟨-66, by decide +kernel, rfl, by decide⟩
theorem dX1_letGoAway_73 : zD cX1_letGoAway 73 (.aload_n 0) 1 74 := ⟨by decide +kernel, rfl⟩
theorem dX1_letGoAway_74 : zD cX1_letGoAway 74 (.iload_n 2) 1 75 := ⟨by decide +kernel, rfl⟩
theorem dX1_letGoAway_75 : zD cX1_letGoAway 75 (.putfield 93) 3 78 := ⟨by decide +kernel, rfl⟩
theorem dX1_letGoAway_78 : zD cX1_letGoAway 78 .return_ 1 79 := ⟨by decide +kernel, rfl⟩
theorem dX1_isToldCry_0 : zD cX1_isToldCry 0 (.iload_n 1) 1 1 := ⟨by decide +kernel, rfl⟩
theorem dX1_isToldCry_1 : zJ cX1_isToldCry 1 (.ifCond .lt) 4 10 := ⟨9, by decide +kernel, rfl, by decide⟩
theorem dX1_isToldCry_4 : zD cX1_isToldCry 4 (.iload_n 1) 1 5 := ⟨by decide +kernel, rfl⟩
theorem dX1_isToldCry_5 : zD cX1_isToldCry 5 (.bipush 100) 2 7 := ⟨by decide +kernel, rfl⟩
theorem dX1_isToldCry_7 : zJ cX1_isToldCry 7 (.if_icmp .lt) 10 12 := ⟨5, by decide +kernel, rfl, by decide⟩
theorem dX1_isToldCry_10 : zD cX1_isToldCry 10 (.iconst 0) 1 11 := ⟨by decide +kernel, rfl⟩
theorem dX1_isToldCry_11 : zD cX1_isToldCry 11 .ireturn 1 12 := ⟨by decide +kernel, rfl⟩
theorem dX1_isToldCry_12 : zD cX1_isToldCry 12 (.aload_n 0) 1 13 := ⟨by decide +kernel, rfl⟩
theorem dX1_isToldCry_13 : zD cX1_isToldCry 13 (.getfield 34) 3 16 := ⟨by decide +kernel, rfl⟩
theorem dX1_isToldCry_16 : zD cX1_isToldCry 16 (.getfield 116) 3 19 := ⟨by decide +kernel, rfl⟩
theorem dX1_isToldCry_19 : zD cX1_isToldCry 19 (.getfield 120) 3 22 := ⟨by decide +kernel, rfl⟩
theorem dX1_isToldCry_22 : zD cX1_isToldCry 22 (.iload_n 1) 1 23 := ⟨by decide +kernel, rfl⟩
theorem dX1_isToldCry_23 : zD cX1_isToldCry 23 .iaload 1 24 := ⟨by decide +kernel, rfl⟩
theorem dX1_isToldCry_24 : zD cX1_isToldCry 24 (.aload_n 0) 1 25 := ⟨by decide +kernel, rfl⟩
theorem dX1_isToldCry_25 : zD cX1_isToldCry 25 (.getfield 43) 3 28 := ⟨by decide +kernel, rfl⟩
theorem dX1_isToldCry_28 : zD cX1_isToldCry 28 (.iconst (-1)) 1 29 := ⟨by decide +kernel, rfl⟩
theorem dX1_isToldCry_29 : zD cX1_isToldCry 29 .ixor 1 30 := ⟨by decide +kernel, rfl⟩
theorem dX1_isToldCry_30 : zD cX1_isToldCry 30 .iand 1 31 := ⟨by decide +kernel, rfl⟩
theorem dX1_isToldCry_31 : zD cX1_isToldCry 31 (.istore_n 2) 1 32 := ⟨by decide +kernel, rfl⟩
theorem dX1_isToldCry_32 : zD cX1_isToldCry 32 (.iload_n 2) 1 33 := ⟨by decide +kernel, rfl⟩
theorem dX1_isToldCry_33 : zJ cX1_isToldCry 33 (.ifCond .ne) 36 38 := ⟨5, by decide +kernel, rfl, by decide⟩
theorem dX1_isToldCry_36 : zD cX1_isToldCry 36 (.iconst 0) 1 37 := ⟨by decide +kernel, rfl⟩
theorem dX1_isToldCry_37 : zD cX1_isToldCry 37 .ireturn 1 38 := ⟨by decide +kernel, rfl⟩
theorem dX1_isToldCry_38 : zD cX1_isToldCry 38 (.iconst 0) 1 39 := ⟨by decide +kernel, rfl⟩
theorem dX1_isToldCry_39 : zD cX1_isToldCry 39 (.istore_n 3) 1 40 := ⟨by decide +kernel, rfl⟩
theorem dX1_isToldCry_40 : zD cX1_isToldCry 40 (.iload_n 3) 1 41 := ⟨by decide +kernel, rfl⟩
theorem dX1_isToldCry_41 : zD cX1_isToldCry 41 (.aload_n 0) 1 42 := ⟨by decide +kernel, rfl⟩
theorem dX1_isToldCry_42 : zD cX1_isToldCry 42 (.getfield 34) 3 45 := ⟨by decide +kernel, rfl⟩
theorem dX1_isToldCry_45 : zD cX1_isToldCry 45 (.getfield 116) 3 48 := ⟨by decide +kernel, rfl⟩
theorem dX1_isToldCry_48 : zD cX1_isToldCry 48 (.getfield 125) 3 51 := ⟨by decide +kernel, rfl⟩
theorem dX1_isToldCry_51 : zJ cX1_isToldCry 51 (.if_icmp .ge) 54 91 := ⟨40, by decide +kernel, rfl, by decide⟩
theorem dX1_isToldCry_54 : zD cX1_isToldCry 54 (.iload_n 2) 1 55 := ⟨by decide +kernel, rfl⟩
theorem dX1_isToldCry_55 : zD cX1_isToldCry 55 (.iload_n 3) 1 56 := ⟨by decide +kernel, rfl⟩
theorem dX1_isToldCry_56 : zD cX1_isToldCry 56 .ishr 1 57 := ⟨by decide +kernel, rfl⟩
theorem dX1_isToldCry_57 : zD cX1_isToldCry 57 (.iconst 1) 1 58 := ⟨by decide +kernel, rfl⟩
theorem dX1_isToldCry_58 : zD cX1_isToldCry 58 .iand 1 59 := ⟨by decide +kernel, rfl⟩
theorem dX1_isToldCry_59 : zD cX1_isToldCry 59 (.iconst 1) 1 60 := ⟨by decide +kernel, rfl⟩
theorem dX1_isToldCry_60 : zJ cX1_isToldCry 60 (.if_icmp .ne) 63 85 := ⟨25, by decide +kernel, rfl, by decide⟩
theorem dX1_isToldCry_63 : zD cX1_isToldCry 63 (.aload_n 0) 1 64 := ⟨by decide +kernel, rfl⟩
theorem dX1_isToldCry_64 : zD cX1_isToldCry 64 (.getfield 18) 3 67 := ⟨by decide +kernel, rfl⟩
theorem dX1_isToldCry_67 : zD cX1_isToldCry 67 (.aload_n 0) 1 68 := ⟨by decide +kernel, rfl⟩
theorem dX1_isToldCry_68 : zD cX1_isToldCry 68 (.getfield 34) 3 71 := ⟨by decide +kernel, rfl⟩
theorem dX1_isToldCry_71 : zD cX1_isToldCry 71 (.getfield 116) 3 74 := ⟨by decide +kernel, rfl⟩
theorem dX1_isToldCry_74 : zD cX1_isToldCry 74 (.getfield 126) 3 77 := ⟨by decide +kernel, rfl⟩
theorem dX1_isToldCry_77 : zD cX1_isToldCry 77 (.iload_n 3) 1 78 := ⟨by decide +kernel, rfl⟩
theorem dX1_isToldCry_78 : zD cX1_isToldCry 78 .iaload 1 79 := ⟨by decide +kernel, rfl⟩
theorem dX1_isToldCry_79 : zD cX1_isToldCry 79 .baload 1 80 := ⟨by decide +kernel, rfl⟩
theorem dX1_isToldCry_80 : zJ cX1_isToldCry 80 (.ifCond .eq) 83 85 := ⟨5, by decide +kernel, rfl, by decide⟩
theorem dX1_isToldCry_83 : zD cX1_isToldCry 83 (.iconst 1) 1 84 := ⟨by decide +kernel, rfl⟩
theorem dX1_isToldCry_84 : zD cX1_isToldCry 84 .ireturn 1 85 := ⟨by decide +kernel, rfl⟩
theorem dX1_isToldCry_85 : zD cX1_isToldCry 85 (.iinc 3 1) 3 88 := ⟨by decide +kernel, rfl⟩
theorem dX1_isToldCry_88 : zJ cX1_isToldCry 88 .goto 91 40 := ⟨-48, by decide +kernel, rfl, by decide⟩
theorem dX1_isToldCry_91 : zD cX1_isToldCry 91 (.iconst 0) 1 92 := ⟨by decide +kernel, rfl⟩
theorem dX1_isToldCry_92 : zD cX1_isToldCry 92 .ireturn 1 93 := ⟨by decide +kernel, rfl⟩
theorem dX1_isExtraCry_0 : zD cX1_isExtraCry 0 (.iconst 0) 1 1 := ⟨by decide +kernel, rfl⟩
theorem dX1_isExtraCry_1 : zD cX1_isExtraCry 1 (.istore_n 2) 1 2 := ⟨by decide +kernel, rfl⟩
theorem dX1_isExtraCry_2 : zD cX1_isExtraCry 2 (.iload_n 2) 1 3 := ⟨by decide +kernel, rfl⟩
theorem dX1_isExtraCry_3 : zD cX1_isExtraCry 3 (.iconst 2) 1 4 := ⟨by decide +kernel, rfl⟩
theorem dX1_isExtraCry_4 : zJ cX1_isExtraCry 4 (.if_icmp .ge) 7 39 := ⟨35, by decide +kernel, rfl, by decide⟩
theorem dX1_isExtraCry_7 : zD cX1_isExtraCry 7 (.aload_n 0) 1 8 := ⟨by decide +kernel, rfl⟩
theorem dX1_isExtraCry_8 : zD cX1_isExtraCry 8 (.getfield 28) 3 11 := ⟨by decide +kernel, rfl⟩
theorem dX1_isExtraCry_11 : zD cX1_isExtraCry 11 (.iload_n 2) 1 12 := ⟨by decide +kernel, rfl⟩
theorem dX1_isExtraCry_12 : zD cX1_isExtraCry 12 .iaload 1 13 := ⟨by decide +kernel, rfl⟩
theorem dX1_isExtraCry_13 : zD cX1_isExtraCry 13 (.iload_n 1) 1 14 := ⟨by decide +kernel, rfl⟩
theorem dX1_isExtraCry_14 : zJ cX1_isExtraCry 14 (.if_icmp .ne) 17 33 := ⟨19, by decide +kernel, rfl, by decide⟩
theorem dX1_isExtraCry_17 : zD cX1_isExtraCry 17 (.aload_n 0) 1 18 := ⟨by decide +kernel, rfl⟩
theorem dX1_isExtraCry_18 : zD cX1_isExtraCry 18 (.getfield 18) 3 21 := ⟨by decide +kernel, rfl⟩
theorem dX1_isExtraCry_21 : zD cX1_isExtraCry 21 (.aload_n 0) 1 22 := ⟨by decide +kernel, rfl⟩
theorem dX1_isExtraCry_22 : zD cX1_isExtraCry 22 (.getfield 25) 3 25 := ⟨by decide +kernel, rfl⟩
theorem dX1_isExtraCry_25 : zD cX1_isExtraCry 25 (.iload_n 2) 1 26 := ⟨by decide +kernel, rfl⟩
theorem dX1_isExtraCry_26 : zD cX1_isExtraCry 26 .iaload 1 27 := ⟨by decide +kernel, rfl⟩
theorem dX1_isExtraCry_27 : zD cX1_isExtraCry 27 .baload 1 28 := ⟨by decide +kernel, rfl⟩
theorem dX1_isExtraCry_28 : zJ cX1_isExtraCry 28 (.ifCond .eq) 31 33 := ⟨5, by decide +kernel, rfl, by decide⟩
theorem dX1_isExtraCry_31 : zD cX1_isExtraCry 31 (.iconst 1) 1 32 := ⟨by decide +kernel, rfl⟩
theorem dX1_isExtraCry_32 : zD cX1_isExtraCry 32 .ireturn 1 33 := ⟨by decide +kernel, rfl⟩
theorem dX1_isExtraCry_33 : zD cX1_isExtraCry 33 (.iinc 2 1) 3 36 := ⟨by decide +kernel, rfl⟩
theorem dX1_isExtraCry_36 : zJ cX1_isExtraCry 36 .goto 39 2 := ⟨-34, by decide +kernel, rfl, by decide⟩
theorem dX1_isExtraCry_39 : zD cX1_isExtraCry 39 (.iconst 0) 1 40 := ⟨by decide +kernel, rfl⟩
theorem dX1_isExtraCry_40 : zD cX1_isExtraCry 40 .ireturn 1 41 := ⟨by decide +kernel, rfl⟩
theorem dX1_isDrawnCry_0 : zD cX1_isDrawnCry 0 (.iconst 0) 1 1 := ⟨by decide +kernel, rfl⟩
theorem dX1_isDrawnCry_1 : zD cX1_isDrawnCry 1 (.istore_n 2) 1 2 := ⟨by decide +kernel, rfl⟩
theorem dX1_isDrawnCry_2 : zD cX1_isDrawnCry 2 (.iconst 0) 1 3 := ⟨by decide +kernel, rfl⟩
theorem dX1_isDrawnCry_3 : zD cX1_isDrawnCry 3 (.istore_n 3) 1 4 := ⟨by decide +kernel, rfl⟩
theorem dX1_isDrawnCry_4 : zD cX1_isDrawnCry 4 (.iload_n 3) 1 5 := ⟨by decide +kernel, rfl⟩
theorem dX1_isDrawnCry_5 : zD cX1_isDrawnCry 5 (.aload_n 0) 1 6 := ⟨by decide +kernel, rfl⟩
theorem dX1_isDrawnCry_6 : zD cX1_isDrawnCry 6 (.getfield 34) 3 9 := ⟨by decide +kernel, rfl⟩
theorem dX1_isDrawnCry_9 : zD cX1_isDrawnCry 9 (.getfield 59) 3 12 := ⟨by decide +kernel, rfl⟩
theorem dX1_isDrawnCry_12 : zJ cX1_isDrawnCry 12 (.if_icmp .ge) 15 57 := ⟨45, by decide +kernel, rfl, by decide⟩
theorem dX1_isDrawnCry_15 : zD cX1_isDrawnCry 15 (.aload_n 0) 1 16 := ⟨by decide +kernel, rfl⟩
theorem dX1_isDrawnCry_16 : zD cX1_isDrawnCry 16 (.getfield 34) 3 19 := ⟨by decide +kernel, rfl⟩
theorem dX1_isDrawnCry_19 : zD cX1_isDrawnCry 19 (.getfield 129) 3 22 := ⟨by decide +kernel, rfl⟩
theorem dX1_isDrawnCry_22 : zD cX1_isDrawnCry 22 (.iload_n 3) 1 23 := ⟨by decide +kernel, rfl⟩
theorem dX1_isDrawnCry_23 : zD cX1_isDrawnCry 23 .iaload 1 24 := ⟨by decide +kernel, rfl⟩
theorem dX1_isDrawnCry_24 : zD cX1_isDrawnCry 24 (.iconst 1) 1 25 := ⟨by decide +kernel, rfl⟩
theorem dX1_isDrawnCry_25 : zJ cX1_isDrawnCry 25 (.if_icmp .ne) 28 51 := ⟨26, by decide +kernel, rfl, by decide⟩
theorem dX1_isDrawnCry_28 : zD cX1_isDrawnCry 28 (.aload_n 0) 1 29 := ⟨by decide +kernel, rfl⟩
theorem dX1_isDrawnCry_29 : zD cX1_isDrawnCry 29 (.getfield 18) 3 32 := ⟨by decide +kernel, rfl⟩
theorem dX1_isDrawnCry_32 : zD cX1_isDrawnCry 32 (.iload_n 3) 1 33 := ⟨by decide +kernel, rfl⟩
theorem dX1_isDrawnCry_33 : zD cX1_isDrawnCry 33 .baload 1 34 := ⟨by decide +kernel, rfl⟩
theorem dX1_isDrawnCry_34 : zJ cX1_isDrawnCry 34 (.ifCond .eq) 37 48 := ⟨14, by decide +kernel, rfl, by decide⟩
theorem dX1_isDrawnCry_37 : zD cX1_isDrawnCry 37 (.aload_n 0) 1 38 := ⟨by decide +kernel, rfl⟩
theorem dX1_isDrawnCry_38 : zD cX1_isDrawnCry 38 (.iload_n 2) 1 39 := ⟨by decide +kernel, rfl⟩
theorem dX1_isDrawnCry_39 : zD cX1_isDrawnCry 39 (.iload_n 1) 1 40 := ⟨by decide +kernel, rfl⟩
theorem dX1_isDrawnCry_40 : zD cX1_isDrawnCry 40 (.invokevirtual 132) 3 43 := ⟨by decide +kernel, rfl⟩
theorem dX1_isDrawnCry_43 : zJ cX1_isDrawnCry 43 (.ifCond .eq) 46 48 := ⟨5, by decide +kernel, rfl, by decide⟩
theorem dX1_isDrawnCry_46 : zD cX1_isDrawnCry 46 (.iconst 1) 1 47 := ⟨by decide +kernel, rfl⟩
theorem dX1_isDrawnCry_47 : zD cX1_isDrawnCry 47 .ireturn 1 48 := ⟨by decide +kernel, rfl⟩
theorem dX1_isDrawnCry_48 : zD cX1_isDrawnCry 48 (.iinc 2 1) 3 51 := ⟨by decide +kernel, rfl⟩
theorem dX1_isDrawnCry_51 : zD cX1_isDrawnCry 51 (.iinc 3 1) 3 54 := ⟨by decide +kernel, rfl⟩
theorem dX1_isDrawnCry_54 : zJ cX1_isDrawnCry 54 .goto 57 4 := ⟨-50, by decide +kernel, rfl, by decide⟩
theorem dX1_isDrawnCry_57 : zD cX1_isDrawnCry 57 (.iconst 0) 1 58 := ⟨by decide +kernel, rfl⟩
theorem dX1_isDrawnCry_58 : zD cX1_isDrawnCry 58 .ireturn 1 59 := ⟨by decide +kernel, rfl⟩
theorem dX1_isDrawn_0 : zD cX1_isDrawn 0 (.ldc2_w 136) 3 3 := ⟨by decide +kernel, rfl⟩
theorem dX1_isDrawn_3 : zD cX1_isDrawn 3 (.aload_n 0) 1 4 := ⟨by decide +kernel, rfl⟩
theorem dX1_isDrawn_4 : zD cX1_isDrawn 4 (.getfield 46) 3 7 := ⟨by decide +kernel, rfl⟩
theorem dX1_isDrawn_7 : zD cX1_isDrawn 7 .i2l 1 8 := ⟨by decide +kernel, rfl⟩
theorem dX1_isDrawn_8 : zD cX1_isDrawn 8 .lmul 1 9 := ⟨by decide +kernel, rfl⟩
theorem dX1_isDrawn_9 : zD cX1_isDrawn 9 (.ldc2_w 138) 3 12 := ⟨by decide +kernel, rfl⟩
theorem dX1_isDrawn_12 : zD cX1_isDrawn 12 (.iload_n 1) 1 13 := ⟨by decide +kernel, rfl⟩
theorem dX1_isDrawn_13 : zD cX1_isDrawn 13 .i2l 1 14 := ⟨by decide +kernel, rfl⟩
theorem dX1_isDrawn_14 : zD cX1_isDrawn 14 .lmul 1 15 := ⟨by decide +kernel, rfl⟩
theorem dX1_isDrawn_15 : zD cX1_isDrawn 15 .ladd 1 16 := ⟨by decide +kernel, rfl⟩
theorem dX1_isDrawn_16 : zD cX1_isDrawn 16 (.ldc2_w 140) 3 19 := ⟨by decide +kernel, rfl⟩
theorem dX1_isDrawn_19 : zD cX1_isDrawn 19 (.iload_n 2) 1 20 := ⟨by decide +kernel, rfl⟩
theorem dX1_isDrawn_20 : zD cX1_isDrawn 20 .i2l 1 21 := ⟨by decide +kernel, rfl⟩
theorem dX1_isDrawn_21 : zD cX1_isDrawn 21 .lmul 1 22 := ⟨by decide +kernel, rfl⟩
theorem dX1_isDrawn_22 : zD cX1_isDrawn 22 .ladd 1 23 := ⟨by decide +kernel, rfl⟩
theorem dX1_isDrawn_23 : zD cX1_isDrawn 23 (.lconst 1) 1 24 := ⟨by decide +kernel, rfl⟩
theorem dX1_isDrawn_24 : zD cX1_isDrawn 24 .ladd 1 25 := ⟨by decide +kernel, rfl⟩
theorem dX1_isDrawn_25 : zD cX1_isDrawn 25 (.lstore_n 3) 1 26 := ⟨by decide +kernel, rfl⟩
theorem dX1_isDrawn_26 : zD cX1_isDrawn 26 (.lload_n 3) 1 27 := ⟨by decide +kernel, rfl⟩
theorem dX1_isDrawn_27 : zD cX1_isDrawn 27 (.lload_n 3) 1 28 := ⟨by decide +kernel, rfl⟩
theorem dX1_isDrawn_28 : zD cX1_isDrawn 28 .lmul 1 29 := ⟨by decide +kernel, rfl⟩
theorem dX1_isDrawn_29 : zD cX1_isDrawn 29 (.ldc2_w 142) 3 32 := ⟨by decide +kernel, rfl⟩
theorem dX1_isDrawn_32 : zD cX1_isDrawn 32 .lrem 1 33 := ⟨by decide +kernel, rfl⟩
theorem dX1_isDrawn_33 : zD cX1_isDrawn 33 (.ldc2_w 144) 3 36 := ⟨by decide +kernel, rfl⟩
theorem dX1_isDrawn_36 : zD cX1_isDrawn 36 .lrem 1 37 := ⟨by decide +kernel, rfl⟩
theorem dX1_isDrawn_37 : zD cX1_isDrawn 37 (.lconst 0) 1 38 := ⟨by decide +kernel, rfl⟩
theorem dX1_isDrawn_38 : zD cX1_isDrawn 38 .lcmp 1 39 := ⟨by decide +kernel, rfl⟩
theorem dX1_isDrawn_39 : zJ cX1_isDrawn 39 (.ifCond .ne) 42 46 := ⟨7, by decide +kernel, rfl, by decide⟩
theorem dX1_isDrawn_42 : zD cX1_isDrawn 42 (.iconst 1) 1 43 := ⟨by decide +kernel, rfl⟩
theorem dX1_isDrawn_43 : zJ cX1_isDrawn 43 .goto 46 47 := ⟨4, by decide +kernel, rfl, by decide⟩
theorem dX1_isDrawn_46 : zD cX1_isDrawn 46 (.iconst 0) 1 47 := ⟨by decide +kernel, rfl⟩
theorem dX1_isDrawn_47 : zD cX1_isDrawn 47 .ireturn 1 48 := ⟨by decide +kernel, rfl⟩
theorem dX1_turn_0 : zD cX1_turn 0 (.aload_n 0) 1 1 := ⟨by decide +kernel, rfl⟩
theorem dX1_turn_1 : zD cX1_turn 1 (.getfield 42) 3 4 := ⟨by decide +kernel, rfl⟩
theorem dX1_turn_4 : zD cX1_turn 4 (.iconst 3) 1 5 := ⟨by decide +kernel, rfl⟩
theorem dX1_turn_5 : zJ cX1_turn 5 (.if_icmp .eq) 8 31 := ⟨26, by decide +kernel, rfl, by decide⟩
theorem dX1_turn_8 : zD cX1_turn 8 (.aload_n 0) 1 9 := ⟨by decide +kernel, rfl⟩
theorem dX1_turn_9 : zD cX1_turn 9 (.getfield 103) 3 12 := ⟨by decide +kernel, rfl⟩
theorem dX1_turn_12 : zJ cX1_turn 12 (.ifCond .lt) 15 32 := ⟨20, by decide +kernel, rfl, by decide⟩
theorem dX1_turn_15 : zD cX1_turn 15 (.iload_n 1) 1 16 := ⟨by decide +kernel, rfl⟩
theorem dX1_turn_16 : zD cX1_turn 16 (.aload_n 0) 1 17 := ⟨by decide +kernel, rfl⟩
theorem dX1_turn_17 : zD cX1_turn 17 (.getfield 103) 3 20 := ⟨by decide +kernel, rfl⟩
theorem dX1_turn_20 : zD cX1_turn 20 .isub 1 21 := ⟨by decide +kernel, rfl⟩
theorem dX1_turn_21 : zD cX1_turn 21 (.aload_n 0) 1 22 := ⟨by decide +kernel, rfl⟩
theorem dX1_turn_22 : zD cX1_turn 22 (.getfield 34) 3 25 := ⟨by decide +kernel, rfl⟩
theorem dX1_turn_25 : zD cX1_turn 25 (.getfield 146) 3 28 := ⟨by decide +kernel, rfl⟩
theorem dX1_turn_28 : zJ cX1_turn 28 (.if_icmp .gt) 31 32 := ⟨4, by decide +kernel, rfl, by decide⟩
theorem dX1_turn_31 : zD cX1_turn 31 .return_ 1 32 := ⟨by decide +kernel, rfl⟩
theorem dX1_turn_32 : zD cX1_turn 32 (.aload_n 0) 1 33 := ⟨by decide +kernel, rfl⟩
theorem dX1_turn_33 : zD cX1_turn 33 (.getfield 93) 3 36 := ⟨by decide +kernel, rfl⟩
theorem dX1_turn_36 : zD cX1_turn 36 (.iconst 1) 1 37 := ⟨by decide +kernel, rfl⟩
theorem dX1_turn_37 : zD cX1_turn 37 .isub 1 38 := ⟨by decide +kernel, rfl⟩
theorem dX1_turn_38 : zD cX1_turn 38 (.istore_n 2) 1 39 := ⟨by decide +kernel, rfl⟩
theorem dX1_turn_39 : zD cX1_turn 39 (.aload_n 0) 1 40 := ⟨by decide +kernel, rfl⟩
theorem dX1_turn_40 : zD cX1_turn 40 (.getfield 42) 3 43 := ⟨by decide +kernel, rfl⟩
theorem dX1_turn_43 : zD cX1_turn 43 (.iconst 2) 1 44 := ⟨by decide +kernel, rfl⟩
theorem dX1_turn_44 : zJ cX1_turn 44 (.if_icmp .ne) 47 51 := ⟨7, by decide +kernel, rfl, by decide⟩
theorem dX1_turn_47 : zD cX1_turn 47 (.iconst 3) 1 48 := ⟨by decide +kernel, rfl⟩
theorem dX1_turn_48 : zJ cX1_turn 48 .goto 51 52 := ⟨4, by decide +kernel, rfl, by decide⟩
theorem dX1_turn_51 : zD cX1_turn 51 (.iconst 0) 1 52 := ⟨by decide +kernel, rfl⟩
theorem dX1_turn_52 : zD cX1_turn 52 (.istore_n 3) 1 53 := ⟨by decide +kernel, rfl⟩
theorem dX1_turn_53 : zD cX1_turn 53 (.iload_n 3) 1 54 := ⟨by decide +kernel, rfl⟩
theorem dX1_turn_54 : zD cX1_turn 54 (.iload_n 2) 1 55 := ⟨by decide +kernel, rfl⟩
theorem dX1_turn_55 : zJ cX1_turn 55 (.if_icmp .ge) 58 95 := ⟨40, by decide +kernel, rfl, by decide⟩
theorem dX1_turn_58 : zD cX1_turn 58 (.aload_n 0) 1 59 := ⟨by decide +kernel, rfl⟩
theorem dX1_turn_59 : zD cX1_turn 59 (.getfield 22) 3 62 := ⟨by decide +kernel, rfl⟩
theorem dX1_turn_62 : zD cX1_turn 62 (.iload_n 3) 1 63 := ⟨by decide +kernel, rfl⟩
theorem dX1_turn_63 : zD cX1_turn 63 .iaload 1 64 := ⟨by decide +kernel, rfl⟩
theorem dX1_turn_64 : zD cX1_turn 64 (.istore 4) 2 66 := ⟨by decide +kernel, rfl⟩
theorem dX1_turn_66 : zD cX1_turn 66 (.aload_n 0) 1 67 := ⟨by decide +kernel, rfl⟩
theorem dX1_turn_67 : zD cX1_turn 67 (.getfield 22) 3 70 := ⟨by decide +kernel, rfl⟩
theorem dX1_turn_70 : zD cX1_turn 70 (.iload_n 3) 1 71 := ⟨by decide +kernel, rfl⟩
theorem dX1_turn_71 : zD cX1_turn 71 (.aload_n 0) 1 72 := ⟨by decide +kernel, rfl⟩
theorem dX1_turn_72 : zD cX1_turn 72 (.getfield 22) 3 75 := ⟨by decide +kernel, rfl⟩
theorem dX1_turn_75 : zD cX1_turn 75 (.iload_n 2) 1 76 := ⟨by decide +kernel, rfl⟩
theorem dX1_turn_76 : zD cX1_turn 76 .iaload 1 77 := ⟨by decide +kernel, rfl⟩
theorem dX1_turn_77 : zD cX1_turn 77 .iastore 1 78 := ⟨by decide +kernel, rfl⟩
theorem dX1_turn_78 : zD cX1_turn 78 (.aload_n 0) 1 79 := ⟨by decide +kernel, rfl⟩
theorem dX1_turn_79 : zD cX1_turn 79 (.getfield 22) 3 82 := ⟨by decide +kernel, rfl⟩
theorem dX1_turn_82 : zD cX1_turn 82 (.iload_n 2) 1 83 := ⟨by decide +kernel, rfl⟩
theorem dX1_turn_83 : zD cX1_turn 83 (.iload 4) 2 85 := ⟨by decide +kernel, rfl⟩
theorem dX1_turn_85 : zD cX1_turn 85 .iastore 1 86 := ⟨by decide +kernel, rfl⟩
theorem dX1_turn_86 : zD cX1_turn 86 (.iinc 2 (-1)) 3 89 := ⟨by decide +kernel, rfl⟩
theorem dX1_turn_89 : zD cX1_turn 89 (.iinc 3 1) 3 92 := ⟨by decide +kernel, rfl⟩
theorem dX1_turn_92 : zJ cX1_turn 92 .goto 95 53 := ⟨-39, by decide +kernel, rfl, by decide⟩
theorem dX1_turn_95 : zD cX1_turn 95 (.aload_n 0) 1 96 := ⟨by decide +kernel, rfl⟩
theorem dX1_turn_96 : zD cX1_turn 96 .dup 1 97 := ⟨by decide +kernel, rfl⟩
theorem dX1_turn_97 : zD cX1_turn 97 (.getfield 100) 3 100 := ⟨by decide +kernel, rfl⟩
theorem dX1_turn_100 : zD cX1_turn 100 (.iconst 1) 1 101 := ⟨by decide +kernel, rfl⟩
theorem dX1_turn_101 : zD cX1_turn 101 .iadd 1 102 := ⟨by decide +kernel, rfl⟩
theorem dX1_turn_102 : zD cX1_turn 102 (.putfield 100) 3 105 := ⟨by decide +kernel, rfl⟩
theorem dX1_turn_105 : zD cX1_turn 105 (.aload_n 0) 1 106 := ⟨by decide +kernel, rfl⟩
theorem dX1_turn_106 : zD cX1_turn 106 (.iload_n 1) 1 107 := ⟨by decide +kernel, rfl⟩
theorem dX1_turn_107 : zD cX1_turn 107 (.putfield 103) 3 110 := ⟨by decide +kernel, rfl⟩
theorem dX1_turn_110 : zD cX1_turn 110 .return_ 1 111 := ⟨by decide +kernel, rfl⟩
theorem dX1_letCome_0 : zD cX1_letCome 0 (.aload_n 0) 1 1 := ⟨by decide +kernel, rfl⟩
theorem dX1_letCome_1 : zD cX1_letCome 1 (.getfield 96) 3 4 := ⟨by decide +kernel, rfl⟩
theorem dX1_letCome_4 : zD cX1_letCome 4 (.aload_n 0) 1 5 := ⟨by decide +kernel, rfl⟩
theorem dX1_letCome_5 : zD cX1_letCome 5 (.getfield 34) 3 8 := ⟨by decide +kernel, rfl⟩
theorem dX1_letCome_8 : zD cX1_letCome 8 (.getfield 59) 3 11 := ⟨by decide +kernel, rfl⟩
theorem dX1_letCome_11 : zJ cX1_letCome 11 (.if_icmp .ge) 14 67 := ⟨56, by decide +kernel, rfl, by decide⟩
theorem dX1_letCome_14 : zD cX1_letCome 14 (.aload_n 0) 1 15 := ⟨by decide +kernel, rfl⟩
theorem dX1_letCome_15 : zD cX1_letCome 15 (.getfield 34) 3 18 := ⟨by decide +kernel, rfl⟩
theorem dX1_letCome_18 : zD cX1_letCome 18 (.getfield 106) 3 21 := ⟨by decide +kernel, rfl⟩
theorem dX1_letCome_21 : zD cX1_letCome 21 (.aload_n 0) 1 22 := ⟨by decide +kernel, rfl⟩
theorem dX1_letCome_22 : zD cX1_letCome 22 (.getfield 34) 3 25 := ⟨by decide +kernel, rfl⟩
theorem dX1_letCome_25 : zD cX1_letCome 25 (.getfield 149) 3 28 := ⟨by decide +kernel, rfl⟩
theorem dX1_letCome_28 : zD cX1_letCome 28 (.aload_n 0) 1 29 := ⟨by decide +kernel, rfl⟩
theorem dX1_letCome_29 : zD cX1_letCome 29 (.getfield 96) 3 32 := ⟨by decide +kernel, rfl⟩
theorem dX1_letCome_32 : zD cX1_letCome 32 .iaload 1 33 := ⟨by decide +kernel, rfl⟩
theorem dX1_letCome_33 : zD cX1_letCome 33 .iaload 1 34 := ⟨by decide +kernel, rfl⟩
theorem dX1_letCome_34 : zD cX1_letCome 34 (.iload_n 1) 1 35 := ⟨by decide +kernel, rfl⟩
theorem dX1_letCome_35 : zJ cX1_letCome 35 (.if_icmp .ne) 38 67 := ⟨32, by decide +kernel, rfl, by decide⟩
theorem dX1_letCome_38 : zD cX1_letCome 38 (.aload_n 0) 1 39 := ⟨by decide +kernel, rfl⟩
theorem dX1_letCome_39 : zD cX1_letCome 39 (.aload_n 0) 1 40 := ⟨by decide +kernel, rfl⟩
theorem dX1_letCome_40 : zD cX1_letCome 40 (.getfield 34) 3 43 := ⟨by decide +kernel, rfl⟩
theorem dX1_letCome_43 : zD cX1_letCome 43 (.getfield 149) 3 46 := ⟨by decide +kernel, rfl⟩
theorem dX1_letCome_46 : zD cX1_letCome 46 (.aload_n 0) 1 47 := ⟨by decide +kernel, rfl⟩
theorem dX1_letCome_47 : zD cX1_letCome 47 (.getfield 96) 3 50 := ⟨by decide +kernel, rfl⟩
theorem dX1_letCome_50 : zD cX1_letCome 50 .iaload 1 51 := ⟨by decide +kernel, rfl⟩
theorem dX1_letCome_51 : zD cX1_letCome 51 (.invokevirtual 152) 3 54 := ⟨by decide +kernel, rfl⟩
theorem dX1_letCome_54 : zD cX1_letCome 54 (.aload_n 0) 1 55 := ⟨by decide +kernel, rfl⟩
theorem dX1_letCome_55 : zD cX1_letCome 55 .dup 1 56 := ⟨by decide +kernel, rfl⟩
theorem dX1_letCome_56 : zD cX1_letCome 56 (.getfield 96) 3 59 := ⟨by decide +kernel, rfl⟩
theorem dX1_letCome_59 : zD cX1_letCome 59 (.iconst 1) 1 60 := ⟨by decide +kernel, rfl⟩
theorem dX1_letCome_60 : zD cX1_letCome 60 .iadd 1 61 := ⟨by decide +kernel, rfl⟩
theorem dX1_letCome_61 : zD cX1_letCome 61 (.putfield 96) 3 64 := ⟨by decide +kernel, rfl⟩
theorem dX1_letCome_64 : zJ cX1_letCome 64 .goto 67 0 := ⟨-64, by decide +kernel, rfl, by decide⟩
theorem dX1_letCome_67 : zD cX1_letCome 67 .return_ 1 68 := ⟨by decide +kernel, rfl⟩
theorem dX1_join_0 : zD cX1_join 0 (.aload_n 0) 1 1 := ⟨by decide +kernel, rfl⟩
theorem dX1_join_1 : zD cX1_join 1 (.getfield 93) 3 4 := ⟨by decide +kernel, rfl⟩
theorem dX1_join_4 : zD cX1_join 4 (.bipush 10) 2 6 := ⟨by decide +kernel, rfl⟩
theorem dX1_join_6 : zJ cX1_join 6 (.if_icmp .lt) 9 10 := ⟨4, by decide +kernel, rfl, by decide⟩
theorem dX1_join_9 : zD cX1_join 9 .return_ 1 10 := ⟨by decide +kernel, rfl⟩
theorem dX1_join_10 : zD cX1_join 10 (.aload_n 0) 1 11 := ⟨by decide +kernel, rfl⟩
theorem dX1_join_11 : zD cX1_join 11 (.getfield 42) 3 14 := ⟨by decide +kernel, rfl⟩
theorem dX1_join_14 : zD cX1_join 14 (.iconst 1) 1 15 := ⟨by decide +kernel, rfl⟩
theorem dX1_join_15 : zJ cX1_join 15 (.if_icmp .ne) 18 27 := ⟨12, by decide +kernel, rfl, by decide⟩
theorem dX1_join_18 : zD cX1_join 18 (.aload_n 0) 1 19 := ⟨by decide +kernel, rfl⟩
theorem dX1_join_19 : zD cX1_join 19 (.getfield 93) 3 22 := ⟨by decide +kernel, rfl⟩
theorem dX1_join_22 : zD cX1_join 22 (.iconst 2) 1 23 := ⟨by decide +kernel, rfl⟩
theorem dX1_join_23 : zD cX1_join 23 .idiv 1 24 := ⟨by decide +kernel, rfl⟩
theorem dX1_join_24 : zJ cX1_join 24 .goto 27 31 := ⟨7, by decide +kernel, rfl, by decide⟩
theorem dX1_join_27 : zD cX1_join 27 (.aload_n 0) 1 28 := ⟨by decide +kernel, rfl⟩
theorem dX1_join_28 : zD cX1_join 28 (.getfield 93) 3 31 := ⟨by decide +kernel, rfl⟩
theorem dX1_join_31 : zD cX1_join 31 (.istore_n 2) 1 32 := ⟨by decide +kernel, rfl⟩
theorem dX1_join_32 : zD cX1_join 32 (.aload_n 0) 1 33 := ⟨by decide +kernel, rfl⟩
theorem dX1_join_33 : zD cX1_join 33 (.getfield 93) 3 36 := ⟨by decide +kernel, rfl⟩
theorem dX1_join_36 : zD cX1_join 36 (.istore_n 3) 1 37 := ⟨by decide +kernel, rfl⟩
theorem dX1_join_37 : zD cX1_join 37 (.iload_n 3) 1 38 := ⟨by decide +kernel, rfl⟩
theorem dX1_join_38 : zD cX1_join 38 (.iload_n 2) 1 39 := ⟨by decide +kernel, rfl⟩
theorem dX1_join_39 : zJ cX1_join 39 (.if_icmp .le) 42 62 := ⟨23, by decide +kernel, rfl, by decide⟩
theorem dX1_join_42 : zD cX1_join 42 (.aload_n 0) 1 43 := ⟨by decide +kernel, rfl⟩
theorem dX1_join_43 : zD cX1_join 43 (.getfield 22) 3 46 := ⟨by decide +kernel, rfl⟩
theorem dX1_join_46 : zD cX1_join 46 (.iload_n 3) 1 47 := ⟨by decide +kernel, rfl⟩
theorem dX1_join_47 : zD cX1_join 47 (.aload_n 0) 1 48 := ⟨by decide +kernel, rfl⟩
theorem dX1_join_48 : zD cX1_join 48 (.getfield 22) 3 51 := ⟨by decide +kernel, rfl⟩
theorem dX1_join_51 : zD cX1_join 51 (.iload_n 3) 1 52 := ⟨by decide +kernel, rfl⟩
theorem dX1_join_52 : zD cX1_join 52 (.iconst 1) 1 53 := ⟨by decide +kernel, rfl⟩
theorem dX1_join_53 : zD cX1_join 53 .isub 1 54 := ⟨by decide +kernel, rfl⟩
theorem dX1_join_54 : zD cX1_join 54 .iaload 1 55 := ⟨by decide +kernel, rfl⟩
theorem dX1_join_55 : zD cX1_join 55 .iastore 1 56 := ⟨by decide +kernel, rfl⟩
theorem dX1_join_56 : zD cX1_join 56 (.iinc 3 (-1)) 3 59 := ⟨by decide +kernel, rfl⟩
theorem dX1_join_59 : zJ cX1_join 59 .goto 62 37 := ⟨-22, by decide +kernel, rfl, by decide⟩
theorem dX1_join_62 : zD cX1_join 62 (.aload_n 0) 1 63 := ⟨by decide +kernel, rfl⟩
theorem dX1_join_63 : zD cX1_join 63 (.getfield 22) 3 66 := ⟨by decide +kernel, rfl⟩
theorem dX1_join_66 : zD cX1_join 66 (.iload_n 2) 1 67 := ⟨by decide +kernel, rfl⟩
theorem dX1_join_67 : zD cX1_join 67 (.iload_n 1) 1 68 := ⟨by decide +kernel, rfl⟩
theorem dX1_join_68 : zD cX1_join 68 .iastore 1 69 := ⟨by decide +kernel, rfl⟩
theorem dX1_join_69 : zD cX1_join 69 (.aload_n 0) 1 70 := ⟨by decide +kernel, rfl⟩
theorem dX1_join_70 : zD cX1_join 70 (.getfield 18) 3 73 := ⟨by decide +kernel, rfl⟩
theorem dX1_join_73 : zD cX1_join 73 (.iload_n 1) 1 74 := ⟨by decide +kernel, rfl⟩
theorem dX1_join_74 : zD cX1_join 74 (.iconst 1) 1 75 := ⟨by decide +kernel, rfl⟩
theorem dX1_join_75 : zD cX1_join 75 .bastore 1 76 := ⟨by decide +kernel, rfl⟩
theorem dX1_join_76 : zD cX1_join 76 (.aload_n 0) 1 77 := ⟨by decide +kernel, rfl⟩
theorem dX1_join_77 : zD cX1_join 77 .dup 1 78 := ⟨by decide +kernel, rfl⟩
theorem dX1_join_78 : zD cX1_join 78 (.getfield 93) 3 81 := ⟨by decide +kernel, rfl⟩
theorem dX1_join_81 : zD cX1_join 81 (.iconst 1) 1 82 := ⟨by decide +kernel, rfl⟩
theorem dX1_join_82 : zD cX1_join 82 .iadd 1 83 := ⟨by decide +kernel, rfl⟩
theorem dX1_join_83 : zD cX1_join 83 (.putfield 93) 3 86 := ⟨by decide +kernel, rfl⟩
theorem dX1_join_86 : zD cX1_join 86 .return_ 1 87 := ⟨by decide +kernel, rfl⟩
theorem dX1_serve_0 : zD cX1_serve 0 (.aload_n 0) 1 1 := ⟨by decide +kernel, rfl⟩
theorem dX1_serve_1 : zD cX1_serve 1 (.getfield 93) 3 4 := ⟨by decide +kernel, rfl⟩
theorem dX1_serve_4 : zD cX1_serve 4 (.aload_n 0) 1 5 := ⟨by decide +kernel, rfl⟩
theorem dX1_serve_5 : zD cX1_serve 5 (.getfield 34) 3 8 := ⟨by decide +kernel, rfl⟩
theorem dX1_serve_8 : zD cX1_serve 8 (.getfield 155) 3 11 := ⟨by decide +kernel, rfl⟩
theorem dX1_serve_11 : zD cX1_serve 11 (.aload_n 0) 1 12 := ⟨by decide +kernel, rfl⟩
theorem dX1_serve_12 : zD cX1_serve 12 (.getfield 87) 3 15 := ⟨by decide +kernel, rfl⟩
theorem dX1_serve_15 : zD cX1_serve 15 (.invokestatic 158) 3 18 := ⟨by decide +kernel, rfl⟩
theorem dX1_serve_18 : zD cX1_serve 18 (.invokestatic 158) 3 21 := ⟨by decide +kernel, rfl⟩
theorem dX1_serve_21 : zD cX1_serve 21 (.istore_n 2) 1 22 := ⟨by decide +kernel, rfl⟩
theorem dX1_serve_22 : zD cX1_serve 22 (.iconst 0) 1 23 := ⟨by decide +kernel, rfl⟩
theorem dX1_serve_23 : zD cX1_serve 23 (.istore_n 3) 1 24 := ⟨by decide +kernel, rfl⟩
theorem dX1_serve_24 : zD cX1_serve 24 (.iload_n 3) 1 25 := ⟨by decide +kernel, rfl⟩
theorem dX1_serve_25 : zD cX1_serve 25 (.iload_n 2) 1 26 := ⟨by decide +kernel, rfl⟩
theorem dX1_serve_26 : zJ cX1_serve 26 (.if_icmp .ge) 29 47 := ⟨21, by decide +kernel, rfl, by decide⟩
theorem dX1_serve_29 : zD cX1_serve 29 (.aload_n 0) 1 30 := ⟨by decide +kernel, rfl⟩
theorem dX1_serve_30 : zD cX1_serve 30 (.aload_n 0) 1 31 := ⟨by decide +kernel, rfl⟩
theorem dX1_serve_31 : zD cX1_serve 31 (.getfield 22) 3 34 := ⟨by decide +kernel, rfl⟩
theorem dX1_serve_34 : zD cX1_serve 34 (.iload_n 3) 1 35 := ⟨by decide +kernel, rfl⟩
theorem dX1_serve_35 : zD cX1_serve 35 .iaload 1 36 := ⟨by decide +kernel, rfl⟩
theorem dX1_serve_36 : zD cX1_serve 36 (.iconst 0) 1 37 := ⟨by decide +kernel, rfl⟩
theorem dX1_serve_37 : zD cX1_serve 37 (.iload_n 1) 1 38 := ⟨by decide +kernel, rfl⟩
theorem dX1_serve_38 : zD cX1_serve 38 (.invokevirtual 112) 3 41 := ⟨by decide +kernel, rfl⟩
theorem dX1_serve_41 : zD cX1_serve 41 (.iinc 3 1) 3 44 := ⟨by decide +kernel, rfl⟩
theorem dX1_serve_44 : zJ cX1_serve 44 .goto 47 24 := ⟨-20, by decide +kernel, rfl, by decide⟩
theorem dX1_serve_47 : zD cX1_serve 47 (.iload_n 2) 1 48 := ⟨by decide +kernel, rfl⟩
theorem dX1_serve_48 : zD cX1_serve 48 (.istore_n 3) 1 49 := ⟨by decide +kernel, rfl⟩
theorem dX1_serve_49 : zD cX1_serve 49 (.iload_n 3) 1 50 := ⟨by decide +kernel, rfl⟩
theorem dX1_serve_50 : zD cX1_serve 50 (.aload_n 0) 1 51 := ⟨by decide +kernel, rfl⟩
theorem dX1_serve_51 : zD cX1_serve 51 (.getfield 93) 3 54 := ⟨by decide +kernel, rfl⟩
theorem dX1_serve_54 : zJ cX1_serve 54 (.if_icmp .ge) 57 77 := ⟨23, by decide +kernel, rfl, by decide⟩
theorem dX1_serve_57 : zD cX1_serve 57 (.aload_n 0) 1 58 := ⟨by decide +kernel, rfl⟩
theorem dX1_serve_58 : zD cX1_serve 58 (.getfield 22) 3 61 := ⟨by decide +kernel, rfl⟩
theorem dX1_serve_61 : zD cX1_serve 61 (.iload_n 3) 1 62 := ⟨by decide +kernel, rfl⟩
theorem dX1_serve_62 : zD cX1_serve 62 (.iload_n 2) 1 63 := ⟨by decide +kernel, rfl⟩
theorem dX1_serve_63 : zD cX1_serve 63 .isub 1 64 := ⟨by decide +kernel, rfl⟩
theorem dX1_serve_64 : zD cX1_serve 64 (.aload_n 0) 1 65 := ⟨by decide +kernel, rfl⟩
theorem dX1_serve_65 : zD cX1_serve 65 (.getfield 22) 3 68 := ⟨by decide +kernel, rfl⟩
theorem dX1_serve_68 : zD cX1_serve 68 (.iload_n 3) 1 69 := ⟨by decide +kernel, rfl⟩
theorem dX1_serve_69 : zD cX1_serve 69 .iaload 1 70 := ⟨by decide +kernel, rfl⟩
theorem dX1_serve_70 : zD cX1_serve 70 .iastore 1 71 := ⟨by decide +kernel, rfl⟩
theorem dX1_serve_71 : zD cX1_serve 71 (.iinc 3 1) 3 74 := ⟨by decide +kernel, rfl⟩
theorem dX1_serve_74 : zJ cX1_serve 74 .goto 77 49 := ⟨-25, by decide +kernel, rfl, by decide⟩
theorem dX1_serve_77 : zD cX1_serve 77 (.aload_n 0) 1 78 := ⟨by decide +kernel, rfl⟩
theorem dX1_serve_78 : zD cX1_serve 78 .dup 1 79 := ⟨by decide +kernel, rfl⟩
theorem dX1_serve_79 : zD cX1_serve 79 (.getfield 87) 3 82 := ⟨by decide +kernel, rfl⟩
theorem dX1_serve_82 : zD cX1_serve 82 (.iload_n 2) 1 83 := ⟨by decide +kernel, rfl⟩
theorem dX1_serve_83 : zD cX1_serve 83 .isub 1 84 := ⟨by decide +kernel, rfl⟩
theorem dX1_serve_84 : zD cX1_serve 84 (.putfield 87) 3 87 := ⟨by decide +kernel, rfl⟩
theorem dX1_serve_87 : zD cX1_serve 87 (.aload_n 0) 1 88 := ⟨by decide +kernel, rfl⟩
theorem dX1_serve_88 : zD cX1_serve 88 .dup 1 89 := ⟨by decide +kernel, rfl⟩
theorem dX1_serve_89 : zD cX1_serve 89 (.getfield 93) 3 92 := ⟨by decide +kernel, rfl⟩
theorem dX1_serve_92 : zD cX1_serve 92 (.iload_n 2) 1 93 := ⟨by decide +kernel, rfl⟩
theorem dX1_serve_93 : zD cX1_serve 93 .isub 1 94 := ⟨by decide +kernel, rfl⟩
theorem dX1_serve_94 : zD cX1_serve 94 (.putfield 93) 3 97 := ⟨by decide +kernel, rfl⟩
theorem dX1_serve_97 : zD cX1_serve 97 .return_ 1 98 := ⟨by decide +kernel, rfl⟩
theorem dX1_sendHome_0 : zD cX1_sendHome 0 (.iconst 0) 1 1 := ⟨by decide +kernel, rfl⟩
theorem dX1_sendHome_1 : zD cX1_sendHome 1 (.istore_n 2) 1 2 := ⟨by decide +kernel, rfl⟩
theorem dX1_sendHome_2 : zD cX1_sendHome 2 (.iload_n 2) 1 3 := ⟨by decide +kernel, rfl⟩
theorem dX1_sendHome_3 : zD cX1_sendHome 3 (.aload_n 0) 1 4 := ⟨by decide +kernel, rfl⟩
theorem dX1_sendHome_4 : zD cX1_sendHome 4 (.getfield 93) 3 7 := ⟨by decide +kernel, rfl⟩
theorem dX1_sendHome_7 : zJ cX1_sendHome 7 (.if_icmp .ge) 10 28 := ⟨21, by decide +kernel, rfl, by decide⟩
theorem dX1_sendHome_10 : zD cX1_sendHome 10 (.aload_n 0) 1 11 := ⟨by decide +kernel, rfl⟩
theorem dX1_sendHome_11 : zD cX1_sendHome 11 (.aload_n 0) 1 12 := ⟨by decide +kernel, rfl⟩
theorem dX1_sendHome_12 : zD cX1_sendHome 12 (.getfield 22) 3 15 := ⟨by decide +kernel, rfl⟩
theorem dX1_sendHome_15 : zD cX1_sendHome 15 (.iload_n 2) 1 16 := ⟨by decide +kernel, rfl⟩
theorem dX1_sendHome_16 : zD cX1_sendHome 16 .iaload 1 17 := ⟨by decide +kernel, rfl⟩
theorem dX1_sendHome_17 : zD cX1_sendHome 17 (.iconst 2) 1 18 := ⟨by decide +kernel, rfl⟩
theorem dX1_sendHome_18 : zD cX1_sendHome 18 (.iload_n 1) 1 19 := ⟨by decide +kernel, rfl⟩
theorem dX1_sendHome_19 : zD cX1_sendHome 19 (.invokevirtual 112) 3 22 := ⟨by decide +kernel, rfl⟩
theorem dX1_sendHome_22 : zD cX1_sendHome 22 (.iinc 2 1) 3 25 := ⟨by decide +kernel, rfl⟩
theorem dX1_sendHome_25 : zJ cX1_sendHome 25 .goto 28 2 := ⟨-23, by decide +kernel, rfl, by decide⟩
theorem dX1_sendHome_28 : zD cX1_sendHome 28 (.aload_n 0) 1 29 := ⟨by decide +kernel, rfl⟩
theorem dX1_sendHome_29 : zD cX1_sendHome 29 (.iconst 0) 1 30 := ⟨by decide +kernel, rfl⟩
theorem dX1_sendHome_30 : zD cX1_sendHome 30 (.putfield 93) 3 33 := ⟨by decide +kernel, rfl⟩
theorem dX1_sendHome_33 : zD cX1_sendHome 33 .return_ 1 34 := ⟨by decide +kernel, rfl⟩
theorem dX1_end_0 : zD cX1_end 0 (.aload_n 0) 1 1 := ⟨by decide +kernel, rfl⟩
theorem dX1_end_1 : zD cX1_end 1 (.getfield 9) 3 4 := ⟨by decide +kernel, rfl⟩
theorem dX1_end_4 : zD cX1_end 4 (.iload_n 1) 1 5 := ⟨by decide +kernel, rfl⟩
theorem dX1_end_5 : zD cX1_end 5 (.iload_n 2) 1 6 := ⟨by decide +kernel, rfl⟩
theorem dX1_end_6 : zD cX1_end 6 .iastore 1 7 := ⟨by decide +kernel, rfl⟩
theorem dX1_end_7 : zD cX1_end 7 (.aload_n 0) 1 8 := ⟨by decide +kernel, rfl⟩
theorem dX1_end_8 : zD cX1_end 8 (.getfield 15) 3 11 := ⟨by decide +kernel, rfl⟩
theorem dX1_end_11 : zD cX1_end 11 (.iload_n 1) 1 12 := ⟨by decide +kernel, rfl⟩
theorem dX1_end_12 : zD cX1_end 12 (.iload_n 3) 1 13 := ⟨by decide +kernel, rfl⟩
theorem dX1_end_13 : zD cX1_end 13 .iastore 1 14 := ⟨by decide +kernel, rfl⟩
theorem dX1_end_14 : zD cX1_end 14 (.aload_n 0) 1 15 := ⟨by decide +kernel, rfl⟩
theorem dX1_end_15 : zD cX1_end 15 (.getfield 18) 3 18 := ⟨by decide +kernel, rfl⟩
theorem dX1_end_18 : zD cX1_end 18 (.iload_n 1) 1 19 := ⟨by decide +kernel, rfl⟩
theorem dX1_end_19 : zD cX1_end 19 (.iconst 0) 1 20 := ⟨by decide +kernel, rfl⟩
theorem dX1_end_20 : zD cX1_end 20 .bastore 1 21 := ⟨by decide +kernel, rfl⟩
theorem dX1_end_21 : zD cX1_end 21 (.aload_n 0) 1 22 := ⟨by decide +kernel, rfl⟩
theorem dX1_end_22 : zD cX1_end 22 .dup 1 23 := ⟨by decide +kernel, rfl⟩
theorem dX1_end_23 : zD cX1_end 23 (.getfield 56) 3 26 := ⟨by decide +kernel, rfl⟩
theorem dX1_end_26 : zD cX1_end 26 (.iconst 1) 1 27 := ⟨by decide +kernel, rfl⟩
theorem dX1_end_27 : zD cX1_end 27 .iadd 1 28 := ⟨by decide +kernel, rfl⟩
theorem dX1_end_28 : zD cX1_end 28 (.putfield 56) 3 31 := ⟨by decide +kernel, rfl⟩
theorem dX1_end_31 : zD cX1_end 31 .return_ 1 32 := ⟨by decide +kernel, rfl⟩
theorem dX1_placeOf_0 : zD cX1_placeOf 0 (.iconst 0) 1 1 := ⟨by decide +kernel, rfl⟩
theorem dX1_placeOf_1 : zD cX1_placeOf 1 (.istore_n 2) 1 2 := ⟨by decide +kernel, rfl⟩
theorem dX1_placeOf_2 : zD cX1_placeOf 2 (.iload_n 2) 1 3 := ⟨by decide +kernel, rfl⟩
theorem dX1_placeOf_3 : zD cX1_placeOf 3 (.aload_n 0) 1 4 := ⟨by decide +kernel, rfl⟩
theorem dX1_placeOf_4 : zD cX1_placeOf 4 (.getfield 93) 3 7 := ⟨by decide +kernel, rfl⟩
theorem dX1_placeOf_7 : zJ cX1_placeOf 7 (.if_icmp .ge) 10 28 := ⟨21, by decide +kernel, rfl, by decide⟩
theorem dX1_placeOf_10 : zD cX1_placeOf 10 (.aload_n 0) 1 11 := ⟨by decide +kernel, rfl⟩
theorem dX1_placeOf_11 : zD cX1_placeOf 11 (.getfield 22) 3 14 := ⟨by decide +kernel, rfl⟩
theorem dX1_placeOf_14 : zD cX1_placeOf 14 (.iload_n 2) 1 15 := ⟨by decide +kernel, rfl⟩
theorem dX1_placeOf_15 : zD cX1_placeOf 15 .iaload 1 16 := ⟨by decide +kernel, rfl⟩
theorem dX1_placeOf_16 : zD cX1_placeOf 16 (.iload_n 1) 1 17 := ⟨by decide +kernel, rfl⟩
theorem dX1_placeOf_17 : zJ cX1_placeOf 17 (.if_icmp .ne) 20 22 := ⟨5, by decide +kernel, rfl, by decide⟩
theorem dX1_placeOf_20 : zD cX1_placeOf 20 (.iload_n 2) 1 21 := ⟨by decide +kernel, rfl⟩
theorem dX1_placeOf_21 : zD cX1_placeOf 21 .ireturn 1 22 := ⟨by decide +kernel, rfl⟩
theorem dX1_placeOf_22 : zD cX1_placeOf 22 (.iinc 2 1) 3 25 := ⟨by decide +kernel, rfl⟩
theorem dX1_placeOf_25 : zJ cX1_placeOf 25 .goto 28 2 := ⟨-23, by decide +kernel, rfl, by decide⟩
theorem dX1_placeOf_28 : zD cX1_placeOf 28 (.bipush (-4)) 2 30 := ⟨by decide +kernel, rfl⟩
theorem dX1_placeOf_30 : zD cX1_placeOf 30 .ireturn 1 31 := ⟨by decide +kernel, rfl⟩
theorem dX1_manyOf_0 : zD cX1_manyOf 0 (.iconst 0) 1 1 := ⟨by decide +kernel, rfl⟩
theorem dX1_manyOf_1 : zD cX1_manyOf 1 (.istore_n 2) 1 2 := ⟨by decide +kernel, rfl⟩
theorem dX1_manyOf_2 : zD cX1_manyOf 2 (.iconst 0) 1 3 := ⟨by decide +kernel, rfl⟩
theorem dX1_manyOf_3 : zD cX1_manyOf 3 (.istore_n 3) 1 4 := ⟨by decide +kernel, rfl⟩
theorem dX1_manyOf_4 : zD cX1_manyOf 4 (.iload_n 3) 1 5 := ⟨by decide +kernel, rfl⟩
theorem dX1_manyOf_5 : zD cX1_manyOf 5 (.aload_n 0) 1 6 := ⟨by decide +kernel, rfl⟩
theorem dX1_manyOf_6 : zD cX1_manyOf 6 (.getfield 34) 3 9 := ⟨by decide +kernel, rfl⟩
theorem dX1_manyOf_9 : zD cX1_manyOf 9 (.getfield 59) 3 12 := ⟨by decide +kernel, rfl⟩
theorem dX1_manyOf_12 : zJ cX1_manyOf 12 (.if_icmp .ge) 15 34 := ⟨22, by decide +kernel, rfl, by decide⟩
theorem dX1_manyOf_15 : zD cX1_manyOf 15 (.aload_n 0) 1 16 := ⟨by decide +kernel, rfl⟩
theorem dX1_manyOf_16 : zD cX1_manyOf 16 (.getfield 9) 3 19 := ⟨by decide +kernel, rfl⟩
theorem dX1_manyOf_19 : zD cX1_manyOf 19 (.iload_n 3) 1 20 := ⟨by decide +kernel, rfl⟩
theorem dX1_manyOf_20 : zD cX1_manyOf 20 .iaload 1 21 := ⟨by decide +kernel, rfl⟩
theorem dX1_manyOf_21 : zD cX1_manyOf 21 (.iload_n 1) 1 22 := ⟨by decide +kernel, rfl⟩
theorem dX1_manyOf_22 : zJ cX1_manyOf 22 (.if_icmp .ne) 25 28 := ⟨6, by decide +kernel, rfl, by decide⟩
theorem dX1_manyOf_25 : zD cX1_manyOf 25 (.iinc 2 1) 3 28 := ⟨by decide +kernel, rfl⟩
theorem dX1_manyOf_28 : zD cX1_manyOf 28 (.iinc 3 1) 3 31 := ⟨by decide +kernel, rfl⟩
theorem dX1_manyOf_31 : zJ cX1_manyOf 31 .goto 34 4 := ⟨-27, by decide +kernel, rfl, by decide⟩
theorem dX1_manyOf_34 : zD cX1_manyOf 34 (.iload_n 2) 1 35 := ⟨by decide +kernel, rfl⟩
theorem dX1_manyOf_35 : zD cX1_manyOf 35 .ireturn 1 36 := ⟨by decide +kernel, rfl⟩
theorem dX1_timeOf_0 : zD cX1_timeOf 0 (.aload_n 0) 1 1 := ⟨by decide +kernel, rfl⟩
theorem dX1_timeOf_1 : zD cX1_timeOf 1 (.getfield 9) 3 4 := ⟨by decide +kernel, rfl⟩
theorem dX1_timeOf_4 : zD cX1_timeOf 4 (.iload_n 1) 1 5 := ⟨by decide +kernel, rfl⟩
theorem dX1_timeOf_5 : zD cX1_timeOf 5 .iaload 1 6 := ⟨by decide +kernel, rfl⟩
theorem dX1_timeOf_6 : zJ cX1_timeOf 6 (.ifCond .ne) 9 18 := ⟨12, by decide +kernel, rfl, by decide⟩
theorem dX1_timeOf_9 : zD cX1_timeOf 9 (.aload_n 0) 1 10 := ⟨by decide +kernel, rfl⟩
theorem dX1_timeOf_10 : zD cX1_timeOf 10 (.getfield 15) 3 13 := ⟨by decide +kernel, rfl⟩
theorem dX1_timeOf_13 : zD cX1_timeOf 13 (.iload_n 1) 1 14 := ⟨by decide +kernel, rfl⟩
theorem dX1_timeOf_14 : zD cX1_timeOf 14 .iaload 1 15 := ⟨by decide +kernel, rfl⟩
theorem dX1_timeOf_15 : zJ cX1_timeOf 15 .goto 18 21 := ⟨6, by decide +kernel, rfl, by decide⟩
theorem dX1_timeOf_18 : zD cX1_timeOf 18 (.sipush 200) 3 21 := ⟨by decide +kernel, rfl⟩
theorem dX1_timeOf_21 : zD cX1_timeOf 21 .ireturn 1 22 := ⟨by decide +kernel, rfl⟩
theorem dX1_unfair_0 : zD cX1_unfair 0 (.iconst 0) 1 1 := ⟨by decide +kernel, rfl⟩
theorem dX1_unfair_1 : zD cX1_unfair 1 (.istore_n 1) 1 2 := ⟨by decide +kernel, rfl⟩
theorem dX1_unfair_2 : zD cX1_unfair 2 (.iconst 0) 1 3 := ⟨by decide +kernel, rfl⟩
theorem dX1_unfair_3 : zD cX1_unfair 3 (.istore_n 2) 1 4 := ⟨by decide +kernel, rfl⟩
theorem dX1_unfair_4 : zD cX1_unfair 4 (.iload_n 2) 1 5 := ⟨by decide +kernel, rfl⟩
theorem dX1_unfair_5 : zD cX1_unfair 5 (.aload_n 0) 1 6 := ⟨by decide +kernel, rfl⟩
theorem dX1_unfair_6 : zD cX1_unfair 6 (.getfield 34) 3 9 := ⟨by decide +kernel, rfl⟩
theorem dX1_unfair_9 : zD cX1_unfair 9 (.getfield 59) 3 12 := ⟨by decide +kernel, rfl⟩
theorem dX1_unfair_12 : zJ cX1_unfair 12 (.if_icmp .ge) 15 96 := ⟨84, by decide +kernel, rfl, by decide⟩
theorem dX1_unfair_15 : zD cX1_unfair 15 (.aload_n 0) 1 16 := ⟨by decide +kernel, rfl⟩
theorem dX1_unfair_16 : zD cX1_unfair 16 (.getfield 34) 3 19 := ⟨by decide +kernel, rfl⟩
theorem dX1_unfair_19 : zD cX1_unfair 19 (.getfield 149) 3 22 := ⟨by decide +kernel, rfl⟩
theorem dX1_unfair_22 : zD cX1_unfair 22 (.iload_n 2) 1 23 := ⟨by decide +kernel, rfl⟩
theorem dX1_unfair_23 : zD cX1_unfair 23 .iaload 1 24 := ⟨by decide +kernel, rfl⟩
theorem dX1_unfair_24 : zD cX1_unfair 24 (.istore_n 3) 1 25 := ⟨by decide +kernel, rfl⟩
theorem dX1_unfair_25 : zD cX1_unfair 25 (.iconst 0) 1 26 := ⟨by decide +kernel, rfl⟩
theorem dX1_unfair_26 : zD cX1_unfair 26 (.istore 4) 2 28 := ⟨by decide +kernel, rfl⟩
theorem dX1_unfair_28 : zD cX1_unfair 28 (.iload 4) 2 30 := ⟨by decide +kernel, rfl⟩
theorem dX1_unfair_30 : zD cX1_unfair 30 (.iload_n 2) 1 31 := ⟨by decide +kernel, rfl⟩
theorem dX1_unfair_31 : zJ cX1_unfair 31 (.if_icmp .ge) 34 90 := ⟨59, by decide +kernel, rfl, by decide⟩
theorem dX1_unfair_34 : zD cX1_unfair 34 (.aload_n 0) 1 35 := ⟨by decide +kernel, rfl⟩
theorem dX1_unfair_35 : zD cX1_unfair 35 (.getfield 34) 3 38 := ⟨by decide +kernel, rfl⟩
theorem dX1_unfair_38 : zD cX1_unfair 38 (.getfield 149) 3 41 := ⟨by decide +kernel, rfl⟩
theorem dX1_unfair_41 : zD cX1_unfair 41 (.iload 4) 2 43 := ⟨by decide +kernel, rfl⟩
theorem dX1_unfair_43 : zD cX1_unfair 43 .iaload 1 44 := ⟨by decide +kernel, rfl⟩
theorem dX1_unfair_44 : zD cX1_unfair 44 (.istore 5) 2 46 := ⟨by decide +kernel, rfl⟩
theorem dX1_unfair_46 : zD cX1_unfair 46 (.aload_n 0) 1 47 := ⟨by decide +kernel, rfl⟩
theorem dX1_unfair_47 : zD cX1_unfair 47 (.getfield 9) 3 50 := ⟨by decide +kernel, rfl⟩
theorem dX1_unfair_50 : zD cX1_unfair 50 (.iload_n 3) 1 51 := ⟨by decide +kernel, rfl⟩
theorem dX1_unfair_51 : zD cX1_unfair 51 .iaload 1 52 := ⟨by decide +kernel, rfl⟩
theorem dX1_unfair_52 : zJ cX1_unfair 52 (.ifCond .ne) 55 84 := ⟨32, by decide +kernel, rfl, by decide⟩
theorem dX1_unfair_55 : zD cX1_unfair 55 (.aload_n 0) 1 56 := ⟨by decide +kernel, rfl⟩
theorem dX1_unfair_56 : zD cX1_unfair 56 (.getfield 9) 3 59 := ⟨by decide +kernel, rfl⟩
theorem dX1_unfair_59 : zD cX1_unfair 59 (.iload 5) 2 61 := ⟨by decide +kernel, rfl⟩
theorem dX1_unfair_61 : zD cX1_unfair 61 .iaload 1 62 := ⟨by decide +kernel, rfl⟩
theorem dX1_unfair_62 : zJ cX1_unfair 62 (.ifCond .ne) 65 84 := ⟨22, by decide +kernel, rfl, by decide⟩
theorem dX1_unfair_65 : zD cX1_unfair 65 (.aload_n 0) 1 66 := ⟨by decide +kernel, rfl⟩
theorem dX1_unfair_66 : zD cX1_unfair 66 (.getfield 15) 3 69 := ⟨by decide +kernel, rfl⟩
theorem dX1_unfair_69 : zD cX1_unfair 69 (.iload_n 3) 1 70 := ⟨by decide +kernel, rfl⟩
theorem dX1_unfair_70 : zD cX1_unfair 70 .iaload 1 71 := ⟨by decide +kernel, rfl⟩
theorem dX1_unfair_71 : zD cX1_unfair 71 (.aload_n 0) 1 72 := ⟨by decide +kernel, rfl⟩
theorem dX1_unfair_72 : zD cX1_unfair 72 (.getfield 15) 3 75 := ⟨by decide +kernel, rfl⟩
theorem dX1_unfair_75 : zD cX1_unfair 75 (.iload 5) 2 77 := ⟨by decide +kernel, rfl⟩
theorem dX1_unfair_77 : zD cX1_unfair 77 .iaload 1 78 := ⟨by decide +kernel, rfl⟩
theorem dX1_unfair_78 : zJ cX1_unfair 78 (.if_icmp .ge) 81 84 := ⟨6, by decide +kernel, rfl, by decide⟩
theorem dX1_unfair_81 : zD cX1_unfair 81 (.iinc 1 1) 3 84 := ⟨by decide +kernel, rfl⟩
theorem dX1_unfair_84 : zD cX1_unfair 84 (.iinc 4 1) 3 87 := ⟨by decide +kernel, rfl⟩
theorem dX1_unfair_87 : zJ cX1_unfair 87 .goto 90 28 := ⟨-59, by decide +kernel, rfl, by decide⟩
theorem dX1_unfair_90 : zD cX1_unfair 90 (.iinc 2 1) 3 93 := ⟨by decide +kernel, rfl⟩
theorem dX1_unfair_93 : zJ cX1_unfair 93 .goto 96 4 := ⟨-89, by decide +kernel, rfl, by decide⟩
theorem dX1_unfair_96 : zD cX1_unfair 96 (.iload_n 1) 1 97 := ⟨by decide +kernel, rfl⟩
theorem dX1_unfair_97 : zD cX1_unfair 97 .ireturn 1 98 := ⟨by decide +kernel, rfl⟩
theorem dX2_init_0 : zD cX2_init 0 (.aload_n 0) 1 1 := ⟨by decide +kernel, rfl⟩
theorem dX2_init_1 : zD cX2_init 1 (.invokespecial 3) 3 4 := ⟨by decide +kernel, rfl⟩
theorem dX2_init_4 : zD cX2_init 4 (.aload_n 0) 1 5 := ⟨by decide +kernel, rfl⟩
theorem dX2_init_5 : zD cX2_init 5 (.bipush 9) 2 7 := ⟨by decide +kernel, rfl⟩
theorem dX2_init_7 : zD cX2_init 7 (.newarray .int) 2 9 := ⟨by decide +kernel, rfl⟩
theorem dX2_init_9 : zD cX2_init 9 (.putfield 9) 3 12 := ⟨by decide +kernel, rfl⟩
theorem dX2_init_12 : zD cX2_init 12 (.aload_n 0) 1 13 := ⟨by decide +kernel, rfl⟩
theorem dX2_init_13 : zD cX2_init 13 (.bipush 9) 2 15 := ⟨by decide +kernel, rfl⟩
theorem dX2_init_15 : zD cX2_init 15 (.newarray .int) 2 17 := ⟨by decide +kernel, rfl⟩
theorem dX2_init_17 : zD cX2_init 17 (.putfield 15) 3 20 := ⟨by decide +kernel, rfl⟩
theorem dX2_init_20 : zD cX2_init 20 (.aload_n 0) 1 21 := ⟨by decide +kernel, rfl⟩
theorem dX2_init_21 : zD cX2_init 21 (.iconst 0) 1 22 := ⟨by decide +kernel, rfl⟩
theorem dX2_init_22 : zD cX2_init 22 (.putfield 18) 3 25 := ⟨by decide +kernel, rfl⟩
theorem dX2_init_25 : zD cX2_init 25 (.aload_n 0) 1 26 := ⟨by decide +kernel, rfl⟩
theorem dX2_init_26 : zD cX2_init 26 (.iconst 0) 1 27 := ⟨by decide +kernel, rfl⟩
theorem dX2_init_27 : zD cX2_init 27 (.putfield 22) 3 30 := ⟨by decide +kernel, rfl⟩
theorem dX2_init_30 : zD cX2_init 30 .return_ 1 31 := ⟨by decide +kernel, rfl⟩
theorem dX2_manyIn_0 : zD cX2_manyIn 0 (.iload_n 1) 1 1 := ⟨by decide +kernel, rfl⟩
theorem dX2_manyIn_1 : zJ cX2_manyIn 1 (.ifCond .ne) 4 11 := ⟨10, by decide +kernel, rfl, by decide⟩
theorem dX2_manyIn_4 : zD cX2_manyIn 4 (.aload_n 0) 1 5 := ⟨by decide +kernel, rfl⟩
theorem dX2_manyIn_5 : zD cX2_manyIn 5 (.getfield 18) 3 8 := ⟨by decide +kernel, rfl⟩
theorem dX2_manyIn_8 : zJ cX2_manyIn 8 .goto 11 15 := ⟨7, by decide +kernel, rfl, by decide⟩
theorem dX2_manyIn_11 : zD cX2_manyIn 11 (.aload_n 0) 1 12 := ⟨by decide +kernel, rfl⟩
theorem dX2_manyIn_12 : zD cX2_manyIn 12 (.getfield 22) 3 15 := ⟨by decide +kernel, rfl⟩
theorem dX2_manyIn_15 : zD cX2_manyIn 15 .ireturn 1 16 := ⟨by decide +kernel, rfl⟩
theorem dX2_isIn_0 : zD cX2_isIn 0 (.iconst 0) 1 1 := ⟨by decide +kernel, rfl⟩
theorem dX2_isIn_1 : zD cX2_isIn 1 (.istore_n 3) 1 2 := ⟨by decide +kernel, rfl⟩
theorem dX2_isIn_2 : zD cX2_isIn 2 (.iload_n 3) 1 3 := ⟨by decide +kernel, rfl⟩
theorem dX2_isIn_3 : zD cX2_isIn 3 (.aload_n 0) 1 4 := ⟨by decide +kernel, rfl⟩
theorem dX2_isIn_4 : zD cX2_isIn 4 (.iload_n 1) 1 5 := ⟨by decide +kernel, rfl⟩
theorem dX2_isIn_5 : zD cX2_isIn 5 (.invokevirtual 25) 3 8 := ⟨by decide +kernel, rfl⟩
theorem dX2_isIn_8 : zJ cX2_isIn 8 (.if_icmp .ge) 11 42 := ⟨34, by decide +kernel, rfl, by decide⟩
theorem dX2_isIn_11 : zD cX2_isIn 11 (.iload_n 1) 1 12 := ⟨by decide +kernel, rfl⟩
theorem dX2_isIn_12 : zJ cX2_isIn 12 (.ifCond .ne) 15 24 := ⟨12, by decide +kernel, rfl, by decide⟩
theorem dX2_isIn_15 : zD cX2_isIn 15 (.aload_n 0) 1 16 := ⟨by decide +kernel, rfl⟩
theorem dX2_isIn_16 : zD cX2_isIn 16 (.getfield 9) 3 19 := ⟨by decide +kernel, rfl⟩
theorem dX2_isIn_19 : zD cX2_isIn 19 (.iload_n 3) 1 20 := ⟨by decide +kernel, rfl⟩
theorem dX2_isIn_20 : zD cX2_isIn 20 .iaload 1 21 := ⟨by decide +kernel, rfl⟩
theorem dX2_isIn_21 : zJ cX2_isIn 21 .goto 24 30 := ⟨9, by decide +kernel, rfl, by decide⟩
theorem dX2_isIn_24 : zD cX2_isIn 24 (.aload_n 0) 1 25 := ⟨by decide +kernel, rfl⟩
theorem dX2_isIn_25 : zD cX2_isIn 25 (.getfield 15) 3 28 := ⟨by decide +kernel, rfl⟩
theorem dX2_isIn_28 : zD cX2_isIn 28 (.iload_n 3) 1 29 := ⟨by decide +kernel, rfl⟩
theorem dX2_isIn_29 : zD cX2_isIn 29 .iaload 1 30 := ⟨by decide +kernel, rfl⟩
theorem dX2_isIn_30 : zD cX2_isIn 30 (.iload_n 2) 1 31 := ⟨by decide +kernel, rfl⟩
theorem dX2_isIn_31 : zJ cX2_isIn 31 (.if_icmp .ne) 34 36 := ⟨5, by decide +kernel, rfl, by decide⟩
theorem dX2_isIn_34 : zD cX2_isIn 34 (.iconst 1) 1 35 := ⟨by decide +kernel, rfl⟩
theorem dX2_isIn_35 : zD cX2_isIn 35 .ireturn 1 36 := ⟨by decide +kernel, rfl⟩
theorem dX2_isIn_36 : zD cX2_isIn 36 (.iinc 3 1) 3 39 := ⟨by decide +kernel, rfl⟩
theorem dX2_isIn_39 : zJ cX2_isIn 39 .goto 42 2 := ⟨-37, by decide +kernel, rfl, by decide⟩
theorem dX2_isIn_42 : zD cX2_isIn 42 (.iconst 0) 1 43 := ⟨by decide +kernel, rfl⟩
theorem dX2_isIn_43 : zD cX2_isIn 43 .ireturn 1 44 := ⟨by decide +kernel, rfl⟩
theorem dX2_add_0 : zD cX2_add 0 (.iload_n 1) 1 1 := ⟨by decide +kernel, rfl⟩
theorem dX2_add_1 : zJ cX2_add 1 (.ifCond .ne) 4 33 := ⟨32, by decide +kernel, rfl, by decide⟩
theorem dX2_add_4 : zD cX2_add 4 (.aload_n 0) 1 5 := ⟨by decide +kernel, rfl⟩
theorem dX2_add_5 : zD cX2_add 5 (.getfield 18) 3 8 := ⟨by decide +kernel, rfl⟩
theorem dX2_add_8 : zD cX2_add 8 (.bipush 9) 2 10 := ⟨by decide +kernel, rfl⟩
theorem dX2_add_10 : zJ cX2_add 10 (.if_icmp .ge) 13 33 := ⟨23, by decide +kernel, rfl, by decide⟩
theorem dX2_add_13 : zD cX2_add 13 (.aload_n 0) 1 14 := ⟨by decide +kernel, rfl⟩
theorem dX2_add_14 : zD cX2_add 14 (.getfield 9) 3 17 := ⟨by decide +kernel, rfl⟩
theorem dX2_add_17 : zD cX2_add 17 (.aload_n 0) 1 18 := ⟨by decide +kernel, rfl⟩
theorem dX2_add_18 : zD cX2_add 18 (.getfield 18) 3 21 := ⟨by decide +kernel, rfl⟩
theorem dX2_add_21 : zD cX2_add 21 (.iload_n 2) 1 22 := ⟨by decide +kernel, rfl⟩
theorem dX2_add_22 : zD cX2_add 22 .iastore 1 23 := ⟨by decide +kernel, rfl⟩
theorem dX2_add_23 : zD cX2_add 23 (.aload_n 0) 1 24 := ⟨by decide +kernel, rfl⟩
theorem dX2_add_24 : zD cX2_add 24 .dup 1 25 := ⟨by decide +kernel, rfl⟩
theorem dX2_add_25 : zD cX2_add 25 (.getfield 18) 3 28 := ⟨by decide +kernel, rfl⟩
theorem dX2_add_28 : zD cX2_add 28 (.iconst 1) 1 29 := ⟨by decide +kernel, rfl⟩
theorem dX2_add_29 : zD cX2_add 29 .iadd 1 30 := ⟨by decide +kernel, rfl⟩
theorem dX2_add_30 : zD cX2_add 30 (.putfield 18) 3 33 := ⟨by decide +kernel, rfl⟩
theorem dX2_add_33 : zD cX2_add 33 (.iload_n 1) 1 34 := ⟨by decide +kernel, rfl⟩
theorem dX2_add_34 : zD cX2_add 34 (.iconst 1) 1 35 := ⟨by decide +kernel, rfl⟩
theorem dX2_add_35 : zJ cX2_add 35 (.if_icmp .ne) 38 67 := ⟨32, by decide +kernel, rfl, by decide⟩
theorem dX2_add_38 : zD cX2_add 38 (.aload_n 0) 1 39 := ⟨by decide +kernel, rfl⟩
theorem dX2_add_39 : zD cX2_add 39 (.getfield 22) 3 42 := ⟨by decide +kernel, rfl⟩
theorem dX2_add_42 : zD cX2_add 42 (.bipush 9) 2 44 := ⟨by decide +kernel, rfl⟩
theorem dX2_add_44 : zJ cX2_add 44 (.if_icmp .ge) 47 67 := ⟨23, by decide +kernel, rfl, by decide⟩
theorem dX2_add_47 : zD cX2_add 47 (.aload_n 0) 1 48 := ⟨by decide +kernel, rfl⟩
theorem dX2_add_48 : zD cX2_add 48 (.getfield 15) 3 51 := ⟨by decide +kernel, rfl⟩
theorem dX2_add_51 : zD cX2_add 51 (.aload_n 0) 1 52 := ⟨by decide +kernel, rfl⟩
theorem dX2_add_52 : zD cX2_add 52 (.getfield 22) 3 55 := ⟨by decide +kernel, rfl⟩
theorem dX2_add_55 : zD cX2_add 55 (.iload_n 2) 1 56 := ⟨by decide +kernel, rfl⟩
theorem dX2_add_56 : zD cX2_add 56 .iastore 1 57 := ⟨by decide +kernel, rfl⟩
theorem dX2_add_57 : zD cX2_add 57 (.aload_n 0) 1 58 := ⟨by decide +kernel, rfl⟩
theorem dX2_add_58 : zD cX2_add 58 .dup 1 59 := ⟨by decide +kernel, rfl⟩
theorem dX2_add_59 : zD cX2_add 59 (.getfield 22) 3 62 := ⟨by decide +kernel, rfl⟩
theorem dX2_add_62 : zD cX2_add 62 (.iconst 1) 1 63 := ⟨by decide +kernel, rfl⟩
theorem dX2_add_63 : zD cX2_add 63 .iadd 1 64 := ⟨by decide +kernel, rfl⟩
theorem dX2_add_64 : zD cX2_add 64 (.putfield 22) 3 67 := ⟨by decide +kernel, rfl⟩
theorem dX2_add_67 : zD cX2_add 67 .return_ 1 68 := ⟨by decide +kernel, rfl⟩
theorem dX2_forget_0 : zD cX2_forget 0 (.aload_n 0) 1 1 := ⟨by decide +kernel, rfl⟩
theorem dX2_forget_1 : zD cX2_forget 1 (.iconst 0) 1 2 := ⟨by decide +kernel, rfl⟩
theorem dX2_forget_2 : zD cX2_forget 2 (.putfield 18) 3 5 := ⟨by decide +kernel, rfl⟩
theorem dX2_forget_5 : zD cX2_forget 5 (.aload_n 0) 1 6 := ⟨by decide +kernel, rfl⟩
theorem dX2_forget_6 : zD cX2_forget 6 (.iconst 0) 1 7 := ⟨by decide +kernel, rfl⟩
theorem dX2_forget_7 : zD cX2_forget 7 (.putfield 22) 3 10 := ⟨by decide +kernel, rfl⟩
theorem dX2_forget_10 : zD cX2_forget 10 .return_ 1 11 := ⟨by decide +kernel, rfl⟩
theorem dX2_findTurns_0 : zD cX2_findTurns 0 (.aload_n 0) 1 1 := ⟨by decide +kernel, rfl⟩
theorem dX2_findTurns_1 : zD cX2_findTurns 1 (.iconst 0) 1 2 := ⟨by decide +kernel, rfl⟩
theorem dX2_findTurns_2 : zD cX2_findTurns 2 (.putfield 29) 3 5 := ⟨by decide +kernel, rfl⟩
theorem dX2_findTurns_5 : zD cX2_findTurns 5 (.aload_n 0) 1 6 := ⟨by decide +kernel, rfl⟩
theorem dX2_findTurns_6 : zD cX2_findTurns 6 (.bipush (-4)) 2 8 := ⟨by decide +kernel, rfl⟩
theorem dX2_findTurns_8 : zD cX2_findTurns 8 (.putfield 32) 3 11 := ⟨by decide +kernel, rfl⟩
theorem dX2_findTurns_11 : zD cX2_findTurns 11 (.iconst 1) 1 12 := ⟨by decide +kernel, rfl⟩
theorem dX2_findTurns_12 : zD cX2_findTurns 12 (.aload_n 0) 1 13 := ⟨by decide +kernel, rfl⟩
theorem dX2_findTurns_13 : zD cX2_findTurns 13 (.getfield 22) 3 16 := ⟨by decide +kernel, rfl⟩
theorem dX2_findTurns_16 : zD cX2_findTurns 16 .ishl 1 17 := ⟨by decide +kernel, rfl⟩
theorem dX2_findTurns_17 : zD cX2_findTurns 17 (.istore_n 1) 1 18 := ⟨by decide +kernel, rfl⟩
theorem dX2_findTurns_18 : zD cX2_findTurns 18 (.iconst 0) 1 19 := ⟨by decide +kernel, rfl⟩
theorem dX2_findTurns_19 : zD cX2_findTurns 19 (.istore_n 2) 1 20 := ⟨by decide +kernel, rfl⟩
theorem dX2_findTurns_20 : zD cX2_findTurns 20 (.iload_n 2) 1 21 := ⟨by decide +kernel, rfl⟩
theorem dX2_findTurns_21 : zD cX2_findTurns 21 (.iload_n 1) 1 22 := ⟨by decide +kernel, rfl⟩
theorem dX2_findTurns_22 : zJ cX2_findTurns 22 (.if_icmp .ge) 25 61 := ⟨39, by decide +kernel, rfl, by decide⟩
theorem dX2_findTurns_25 : zD cX2_findTurns 25 (.aload_n 0) 1 26 := ⟨by decide +kernel, rfl⟩
theorem dX2_findTurns_26 : zD cX2_findTurns 26 (.iload_n 2) 1 27 := ⟨by decide +kernel, rfl⟩
theorem dX2_findTurns_27 : zD cX2_findTurns 27 (.invokevirtual 35) 3 30 := ⟨by decide +kernel, rfl⟩
theorem dX2_findTurns_30 : zJ cX2_findTurns 30 (.ifCond .eq) 33 55 := ⟨25, by decide +kernel, rfl, by decide⟩
theorem dX2_findTurns_33 : zD cX2_findTurns 33 (.aload_n 0) 1 34 := ⟨by decide +kernel, rfl⟩
theorem dX2_findTurns_34 : zD cX2_findTurns 34 (.getfield 29) 3 37 := ⟨by decide +kernel, rfl⟩
theorem dX2_findTurns_37 : zJ cX2_findTurns 37 (.ifCond .ne) 40 45 := ⟨8, by decide +kernel, rfl, by decide⟩
theorem dX2_findTurns_40 : zD cX2_findTurns 40 (.aload_n 0) 1 41 := ⟨by decide +kernel, rfl⟩
theorem dX2_findTurns_41 : zD cX2_findTurns 41 (.iload_n 2) 1 42 := ⟨by decide +kernel, rfl⟩
theorem dX2_findTurns_42 : zD cX2_findTurns 42 (.putfield 32) 3 45 := ⟨by decide +kernel, rfl⟩
theorem dX2_findTurns_45 : zD cX2_findTurns 45 (.aload_n 0) 1 46 := ⟨by decide +kernel, rfl⟩
theorem dX2_findTurns_46 : zD cX2_findTurns 46 .dup 1 47 := ⟨by decide +kernel, rfl⟩
theorem dX2_findTurns_47 : zD cX2_findTurns 47 (.getfield 29) 3 50 := ⟨by decide +kernel, rfl⟩
theorem dX2_findTurns_50 : zD cX2_findTurns 50 (.iconst 1) 1 51 := ⟨by decide +kernel, rfl⟩
theorem dX2_findTurns_51 : zD cX2_findTurns 51 .iadd 1 52 := ⟨by decide +kernel, rfl⟩
theorem dX2_findTurns_52 : zD cX2_findTurns 52 (.putfield 29) 3 55 := ⟨by decide +kernel, rfl⟩
theorem dX2_findTurns_55 : zD cX2_findTurns 55 (.iinc 2 1) 3 58 := ⟨by decide +kernel, rfl⟩
theorem dX2_findTurns_58 : zJ cX2_findTurns 58 .goto 61 20 := ⟨-38, by decide +kernel, rfl, by decide⟩
theorem dX2_findTurns_61 : zD cX2_findTurns 61 .return_ 1 62 := ⟨by decide +kernel, rfl⟩
theorem dX2_isFitting_0 : zD cX2_isFitting 0 (.iconst 0) 1 1 := ⟨by decide +kernel, rfl⟩
theorem dX2_isFitting_1 : zD cX2_isFitting 1 (.istore_n 2) 1 2 := ⟨by decide +kernel, rfl⟩
theorem dX2_isFitting_2 : zD cX2_isFitting 2 (.aload_n 0) 1 3 := ⟨by decide +kernel, rfl⟩
theorem dX2_isFitting_3 : zD cX2_isFitting 3 (.getfield 22) 3 6 := ⟨by decide +kernel, rfl⟩
theorem dX2_isFitting_6 : zD cX2_isFitting 6 (.iconst 1) 1 7 := ⟨by decide +kernel, rfl⟩
theorem dX2_isFitting_7 : zD cX2_isFitting 7 .isub 1 8 := ⟨by decide +kernel, rfl⟩
theorem dX2_isFitting_8 : zD cX2_isFitting 8 (.istore_n 3) 1 9 := ⟨by decide +kernel, rfl⟩
theorem dX2_isFitting_9 : zD cX2_isFitting 9 (.iconst 0) 1 10 := ⟨by decide +kernel, rfl⟩
theorem dX2_isFitting_10 : zD cX2_isFitting 10 (.istore 4) 2 12 := ⟨by decide +kernel, rfl⟩
theorem dX2_isFitting_12 : zD cX2_isFitting 12 (.iconst 0) 1 13 := ⟨by decide +kernel, rfl⟩
theorem dX2_isFitting_13 : zD cX2_isFitting 13 (.istore 5) 2 15 := ⟨by decide +kernel, rfl⟩
theorem dX2_isFitting_15 : zD cX2_isFitting 15 (.iload 5) 2 17 := ⟨by decide +kernel, rfl⟩
theorem dX2_isFitting_17 : zD cX2_isFitting 17 (.aload_n 0) 1 18 := ⟨by decide +kernel, rfl⟩
theorem dX2_isFitting_18 : zD cX2_isFitting 18 (.getfield 18) 3 21 := ⟨by decide +kernel, rfl⟩
theorem dX2_isFitting_21 : zJ cX2_isFitting 21 (.if_icmp .ge) 24 119 := ⟨98, by decide +kernel, rfl, by decide⟩
theorem dX2_isFitting_24 : zD cX2_isFitting 24 (.iload_n 2) 1 25 := ⟨by decide +kernel, rfl⟩
theorem dX2_isFitting_25 : zD cX2_isFitting 25 (.iload_n 3) 1 26 := ⟨by decide +kernel, rfl⟩
theorem dX2_isFitting_26 : zJ cX2_isFitting 26 (.if_icmp .gt) 29 119 := ⟨93, by decide +kernel, rfl, by decide⟩
theorem dX2_isFitting_29 : zD cX2_isFitting 29 (.iload_n 1) 1 30 := ⟨by decide +kernel, rfl⟩
theorem dX2_isFitting_30 : zD cX2_isFitting 30 (.iload 5) 2 32 := ⟨by decide +kernel, rfl⟩
theorem dX2_isFitting_32 : zD cX2_isFitting 32 .ishr 1 33 := ⟨by decide +kernel, rfl⟩
theorem dX2_isFitting_33 : zD cX2_isFitting 33 (.iconst 1) 1 34 := ⟨by decide +kernel, rfl⟩
theorem dX2_isFitting_34 : zD cX2_isFitting 34 .iand 1 35 := ⟨by decide +kernel, rfl⟩
theorem dX2_isFitting_35 : zD cX2_isFitting 35 (.iconst 1) 1 36 := ⟨by decide +kernel, rfl⟩
theorem dX2_isFitting_36 : zJ cX2_isFitting 36 (.if_icmp .ne) 39 51 := ⟨15, by decide +kernel, rfl, by decide⟩
theorem dX2_isFitting_39 : zD cX2_isFitting 39 (.iload 4) 2 41 := ⟨by decide +kernel, rfl⟩
theorem dX2_isFitting_41 : zJ cX2_isFitting 41 (.ifCond .ne) 44 48 := ⟨7, by decide +kernel, rfl, by decide⟩
theorem dX2_isFitting_44 : zD cX2_isFitting 44 (.iconst 1) 1 45 := ⟨by decide +kernel, rfl⟩
theorem dX2_isFitting_45 : zJ cX2_isFitting 45 .goto 48 49 := ⟨4, by decide +kernel, rfl, by decide⟩
theorem dX2_isFitting_48 : zD cX2_isFitting 48 (.iconst 0) 1 49 := ⟨by decide +kernel, rfl⟩
theorem dX2_isFitting_49 : zD cX2_isFitting 49 (.istore 4) 2 51 := ⟨by decide +kernel, rfl⟩
theorem dX2_isFitting_51 : zD cX2_isFitting 51 (.iload 4) 2 53 := ⟨by decide +kernel, rfl⟩
theorem dX2_isFitting_53 : zJ cX2_isFitting 53 (.ifCond .eq) 56 65 := ⟨12, by decide +kernel, rfl, by decide⟩
theorem dX2_isFitting_56 : zD cX2_isFitting 56 (.aload_n 0) 1 57 := ⟨by decide +kernel, rfl⟩
theorem dX2_isFitting_57 : zD cX2_isFitting 57 (.getfield 15) 3 60 := ⟨by decide +kernel, rfl⟩
theorem dX2_isFitting_60 : zD cX2_isFitting 60 (.iload_n 3) 1 61 := ⟨by decide +kernel, rfl⟩
theorem dX2_isFitting_61 : zD cX2_isFitting 61 .iaload 1 62 := ⟨by decide +kernel, rfl⟩
theorem dX2_isFitting_62 : zJ cX2_isFitting 62 .goto 65 71 := ⟨9, by decide +kernel, rfl, by decide⟩
theorem dX2_isFitting_65 : zD cX2_isFitting 65 (.aload_n 0) 1 66 := ⟨by decide +kernel, rfl⟩
theorem dX2_isFitting_66 : zD cX2_isFitting 66 (.getfield 15) 3 69 := ⟨by decide +kernel, rfl⟩
theorem dX2_isFitting_69 : zD cX2_isFitting 69 (.iload_n 2) 1 70 := ⟨by decide +kernel, rfl⟩
theorem dX2_isFitting_70 : zD cX2_isFitting 70 .iaload 1 71 := ⟨by decide +kernel, rfl⟩
theorem dX2_isFitting_71 : zD cX2_isFitting 71 (.istore 6) 2 73 := ⟨by decide +kernel, rfl⟩
theorem dX2_isFitting_73 : zD cX2_isFitting 73 (.aload_n 0) 1 74 := ⟨by decide +kernel, rfl⟩
theorem dX2_isFitting_74 : zD cX2_isFitting 74 (.getfield 9) 3 77 := ⟨by decide +kernel, rfl⟩
theorem dX2_isFitting_77 : zD cX2_isFitting 77 (.iload 5) 2 79 := ⟨by decide +kernel, rfl⟩
theorem dX2_isFitting_79 : zD cX2_isFitting 79 .iaload 1 80 := ⟨by decide +kernel, rfl⟩
theorem dX2_isFitting_80 : zD cX2_isFitting 80 (.bipush 10) 2 82 := ⟨by decide +kernel, rfl⟩
theorem dX2_isFitting_82 : zJ cX2_isFitting 82 (.if_icmp .eq) 85 99 := ⟨17, by decide +kernel, rfl, by decide⟩
theorem dX2_isFitting_85 : zD cX2_isFitting 85 (.aload_n 0) 1 86 := ⟨by decide +kernel, rfl⟩
theorem dX2_isFitting_86 : zD cX2_isFitting 86 (.getfield 9) 3 89 := ⟨by decide +kernel, rfl⟩
theorem dX2_isFitting_89 : zD cX2_isFitting 89 (.iload 5) 2 91 := ⟨by decide +kernel, rfl⟩
theorem dX2_isFitting_91 : zD cX2_isFitting 91 .iaload 1 92 := ⟨by decide +kernel, rfl⟩
theorem dX2_isFitting_92 : zD cX2_isFitting 92 (.iload 6) 2 94 := ⟨by decide +kernel, rfl⟩
theorem dX2_isFitting_94 : zJ cX2_isFitting 94 (.if_icmp .eq) 97 99 := ⟨5, by decide +kernel, rfl, by decide⟩
theorem dX2_isFitting_97 : zD cX2_isFitting 97 (.iconst 0) 1 98 := ⟨by decide +kernel, rfl⟩
theorem dX2_isFitting_98 : zD cX2_isFitting 98 .ireturn 1 99 := ⟨by decide +kernel, rfl⟩
theorem dX2_isFitting_99 : zD cX2_isFitting 99 (.iload 4) 2 101 := ⟨by decide +kernel, rfl⟩
theorem dX2_isFitting_101 : zJ cX2_isFitting 101 (.ifCond .eq) 104 110 := ⟨9, by decide +kernel, rfl, by decide⟩
theorem dX2_isFitting_104 : zD cX2_isFitting 104 (.iinc 3 (-1)) 3 107 := ⟨by decide +kernel, rfl⟩
theorem dX2_isFitting_107 : zJ cX2_isFitting 107 .goto 110 113 := ⟨6, by decide +kernel, rfl, by decide⟩
theorem dX2_isFitting_110 : zD cX2_isFitting 110 (.iinc 2 1) 3 113 := ⟨by decide +kernel, rfl⟩
theorem dX2_isFitting_113 : zD cX2_isFitting 113 (.iinc 5 1) 3 116 := ⟨by decide +kernel, rfl⟩
theorem dX2_isFitting_116 : zJ cX2_isFitting 116 .goto 119 15 := ⟨-101, by decide +kernel, rfl, by decide⟩
theorem dX2_isFitting_119 : zD cX2_isFitting 119 (.iconst 1) 1 120 := ⟨by decide +kernel, rfl⟩
theorem dX2_isFitting_120 : zD cX2_isFitting 120 .ireturn 1 121 := ⟨by decide +kernel, rfl⟩
theorem dX3_init_0 : zD cX3_init 0 (.aload_n 0) 1 1 := ⟨by decide +kernel, rfl⟩
theorem dX3_init_1 : zD cX3_init 1 (.invokespecial 3) 3 4 := ⟨by decide +kernel, rfl⟩
theorem dX3_init_4 : zD cX3_init 4 (.aload_n 0) 1 5 := ⟨by decide +kernel, rfl⟩
theorem dX3_init_5 : zD cX3_init 5 (.bipush 9) 2 7 := ⟨by decide +kernel, rfl⟩
theorem dX3_init_7 : zD cX3_init 7 (.newarray .long) 2 9 := ⟨by decide +kernel, rfl⟩
theorem dX3_init_9 : zD cX3_init 9 (.putfield 9) 3 12 := ⟨by decide +kernel, rfl⟩
theorem dX3_init_12 : zD cX3_init 12 (.aload_n 0) 1 13 := ⟨by decide +kernel, rfl⟩
theorem dX3_init_13 : zD cX3_init 13 (.bipush 9) 2 15 := ⟨by decide +kernel, rfl⟩
theorem dX3_init_15 : zD cX3_init 15 (.newarray .long) 2 17 := ⟨by decide +kernel, rfl⟩
theorem dX3_init_17 : zD cX3_init 17 (.putfield 15) 3 20 := ⟨by decide +kernel, rfl⟩
theorem dX3_init_20 : zD cX3_init 20 (.aload_n 0) 1 21 := ⟨by decide +kernel, rfl⟩
theorem dX3_init_21 : zD cX3_init 21 (.bipush 9) 2 23 := ⟨by decide +kernel, rfl⟩
theorem dX3_init_23 : zD cX3_init 23 (.newarray .long) 2 25 := ⟨by decide +kernel, rfl⟩
theorem dX3_init_25 : zD cX3_init 25 (.putfield 18) 3 28 := ⟨by decide +kernel, rfl⟩
theorem dX3_init_28 : zD cX3_init 28 .return_ 1 29 := ⟨by decide +kernel, rfl⟩
theorem dX3_findChances_0 : zD cX3_findChances 0 (.iconst 0) 1 1 := ⟨by decide +kernel, rfl⟩
theorem dX3_findChances_1 : zD cX3_findChances 1 (.istore 4) 2 3 := ⟨by decide +kernel, rfl⟩
theorem dX3_findChances_3 : zD cX3_findChances 3 (.iload 4) 2 5 := ⟨by decide +kernel, rfl⟩
theorem dX3_findChances_5 : zD cX3_findChances 5 (.bipush 9) 2 7 := ⟨by decide +kernel, rfl⟩
theorem dX3_findChances_7 : zJ cX3_findChances 7 (.if_icmp .ge) 10 42 := ⟨35, by decide +kernel, rfl, by decide⟩
theorem dX3_findChances_10 : zD cX3_findChances 10 (.aload_n 0) 1 11 := ⟨by decide +kernel, rfl⟩
theorem dX3_findChances_11 : zD cX3_findChances 11 (.getfield 9) 3 14 := ⟨by decide +kernel, rfl⟩
theorem dX3_findChances_14 : zD cX3_findChances 14 (.iload 4) 2 16 := ⟨by decide +kernel, rfl⟩
theorem dX3_findChances_16 : zD cX3_findChances 16 (.iload 4) 2 18 := ⟨by decide +kernel, rfl⟩
theorem dX3_findChances_18 : zD cX3_findChances 18 (.iload_n 2) 1 19 := ⟨by decide +kernel, rfl⟩
theorem dX3_findChances_19 : zJ cX3_findChances 19 (.if_icmp .ne) 22 26 := ⟨7, by decide +kernel, rfl, by decide⟩
theorem dX3_findChances_22 : zD cX3_findChances 22 (.lconst 1) 1 23 := ⟨by decide +kernel, rfl⟩
theorem dX3_findChances_23 : zJ cX3_findChances 23 .goto 26 27 := ⟨4, by decide +kernel, rfl, by decide⟩
theorem dX3_findChances_26 : zD cX3_findChances 26 (.lconst 0) 1 27 := ⟨by decide +kernel, rfl⟩
theorem dX3_findChances_27 : zD cX3_findChances 27 .lastore 1 28 := ⟨by decide +kernel, rfl⟩
theorem dX3_findChances_28 : zD cX3_findChances 28 (.aload_n 0) 1 29 := ⟨by decide +kernel, rfl⟩
theorem dX3_findChances_29 : zD cX3_findChances 29 (.getfield 18) 3 32 := ⟨by decide +kernel, rfl⟩
theorem dX3_findChances_32 : zD cX3_findChances 32 (.iload 4) 2 34 := ⟨by decide +kernel, rfl⟩
theorem dX3_findChances_34 : zD cX3_findChances 34 (.lconst 0) 1 35 := ⟨by decide +kernel, rfl⟩
theorem dX3_findChances_35 : zD cX3_findChances 35 .lastore 1 36 := ⟨by decide +kernel, rfl⟩
theorem dX3_findChances_36 : zD cX3_findChances 36 (.iinc 4 1) 3 39 := ⟨by decide +kernel, rfl⟩
theorem dX3_findChances_39 : zJ cX3_findChances 39 .goto 42 3 := ⟨-36, by decide +kernel, rfl, by decide⟩
theorem dX3_findChances_42 : zD cX3_findChances 42 (.ldc2_w 21) 3 45 := ⟨by decide +kernel, rfl⟩
theorem dX3_findChances_45 : zD cX3_findChances 45 (.lstore 4) 2 47 := ⟨by decide +kernel, rfl⟩
theorem dX3_findChances_47 : zD cX3_findChances 47 (.iconst 0) 1 48 := ⟨by decide +kernel, rfl⟩
theorem dX3_findChances_48 : zD cX3_findChances 48 (.istore 6) 2 50 := ⟨by decide +kernel, rfl⟩
theorem dX3_findChances_50 : zD cX3_findChances 50 (.iload 6) 2 52 := ⟨by decide +kernel, rfl⟩
theorem dX3_findChances_52 : zD cX3_findChances 52 (.iload_n 1) 1 53 := ⟨by decide +kernel, rfl⟩
theorem dX3_findChances_53 : zJ cX3_findChances 53 (.if_icmp .ge) 56 183 := ⟨130, by decide +kernel, rfl, by decide⟩
theorem dX3_findChances_56 : zD cX3_findChances 56 (.iload 6) 2 58 := ⟨by decide +kernel, rfl⟩
theorem dX3_findChances_58 : zD cX3_findChances 58 (.bipush 9) 2 60 := ⟨by decide +kernel, rfl⟩
theorem dX3_findChances_60 : zJ cX3_findChances 60 (.if_icmp .ge) 63 183 := ⟨123, by decide +kernel, rfl, by decide⟩
theorem dX3_findChances_63 : zD cX3_findChances 63 (.iload_n 1) 1 64 := ⟨by decide +kernel, rfl⟩
theorem dX3_findChances_64 : zD cX3_findChances 64 (.iload 6) 2 66 := ⟨by decide +kernel, rfl⟩
theorem dX3_findChances_66 : zD cX3_findChances 66 .isub 1 67 := ⟨by decide +kernel, rfl⟩
theorem dX3_findChances_67 : zD cX3_findChances 67 (.istore 7) 2 69 := ⟨by decide +kernel, rfl⟩
theorem dX3_findChances_69 : zD cX3_findChances 69 (.iconst 0) 1 70 := ⟨by decide +kernel, rfl⟩
theorem dX3_findChances_70 : zD cX3_findChances 70 (.istore 8) 2 72 := ⟨by decide +kernel, rfl⟩
theorem dX3_findChances_72 : zD cX3_findChances 72 (.iload 8) 2 74 := ⟨by decide +kernel, rfl⟩
theorem dX3_findChances_74 : zD cX3_findChances 74 (.iload 7) 2 76 := ⟨by decide +kernel, rfl⟩
theorem dX3_findChances_76 : zJ cX3_findChances 76 (.if_icmp .ge) 79 121 := ⟨45, by decide +kernel, rfl, by decide⟩
theorem dX3_findChances_79 : zD cX3_findChances 79 (.aload_n 0) 1 80 := ⟨by decide +kernel, rfl⟩
theorem dX3_findChances_80 : zD cX3_findChances 80 (.getfield 15) 3 83 := ⟨by decide +kernel, rfl⟩
theorem dX3_findChances_83 : zD cX3_findChances 83 (.iload 8) 2 85 := ⟨by decide +kernel, rfl⟩
theorem dX3_findChances_85 : zD cX3_findChances 85 (.bipush 10) 2 87 := ⟨by decide +kernel, rfl⟩
theorem dX3_findChances_87 : zD cX3_findChances 87 (.iload_n 3) 1 88 := ⟨by decide +kernel, rfl⟩
theorem dX3_findChances_88 : zD cX3_findChances 88 .isub 1 89 := ⟨by decide +kernel, rfl⟩
theorem dX3_findChances_89 : zD cX3_findChances 89 .i2l 1 90 := ⟨by decide +kernel, rfl⟩
theorem dX3_findChances_90 : zD cX3_findChances 90 (.aload_n 0) 1 91 := ⟨by decide +kernel, rfl⟩
theorem dX3_findChances_91 : zD cX3_findChances 91 (.getfield 9) 3 94 := ⟨by decide +kernel, rfl⟩
theorem dX3_findChances_94 : zD cX3_findChances 94 (.iload 8) 2 96 := ⟨by decide +kernel, rfl⟩
theorem dX3_findChances_96 : zD cX3_findChances 96 .laload 1 97 := ⟨by decide +kernel, rfl⟩
theorem dX3_findChances_97 : zD cX3_findChances 97 .lmul 1 98 := ⟨by decide +kernel, rfl⟩
theorem dX3_findChances_98 : zD cX3_findChances 98 (.iload_n 3) 1 99 := ⟨by decide +kernel, rfl⟩
theorem dX3_findChances_99 : zD cX3_findChances 99 .i2l 1 100 := ⟨by decide +kernel, rfl⟩
theorem dX3_findChances_100 : zD cX3_findChances 100 (.aload_n 0) 1 101 := ⟨by decide +kernel, rfl⟩
theorem dX3_findChances_101 : zD cX3_findChances 101 (.getfield 9) 3 104 := ⟨by decide +kernel, rfl⟩
theorem dX3_findChances_104 : zD cX3_findChances 104 (.iload 7) 2 106 := ⟨by decide +kernel, rfl⟩
theorem dX3_findChances_106 : zD cX3_findChances 106 (.iconst 1) 1 107 := ⟨by decide +kernel, rfl⟩
theorem dX3_findChances_107 : zD cX3_findChances 107 .isub 1 108 := ⟨by decide +kernel, rfl⟩
theorem dX3_findChances_108 : zD cX3_findChances 108 (.iload 8) 2 110 := ⟨by decide +kernel, rfl⟩
theorem dX3_findChances_110 : zD cX3_findChances 110 .isub 1 111 := ⟨by decide +kernel, rfl⟩
theorem dX3_findChances_111 : zD cX3_findChances 111 .laload 1 112 := ⟨by decide +kernel, rfl⟩
theorem dX3_findChances_112 : zD cX3_findChances 112 .lmul 1 113 := ⟨by decide +kernel, rfl⟩
theorem dX3_findChances_113 : zD cX3_findChances 113 .ladd 1 114 := ⟨by decide +kernel, rfl⟩
theorem dX3_findChances_114 : zD cX3_findChances 114 .lastore 1 115 := ⟨by decide +kernel, rfl⟩
theorem dX3_findChances_115 : zD cX3_findChances 115 (.iinc 8 1) 3 118 := ⟨by decide +kernel, rfl⟩
theorem dX3_findChances_118 : zJ cX3_findChances 118 .goto 121 72 := ⟨-46, by decide +kernel, rfl, by decide⟩
theorem dX3_findChances_121 : zD cX3_findChances 121 (.lload 4) 2 123 := ⟨by decide +kernel, rfl⟩
theorem dX3_findChances_123 : zD cX3_findChances 123 (.ldc2_w 23) 3 126 := ⟨by decide +kernel, rfl⟩
theorem dX3_findChances_126 : zD cX3_findChances 126 .ldiv 1 127 := ⟨by decide +kernel, rfl⟩
theorem dX3_findChances_127 : zD cX3_findChances 127 (.lstore 4) 2 129 := ⟨by decide +kernel, rfl⟩
theorem dX3_findChances_129 : zD cX3_findChances 129 (.aload_n 0) 1 130 := ⟨by decide +kernel, rfl⟩
theorem dX3_findChances_130 : zD cX3_findChances 130 (.getfield 18) 3 133 := ⟨by decide +kernel, rfl⟩
theorem dX3_findChances_133 : zD cX3_findChances 133 (.iload 6) 2 135 := ⟨by decide +kernel, rfl⟩
theorem dX3_findChances_135 : zD cX3_findChances 135 (.aload_n 0) 1 136 := ⟨by decide +kernel, rfl⟩
theorem dX3_findChances_136 : zD cX3_findChances 136 (.getfield 15) 3 139 := ⟨by decide +kernel, rfl⟩
theorem dX3_findChances_139 : zD cX3_findChances 139 (.iconst 0) 1 140 := ⟨by decide +kernel, rfl⟩
theorem dX3_findChances_140 : zD cX3_findChances 140 .laload 1 141 := ⟨by decide +kernel, rfl⟩
theorem dX3_findChances_141 : zD cX3_findChances 141 (.lload 4) 2 143 := ⟨by decide +kernel, rfl⟩
theorem dX3_findChances_143 : zD cX3_findChances 143 .lmul 1 144 := ⟨by decide +kernel, rfl⟩
theorem dX3_findChances_144 : zD cX3_findChances 144 .lastore 1 145 := ⟨by decide +kernel, rfl⟩
theorem dX3_findChances_145 : zD cX3_findChances 145 (.iconst 1) 1 146 := ⟨by decide +kernel, rfl⟩
theorem dX3_findChances_146 : zD cX3_findChances 146 (.istore 8) 2 148 := ⟨by decide +kernel, rfl⟩
theorem dX3_findChances_148 : zD cX3_findChances 148 (.iload 8) 2 150 := ⟨by decide +kernel, rfl⟩
theorem dX3_findChances_150 : zD cX3_findChances 150 (.iload 7) 2 152 := ⟨by decide +kernel, rfl⟩
theorem dX3_findChances_152 : zJ cX3_findChances 152 (.if_icmp .ge) 155 177 := ⟨25, by decide +kernel, rfl, by decide⟩
theorem dX3_findChances_155 : zD cX3_findChances 155 (.aload_n 0) 1 156 := ⟨by decide +kernel, rfl⟩
theorem dX3_findChances_156 : zD cX3_findChances 156 (.getfield 9) 3 159 := ⟨by decide +kernel, rfl⟩
theorem dX3_findChances_159 : zD cX3_findChances 159 (.iload 8) 2 161 := ⟨by decide +kernel, rfl⟩
theorem dX3_findChances_161 : zD cX3_findChances 161 (.iconst 1) 1 162 := ⟨by decide +kernel, rfl⟩
theorem dX3_findChances_162 : zD cX3_findChances 162 .isub 1 163 := ⟨by decide +kernel, rfl⟩
theorem dX3_findChances_163 : zD cX3_findChances 163 (.aload_n 0) 1 164 := ⟨by decide +kernel, rfl⟩
theorem dX3_findChances_164 : zD cX3_findChances 164 (.getfield 15) 3 167 := ⟨by decide +kernel, rfl⟩
theorem dX3_findChances_167 : zD cX3_findChances 167 (.iload 8) 2 169 := ⟨by decide +kernel, rfl⟩
theorem dX3_findChances_169 : zD cX3_findChances 169 .laload 1 170 := ⟨by decide +kernel, rfl⟩
theorem dX3_findChances_170 : zD cX3_findChances 170 .lastore 1 171 := ⟨by decide +kernel, rfl⟩
theorem dX3_findChances_171 : zD cX3_findChances 171 (.iinc 8 1) 3 174 := ⟨by decide +kernel, rfl⟩
theorem dX3_findChances_174 : zJ cX3_findChances 174 .goto 177 148 := ⟨-26, by decide +kernel, rfl, by decide⟩
theorem dX3_findChances_177 : zD cX3_findChances 177 (.iinc 6 1) 3 180 := ⟨by decide +kernel, rfl⟩
theorem dX3_findChances_180 : zJ cX3_findChances 180 .goto 183 50 := ⟨-130, by decide +kernel, rfl, by decide⟩
theorem dX3_findChances_183 : zD cX3_findChances 183 .return_ 1 184 := ⟨by decide +kernel, rfl⟩
theorem dX3_meanAbove_0 : zD cX3_meanAbove 0 (.aload_n 0) 1 1 := ⟨by decide +kernel, rfl⟩
theorem dX3_meanAbove_1 : zD cX3_meanAbove 1 (.iload_n 1) 1 2 := ⟨by decide +kernel, rfl⟩
theorem dX3_meanAbove_2 : zD cX3_meanAbove 2 (.iload_n 2) 1 3 := ⟨by decide +kernel, rfl⟩
theorem dX3_meanAbove_3 : zD cX3_meanAbove 3 (.iload_n 3) 1 4 := ⟨by decide +kernel, rfl⟩
theorem dX3_meanAbove_4 : zD cX3_meanAbove 4 (.invokevirtual 25) 3 7 := ⟨by decide +kernel, rfl⟩
theorem dX3_meanAbove_7 : zD cX3_meanAbove 7 (.lconst 0) 1 8 := ⟨by decide +kernel, rfl⟩
theorem dX3_meanAbove_8 : zD cX3_meanAbove 8 (.lstore 4) 2 10 := ⟨by decide +kernel, rfl⟩
theorem dX3_meanAbove_10 : zD cX3_meanAbove 10 (.iconst 0) 1 11 := ⟨by decide +kernel, rfl⟩
theorem dX3_meanAbove_11 : zD cX3_meanAbove 11 (.istore 6) 2 13 := ⟨by decide +kernel, rfl⟩
theorem dX3_meanAbove_13 : zD cX3_meanAbove 13 (.iload 6) 2 15 := ⟨by decide +kernel, rfl⟩
theorem dX3_meanAbove_15 : zD cX3_meanAbove 15 (.bipush 9) 2 17 := ⟨by decide +kernel, rfl⟩
theorem dX3_meanAbove_17 : zJ cX3_meanAbove 17 (.if_icmp .ge) 20 42 := ⟨25, by decide +kernel, rfl, by decide⟩
theorem dX3_meanAbove_20 : zD cX3_meanAbove 20 (.lload 4) 2 22 := ⟨by decide +kernel, rfl⟩
theorem dX3_meanAbove_22 : zD cX3_meanAbove 22 (.iload 6) 2 24 := ⟨by decide +kernel, rfl⟩
theorem dX3_meanAbove_24 : zD cX3_meanAbove 24 .i2l 1 25 := ⟨by decide +kernel, rfl⟩
theorem dX3_meanAbove_25 : zD cX3_meanAbove 25 (.aload_n 0) 1 26 := ⟨by decide +kernel, rfl⟩
theorem dX3_meanAbove_26 : zD cX3_meanAbove 26 (.getfield 18) 3 29 := ⟨by decide +kernel, rfl⟩
theorem dX3_meanAbove_29 : zD cX3_meanAbove 29 (.iload 6) 2 31 := ⟨by decide +kernel, rfl⟩
theorem dX3_meanAbove_31 : zD cX3_meanAbove 31 .laload 1 32 := ⟨by decide +kernel, rfl⟩
theorem dX3_meanAbove_32 : zD cX3_meanAbove 32 .lmul 1 33 := ⟨by decide +kernel, rfl⟩
theorem dX3_meanAbove_33 : zD cX3_meanAbove 33 .ladd 1 34 := ⟨by decide +kernel, rfl⟩
theorem dX3_meanAbove_34 : zD cX3_meanAbove 34 (.lstore 4) 2 36 := ⟨by decide +kernel, rfl⟩
theorem dX3_meanAbove_36 : zD cX3_meanAbove 36 (.iinc 6 1) 3 39 := ⟨by decide +kernel, rfl⟩
theorem dX3_meanAbove_39 : zJ cX3_meanAbove 39 .goto 42 13 := ⟨-26, by decide +kernel, rfl, by decide⟩
theorem dX3_meanAbove_42 : zD cX3_meanAbove 42 (.lload 4) 2 44 := ⟨by decide +kernel, rfl⟩
theorem dX3_meanAbove_44 : zD cX3_meanAbove 44 .lreturn 1 45 := ⟨by decide +kernel, rfl⟩
theorem dX3_chanceAbove_0 : zD cX3_chanceAbove 0 (.aload_n 0) 1 1 := ⟨by decide +kernel, rfl⟩
theorem dX3_chanceAbove_1 : zD cX3_chanceAbove 1 (.iload_n 1) 1 2 := ⟨by decide +kernel, rfl⟩
theorem dX3_chanceAbove_2 : zD cX3_chanceAbove 2 (.iload_n 2) 1 3 := ⟨by decide +kernel, rfl⟩
theorem dX3_chanceAbove_3 : zD cX3_chanceAbove 3 (.iload_n 3) 1 4 := ⟨by decide +kernel, rfl⟩
theorem dX3_chanceAbove_4 : zD cX3_chanceAbove 4 (.invokevirtual 25) 3 7 := ⟨by decide +kernel, rfl⟩
theorem dX3_chanceAbove_7 : zD cX3_chanceAbove 7 (.lconst 0) 1 8 := ⟨by decide +kernel, rfl⟩
theorem dX3_chanceAbove_8 : zD cX3_chanceAbove 8 (.lstore 5) 2 10 := ⟨by decide +kernel, rfl⟩
theorem dX3_chanceAbove_10 : zD cX3_chanceAbove 10 (.iconst 0) 1 11 := ⟨by decide +kernel, rfl⟩
theorem dX3_chanceAbove_11 : zD cX3_chanceAbove 11 (.istore 7) 2 13 := ⟨by decide +kernel, rfl⟩
theorem dX3_chanceAbove_13 : zD cX3_chanceAbove 13 (.iload 7) 2 15 := ⟨by decide +kernel, rfl⟩
theorem dX3_chanceAbove_15 : zD cX3_chanceAbove 15 (.iload 4) 2 17 := ⟨by decide +kernel, rfl⟩
theorem dX3_chanceAbove_17 : zJ cX3_chanceAbove 17 (.if_icmp .gt) 20 45 := ⟨28, by decide +kernel, rfl, by decide⟩
theorem dX3_chanceAbove_20 : zD cX3_chanceAbove 20 (.iload 7) 2 22 := ⟨by decide +kernel, rfl⟩
theorem dX3_chanceAbove_22 : zD cX3_chanceAbove 22 (.bipush 9) 2 24 := ⟨by decide +kernel, rfl⟩
theorem dX3_chanceAbove_24 : zJ cX3_chanceAbove 24 (.if_icmp .ge) 27 45 := ⟨21, by decide +kernel, rfl, by decide⟩
theorem dX3_chanceAbove_27 : zD cX3_chanceAbove 27 (.lload 5) 2 29 := ⟨by decide +kernel, rfl⟩
theorem dX3_chanceAbove_29 : zD cX3_chanceAbove 29 (.aload_n 0) 1 30 := ⟨by decide +kernel, rfl⟩
theorem dX3_chanceAbove_30 : zD cX3_chanceAbove 30 (.getfield 18) 3 33 := ⟨by decide +kernel, rfl⟩
theorem dX3_chanceAbove_33 : zD cX3_chanceAbove 33 (.iload 7) 2 35 := ⟨by decide +kernel, rfl⟩
theorem dX3_chanceAbove_35 : zD cX3_chanceAbove 35 .laload 1 36 := ⟨by decide +kernel, rfl⟩
theorem dX3_chanceAbove_36 : zD cX3_chanceAbove 36 .ladd 1 37 := ⟨by decide +kernel, rfl⟩
theorem dX3_chanceAbove_37 : zD cX3_chanceAbove 37 (.lstore 5) 2 39 := ⟨by decide +kernel, rfl⟩
theorem dX3_chanceAbove_39 : zD cX3_chanceAbove 39 (.iinc 7 1) 3 42 := ⟨by decide +kernel, rfl⟩
theorem dX3_chanceAbove_42 : zJ cX3_chanceAbove 42 .goto 45 13 := ⟨-29, by decide +kernel, rfl, by decide⟩
theorem dX3_chanceAbove_45 : zD cX3_chanceAbove 45 (.lload 5) 2 47 := ⟨by decide +kernel, rfl⟩
theorem dX3_chanceAbove_47 : zD cX3_chanceAbove 47 .lreturn 1 48 := ⟨by decide +kernel, rfl⟩
theorem dX3_lowest_0 : zD cX3_lowest 0 (.ldc2_w 21) 3 3 := ⟨by decide +kernel, rfl⟩
theorem dX3_lowest_3 : zD cX3_lowest 3 (.lstore 4) 2 5 := ⟨by decide +kernel, rfl⟩
theorem dX3_lowest_5 : zD cX3_lowest 5 (.lload_n 1) 1 6 := ⟨by decide +kernel, rfl⟩
theorem dX3_lowest_6 : zD cX3_lowest 6 (.lstore 6) 2 8 := ⟨by decide +kernel, rfl⟩
theorem dX3_lowest_8 : zD cX3_lowest 8 (.iconst 0) 1 9 := ⟨by decide +kernel, rfl⟩
theorem dX3_lowest_9 : zD cX3_lowest 9 (.istore 8) 2 11 := ⟨by decide +kernel, rfl⟩
theorem dX3_lowest_11 : zD cX3_lowest 11 (.iload 8) 2 13 := ⟨by decide +kernel, rfl⟩
theorem dX3_lowest_13 : zD cX3_lowest 13 (.bipush 100) 2 15 := ⟨by decide +kernel, rfl⟩
theorem dX3_lowest_15 : zJ cX3_lowest 15 (.if_icmp .ge) 18 46 := ⟨31, by decide +kernel, rfl, by decide⟩
theorem dX3_lowest_18 : zD cX3_lowest 18 (.lload 6) 2 20 := ⟨by decide +kernel, rfl⟩
theorem dX3_lowest_20 : zD cX3_lowest 20 (.lconst 0) 1 21 := ⟨by decide +kernel, rfl⟩
theorem dX3_lowest_21 : zD cX3_lowest 21 .lcmp 1 22 := ⟨by decide +kernel, rfl⟩
theorem dX3_lowest_22 : zJ cX3_lowest 22 (.ifCond .eq) 25 46 := ⟨24, by decide +kernel, rfl, by decide⟩
theorem dX3_lowest_25 : zD cX3_lowest 25 (.lload 4) 2 27 := ⟨by decide +kernel, rfl⟩
theorem dX3_lowest_27 : zD cX3_lowest 27 (.lload 6) 2 29 := ⟨by decide +kernel, rfl⟩
theorem dX3_lowest_29 : zD cX3_lowest 29 .lrem 1 30 := ⟨by decide +kernel, rfl⟩
theorem dX3_lowest_30 : zD cX3_lowest 30 (.lstore 9) 2 32 := ⟨by decide +kernel, rfl⟩
theorem dX3_lowest_32 : zD cX3_lowest 32 (.lload 6) 2 34 := ⟨by decide +kernel, rfl⟩
theorem dX3_lowest_34 : zD cX3_lowest 34 (.lstore 4) 2 36 := ⟨by decide +kernel, rfl⟩
theorem dX3_lowest_36 : zD cX3_lowest 36 (.lload 9) 2 38 := ⟨by decide +kernel, rfl⟩
theorem dX3_lowest_38 : zD cX3_lowest 38 (.lstore 6) 2 40 := ⟨by decide +kernel, rfl⟩
theorem dX3_lowest_40 : zD cX3_lowest 40 (.iinc 8 1) 3 43 := ⟨by decide +kernel, rfl⟩
theorem dX3_lowest_43 : zJ cX3_lowest 43 .goto 46 11 := ⟨-32, by decide +kernel, rfl, by decide⟩
theorem dX3_lowest_46 : zD cX3_lowest 46 (.lload 4) 2 48 := ⟨by decide +kernel, rfl⟩
theorem dX3_lowest_48 : zD cX3_lowest 48 (.lconst 0) 1 49 := ⟨by decide +kernel, rfl⟩
theorem dX3_lowest_49 : zD cX3_lowest 49 .lcmp 1 50 := ⟨by decide +kernel, rfl⟩
theorem dX3_lowest_50 : zJ cX3_lowest 50 (.ifCond .ne) 53 65 := ⟨15, by decide +kernel, rfl, by decide⟩
theorem dX3_lowest_53 : zD cX3_lowest 53 (.iload_n 3) 1 54 := ⟨by decide +kernel, rfl⟩
theorem dX3_lowest_54 : zJ cX3_lowest 54 (.ifCond .ne) 57 61 := ⟨7, by decide +kernel, rfl, by decide⟩
theorem dX3_lowest_57 : zD cX3_lowest 57 (.lload_n 1) 1 58 := ⟨by decide +kernel, rfl⟩
theorem dX3_lowest_58 : zJ cX3_lowest 58 .goto 61 64 := ⟨6, by decide +kernel, rfl, by decide⟩
theorem dX3_lowest_61 : zD cX3_lowest 61 (.ldc2_w 21) 3 64 := ⟨by decide +kernel, rfl⟩
theorem dX3_lowest_64 : zD cX3_lowest 64 .lreturn 1 65 := ⟨by decide +kernel, rfl⟩
theorem dX3_lowest_65 : zD cX3_lowest 65 (.iload_n 3) 1 66 := ⟨by decide +kernel, rfl⟩
theorem dX3_lowest_66 : zJ cX3_lowest 66 (.ifCond .ne) 69 76 := ⟨10, by decide +kernel, rfl, by decide⟩
theorem dX3_lowest_69 : zD cX3_lowest 69 (.lload_n 1) 1 70 := ⟨by decide +kernel, rfl⟩
theorem dX3_lowest_70 : zD cX3_lowest 70 (.lload 4) 2 72 := ⟨by decide +kernel, rfl⟩
theorem dX3_lowest_72 : zD cX3_lowest 72 .ldiv 1 73 := ⟨by decide +kernel, rfl⟩
theorem dX3_lowest_73 : zJ cX3_lowest 73 .goto 76 82 := ⟨9, by decide +kernel, rfl, by decide⟩
theorem dX3_lowest_76 : zD cX3_lowest 76 (.ldc2_w 21) 3 79 := ⟨by decide +kernel, rfl⟩
theorem dX3_lowest_79 : zD cX3_lowest 79 (.lload 4) 2 81 := ⟨by decide +kernel, rfl⟩
theorem dX3_lowest_81 : zD cX3_lowest 81 .ldiv 1 82 := ⟨by decide +kernel, rfl⟩
theorem dX3_lowest_82 : zD cX3_lowest 82 .lreturn 1 83 := ⟨by decide +kernel, rfl⟩
theorem dX3_bestPlace_0 : zD cX3_bestPlace 0 (.iconst 0) 1 1 := ⟨by decide +kernel, rfl⟩
theorem dX3_bestPlace_1 : zD cX3_bestPlace 1 (.istore_n 3) 1 2 := ⟨by decide +kernel, rfl⟩
theorem dX3_bestPlace_2 : zD cX3_bestPlace 2 (.aload_n 0) 1 3 := ⟨by decide +kernel, rfl⟩
theorem dX3_bestPlace_3 : zD cX3_bestPlace 3 (.iload_n 1) 1 4 := ⟨by decide +kernel, rfl⟩
theorem dX3_bestPlace_4 : zD cX3_bestPlace 4 (.iconst 0) 1 5 := ⟨by decide +kernel, rfl⟩
theorem dX3_bestPlace_5 : zD cX3_bestPlace 5 (.iload_n 2) 1 6 := ⟨by decide +kernel, rfl⟩
theorem dX3_bestPlace_6 : zD cX3_bestPlace 6 (.invokevirtual 29) 3 9 := ⟨by decide +kernel, rfl⟩
theorem dX3_bestPlace_9 : zD cX3_bestPlace 9 (.lstore 4) 2 11 := ⟨by decide +kernel, rfl⟩
theorem dX3_bestPlace_11 : zD cX3_bestPlace 11 (.iconst 1) 1 12 := ⟨by decide +kernel, rfl⟩
theorem dX3_bestPlace_12 : zD cX3_bestPlace 12 (.istore 6) 2 14 := ⟨by decide +kernel, rfl⟩
theorem dX3_bestPlace_14 : zD cX3_bestPlace 14 (.iload 6) 2 16 := ⟨by decide +kernel, rfl⟩
theorem dX3_bestPlace_16 : zD cX3_bestPlace 16 (.iload_n 1) 1 17 := ⟨by decide +kernel, rfl⟩
theorem dX3_bestPlace_17 : zJ cX3_bestPlace 17 (.if_icmp .ge) 20 51 := ⟨34, by decide +kernel, rfl, by decide⟩
theorem dX3_bestPlace_20 : zD cX3_bestPlace 20 (.aload_n 0) 1 21 := ⟨by decide +kernel, rfl⟩
theorem dX3_bestPlace_21 : zD cX3_bestPlace 21 (.iload_n 1) 1 22 := ⟨by decide +kernel, rfl⟩
theorem dX3_bestPlace_22 : zD cX3_bestPlace 22 (.iload 6) 2 24 := ⟨by decide +kernel, rfl⟩
theorem dX3_bestPlace_24 : zD cX3_bestPlace 24 (.iload_n 2) 1 25 := ⟨by decide +kernel, rfl⟩
theorem dX3_bestPlace_25 : zD cX3_bestPlace 25 (.invokevirtual 29) 3 28 := ⟨by decide +kernel, rfl⟩
theorem dX3_bestPlace_28 : zD cX3_bestPlace 28 (.lstore 7) 2 30 := ⟨by decide +kernel, rfl⟩
theorem dX3_bestPlace_30 : zD cX3_bestPlace 30 (.lload 7) 2 32 := ⟨by decide +kernel, rfl⟩
theorem dX3_bestPlace_32 : zD cX3_bestPlace 32 (.lload 4) 2 34 := ⟨by decide +kernel, rfl⟩
theorem dX3_bestPlace_34 : zD cX3_bestPlace 34 .lcmp 1 35 := ⟨by decide +kernel, rfl⟩
theorem dX3_bestPlace_35 : zJ cX3_bestPlace 35 (.ifCond .ge) 38 45 := ⟨10, by decide +kernel, rfl, by decide⟩
theorem dX3_bestPlace_38 : zD cX3_bestPlace 38 (.lload 7) 2 40 := ⟨by decide +kernel, rfl⟩
theorem dX3_bestPlace_40 : zD cX3_bestPlace 40 (.lstore 4) 2 42 := ⟨by decide +kernel, rfl⟩
theorem dX3_bestPlace_42 : zD cX3_bestPlace 42 (.iload 6) 2 44 := ⟨by decide +kernel, rfl⟩
theorem dX3_bestPlace_44 : zD cX3_bestPlace 44 (.istore_n 3) 1 45 := ⟨by decide +kernel, rfl⟩
theorem dX3_bestPlace_45 : zD cX3_bestPlace 45 (.iinc 6 1) 3 48 := ⟨by decide +kernel, rfl⟩
theorem dX3_bestPlace_48 : zJ cX3_bestPlace 48 .goto 51 14 := ⟨-34, by decide +kernel, rfl, by decide⟩
theorem dX3_bestPlace_51 : zD cX3_bestPlace 51 (.iload_n 3) 1 52 := ⟨by decide +kernel, rfl⟩
theorem dX3_bestPlace_52 : zD cX3_bestPlace 52 .ireturn 1 53 := ⟨by decide +kernel, rfl⟩
theorem dX3_bestEnd_0 : zD cX3_bestEnd 0 (.aload_n 0) 1 1 := ⟨by decide +kernel, rfl⟩
theorem dX3_bestEnd_1 : zD cX3_bestEnd 1 (.iload_n 1) 1 2 := ⟨by decide +kernel, rfl⟩
theorem dX3_bestEnd_2 : zD cX3_bestEnd 2 (.iload_n 1) 1 3 := ⟨by decide +kernel, rfl⟩
theorem dX3_bestEnd_3 : zD cX3_bestEnd 3 (.iconst 1) 1 4 := ⟨by decide +kernel, rfl⟩
theorem dX3_bestEnd_4 : zD cX3_bestEnd 4 .isub 1 5 := ⟨by decide +kernel, rfl⟩
theorem dX3_bestEnd_5 : zD cX3_bestEnd 5 (.iload_n 2) 1 6 := ⟨by decide +kernel, rfl⟩
theorem dX3_bestEnd_6 : zD cX3_bestEnd 6 (.invokevirtual 29) 3 9 := ⟨by decide +kernel, rfl⟩
theorem dX3_bestEnd_9 : zD cX3_bestEnd 9 (.aload_n 0) 1 10 := ⟨by decide +kernel, rfl⟩
theorem dX3_bestEnd_10 : zD cX3_bestEnd 10 (.iload_n 1) 1 11 := ⟨by decide +kernel, rfl⟩
theorem dX3_bestEnd_11 : zD cX3_bestEnd 11 (.iconst 0) 1 12 := ⟨by decide +kernel, rfl⟩
theorem dX3_bestEnd_12 : zD cX3_bestEnd 12 (.iload_n 2) 1 13 := ⟨by decide +kernel, rfl⟩
theorem dX3_bestEnd_13 : zD cX3_bestEnd 13 (.invokevirtual 29) 3 16 := ⟨by decide +kernel, rfl⟩
theorem dX3_bestEnd_16 : zD cX3_bestEnd 16 .lcmp 1 17 := ⟨by decide +kernel, rfl⟩
theorem dX3_bestEnd_17 : zJ cX3_bestEnd 17 (.ifCond .ge) 20 26 := ⟨9, by decide +kernel, rfl, by decide⟩
theorem dX3_bestEnd_20 : zD cX3_bestEnd 20 (.iload_n 1) 1 21 := ⟨by decide +kernel, rfl⟩
theorem dX3_bestEnd_21 : zD cX3_bestEnd 21 (.iconst 1) 1 22 := ⟨by decide +kernel, rfl⟩
theorem dX3_bestEnd_22 : zD cX3_bestEnd 22 .isub 1 23 := ⟨by decide +kernel, rfl⟩
theorem dX3_bestEnd_23 : zJ cX3_bestEnd 23 .goto 26 27 := ⟨4, by decide +kernel, rfl, by decide⟩
theorem dX3_bestEnd_26 : zD cX3_bestEnd 26 (.iconst 0) 1 27 := ⟨by decide +kernel, rfl⟩
theorem dX3_bestEnd_27 : zD cX3_bestEnd 27 .ireturn 1 28 := ⟨by decide +kernel, rfl⟩
theorem dX4_init_0 : zD cX4_init 0 (.aload_n 0) 1 1 := ⟨by decide +kernel, rfl⟩
theorem dX4_init_1 : zD cX4_init 1 (.invokespecial 3) 3 4 := ⟨by decide +kernel, rfl⟩
theorem dX4_init_4 : zD cX4_init 4 (.aload_n 0) 1 5 := ⟨by decide +kernel, rfl⟩
theorem dX4_init_5 : zD cX4_init 5 (.bipush 10) 2 7 := ⟨by decide +kernel, rfl⟩
theorem dX4_init_7 : zD cX4_init 7 (.newarray .int) 2 9 := ⟨by decide +kernel, rfl⟩
theorem dX4_init_9 : zD cX4_init 9 (.putfield 9) 3 12 := ⟨by decide +kernel, rfl⟩
theorem dX4_init_12 : zD cX4_init 12 (.aload_n 0) 1 13 := ⟨by decide +kernel, rfl⟩
theorem dX4_init_13 : zD cX4_init 13 (.bipush 10) 2 15 := ⟨by decide +kernel, rfl⟩
theorem dX4_init_15 : zD cX4_init 15 (.newarray .int) 2 17 := ⟨by decide +kernel, rfl⟩
theorem dX4_init_17 : zD cX4_init 17 (.putfield 15) 3 20 := ⟨by decide +kernel, rfl⟩
theorem dX4_init_20 : zD cX4_init 20 (.aload_n 0) 1 21 := ⟨by decide +kernel, rfl⟩
theorem dX4_init_21 : zD cX4_init 21 (.bipush 10) 2 23 := ⟨by decide +kernel, rfl⟩
theorem dX4_init_23 : zD cX4_init 23 (.newarray .int) 2 25 := ⟨by decide +kernel, rfl⟩
theorem dX4_init_25 : zD cX4_init 25 (.putfield 18) 3 28 := ⟨by decide +kernel, rfl⟩
theorem dX4_init_28 : zD cX4_init 28 (.aload_n 0) 1 29 := ⟨by decide +kernel, rfl⟩
theorem dX4_init_29 : zD cX4_init 29 (.bipush 10) 2 31 := ⟨by decide +kernel, rfl⟩
theorem dX4_init_31 : zD cX4_init 31 (.newarray .int) 2 33 := ⟨by decide +kernel, rfl⟩
theorem dX4_init_33 : zD cX4_init 33 (.putfield 21) 3 36 := ⟨by decide +kernel, rfl⟩
theorem dX4_init_36 : zD cX4_init 36 (.aload_n 0) 1 37 := ⟨by decide +kernel, rfl⟩
theorem dX4_init_37 : zD cX4_init 37 (.new 24) 3 40 := ⟨by decide +kernel, rfl⟩
theorem dX4_init_40 : zD cX4_init 40 .dup 1 41 := ⟨by decide +kernel, rfl⟩
theorem dX4_init_41 : zD cX4_init 41 (.invokespecial 26) 3 44 := ⟨by decide +kernel, rfl⟩
theorem dX4_init_44 : zD cX4_init 44 (.putfield 27) 3 47 := ⟨by decide +kernel, rfl⟩
theorem dX4_init_47 : zD cX4_init 47 (.aload_n 0) 1 48 := ⟨by decide +kernel, rfl⟩
theorem dX4_init_48 : zD cX4_init 48 (.invokevirtual 31) 3 51 := ⟨by decide +kernel, rfl⟩
theorem dX4_init_51 : zD cX4_init 51 .return_ 1 52 := ⟨by decide +kernel, rfl⟩
theorem dX4_clear_0 : zD cX4_clear 0 (.aload_n 0) 1 1 := ⟨by decide +kernel, rfl⟩
theorem dX4_clear_1 : zD cX4_clear 1 (.iconst 0) 1 2 := ⟨by decide +kernel, rfl⟩
theorem dX4_clear_2 : zD cX4_clear 2 (.putfield 34) 3 5 := ⟨by decide +kernel, rfl⟩
theorem dX4_clear_5 : zD cX4_clear 5 (.aload_n 0) 1 6 := ⟨by decide +kernel, rfl⟩
theorem dX4_clear_6 : zD cX4_clear 6 (.getfield 27) 3 9 := ⟨by decide +kernel, rfl⟩
theorem dX4_clear_9 : zD cX4_clear 9 (.invokevirtual 38) 3 12 := ⟨by decide +kernel, rfl⟩
theorem dX4_clear_12 : zD cX4_clear 12 (.aload_n 0) 1 13 := ⟨by decide +kernel, rfl⟩
theorem dX4_clear_13 : zD cX4_clear 13 (.iconst 0) 1 14 := ⟨by decide +kernel, rfl⟩
theorem dX4_clear_14 : zD cX4_clear 14 (.putfield 39) 3 17 := ⟨by decide +kernel, rfl⟩
theorem dX4_clear_17 : zD cX4_clear 17 (.aload_n 0) 1 18 := ⟨by decide +kernel, rfl⟩
theorem dX4_clear_18 : zD cX4_clear 18 (.iconst 1) 1 19 := ⟨by decide +kernel, rfl⟩
theorem dX4_clear_19 : zD cX4_clear 19 (.putfield 42) 3 22 := ⟨by decide +kernel, rfl⟩
theorem dX4_clear_22 : zD cX4_clear 22 (.aload_n 0) 1 23 := ⟨by decide +kernel, rfl⟩
theorem dX4_clear_23 : zD cX4_clear 23 (.iconst 2) 1 24 := ⟨by decide +kernel, rfl⟩
theorem dX4_clear_24 : zD cX4_clear 24 (.putfield 45) 3 27 := ⟨by decide +kernel, rfl⟩
theorem dX4_clear_27 : zD cX4_clear 27 (.aload_n 0) 1 28 := ⟨by decide +kernel, rfl⟩
theorem dX4_clear_28 : zD cX4_clear 28 (.bipush 99) 2 30 := ⟨by decide +kernel, rfl⟩
theorem dX4_clear_30 : zD cX4_clear 30 (.putfield 48) 3 33 := ⟨by decide +kernel, rfl⟩
theorem dX4_clear_33 : zD cX4_clear 33 (.aload_n 0) 1 34 := ⟨by decide +kernel, rfl⟩
theorem dX4_clear_34 : zD cX4_clear 34 (.iconst 0) 1 35 := ⟨by decide +kernel, rfl⟩
theorem dX4_clear_35 : zD cX4_clear 35 (.putfield 51) 3 38 := ⟨by decide +kernel, rfl⟩
theorem dX4_clear_38 : zD cX4_clear 38 .return_ 1 39 := ⟨by decide +kernel, rfl⟩
theorem dX4_isTold_0 : zD cX4_isTold 0 (.iload_n 1) 1 1 := ⟨by decide +kernel, rfl⟩
theorem dX4_isTold_1 : zJ cX4_isTold 1 (.ifCond .lt) 4 16 := ⟨15, by decide +kernel, rfl, by decide⟩
theorem dX4_isTold_4 : zD cX4_isTold 4 (.iload_n 1) 1 5 := ⟨by decide +kernel, rfl⟩
theorem dX4_isTold_5 : zD cX4_isTold 5 (.aload_n 0) 1 6 := ⟨by decide +kernel, rfl⟩
theorem dX4_isTold_6 : zD cX4_isTold 6 (.getfield 34) 3 9 := ⟨by decide +kernel, rfl⟩
theorem dX4_isTold_9 : zJ cX4_isTold 9 (.if_icmp .ge) 12 16 := ⟨7, by decide +kernel, rfl, by decide⟩
theorem dX4_isTold_12 : zD cX4_isTold 12 (.iconst 1) 1 13 := ⟨by decide +kernel, rfl⟩
theorem dX4_isTold_13 : zJ cX4_isTold 13 .goto 16 17 := ⟨4, by decide +kernel, rfl, by decide⟩
theorem dX4_isTold_16 : zD cX4_isTold 16 (.iconst 0) 1 17 := ⟨by decide +kernel, rfl⟩
theorem dX4_isTold_17 : zD cX4_isTold 17 .ireturn 1 18 := ⟨by decide +kernel, rfl⟩
theorem dX4_hasChild_0 : zD cX4_hasChild 0 (.aload_n 0) 1 1 := ⟨by decide +kernel, rfl⟩
theorem dX4_hasChild_1 : zD cX4_hasChild 1 (.iload_n 1) 1 2 := ⟨by decide +kernel, rfl⟩
theorem dX4_hasChild_2 : zD cX4_hasChild 2 (.invokevirtual 54) 3 5 := ⟨by decide +kernel, rfl⟩
theorem dX4_hasChild_5 : zJ cX4_hasChild 5 (.ifCond .eq) 8 22 := ⟨17, by decide +kernel, rfl, by decide⟩
theorem dX4_hasChild_8 : zD cX4_hasChild 8 (.aload_n 0) 1 9 := ⟨by decide +kernel, rfl⟩
theorem dX4_hasChild_9 : zD cX4_hasChild 9 (.getfield 15) 3 12 := ⟨by decide +kernel, rfl⟩
theorem dX4_hasChild_12 : zD cX4_hasChild 12 (.iload_n 1) 1 13 := ⟨by decide +kernel, rfl⟩
theorem dX4_hasChild_13 : zD cX4_hasChild 13 .iaload 1 14 := ⟨by decide +kernel, rfl⟩
theorem dX4_hasChild_14 : zD cX4_hasChild 14 (.iconst 1) 1 15 := ⟨by decide +kernel, rfl⟩
theorem dX4_hasChild_15 : zJ cX4_hasChild 15 (.if_icmp .ne) 18 22 := ⟨7, by decide +kernel, rfl, by decide⟩
theorem dX4_hasChild_18 : zD cX4_hasChild 18 (.iconst 1) 1 19 := ⟨by decide +kernel, rfl⟩
theorem dX4_hasChild_19 : zJ cX4_hasChild 19 .goto 22 23 := ⟨4, by decide +kernel, rfl, by decide⟩
theorem dX4_hasChild_22 : zD cX4_hasChild 22 (.iconst 0) 1 23 := ⟨by decide +kernel, rfl⟩
theorem dX4_hasChild_23 : zD cX4_hasChild 23 .ireturn 1 24 := ⟨by decide +kernel, rfl⟩
theorem dX4_take_0 : zD cX4_take 0 (.iload_n 1) 1 1 := ⟨by decide +kernel, rfl⟩
theorem dX4_take_1 : zD cX4_take 1 (.tableswitch 166 98 115 #[143, 96, 166, 166, 166, 166, 166, 166, 166, 166, 150, 166, 166, 166, 87, 126, 166, 119]) 87 88 := ⟨by decide +kernel, rfl⟩
theorem dX4_take_88 : zD cX4_take 88 (.aload_n 0) 1 89 := ⟨by decide +kernel, rfl⟩
theorem dX4_take_89 : zD cX4_take 89 (.iload_n 2) 1 90 := ⟨by decide +kernel, rfl⟩
theorem dX4_take_90 : zD cX4_take 90 (.iload_n 3) 1 91 := ⟨by decide +kernel, rfl⟩
theorem dX4_take_91 : zD cX4_take 91 (.iload 4) 2 93 := ⟨by decide +kernel, rfl⟩
theorem dX4_take_93 : zD cX4_take 93 (.invokevirtual 58) 3 96 := ⟨by decide +kernel, rfl⟩
theorem dX4_take_96 : zD cX4_take 96 .ireturn 1 97 := ⟨by decide +kernel, rfl⟩
theorem dX4_take_97 : zD cX4_take 97 (.aload_n 0) 1 98 := ⟨by decide +kernel, rfl⟩
theorem dX4_take_98 : zD cX4_take 98 (.iload_n 2) 1 99 := ⟨by decide +kernel, rfl⟩
theorem dX4_take_99 : zD cX4_take 99 (.invokevirtual 62) 3 102 := ⟨by decide +kernel, rfl⟩
theorem dX4_take_102 : zJ cX4_take 102 (.ifCond .eq) 105 118 := ⟨16, by decide +kernel, rfl, by decide⟩
theorem dX4_take_105 : zD cX4_take 105 (.aload_n 0) 1 106 := ⟨by decide +kernel, rfl⟩
theorem dX4_take_106 : zD cX4_take 106 (.iload_n 2) 1 107 := ⟨by decide +kernel, rfl⟩
theorem dX4_take_107 : zD cX4_take 107 (.iload_n 3) 1 108 := ⟨by decide +kernel, rfl⟩
theorem dX4_take_108 : zD cX4_take 108 (.invokevirtual 65) 3 111 := ⟨by decide +kernel, rfl⟩
theorem dX4_take_111 : zJ cX4_take 111 (.ifCond .eq) 114 118 := ⟨7, by decide +kernel, rfl, by decide⟩
theorem dX4_take_114 : zD cX4_take 114 (.iconst 1) 1 115 := ⟨by decide +kernel, rfl⟩
theorem dX4_take_115 : zJ cX4_take 115 .goto 118 119 := ⟨4, by decide +kernel, rfl, by decide⟩
theorem dX4_take_118 : zD cX4_take 118 (.iconst 0) 1 119 := ⟨by decide +kernel, rfl⟩
theorem dX4_take_119 : zD cX4_take 119 .ireturn 1 120 := ⟨by decide +kernel, rfl⟩
theorem dX4_take_120 : zD cX4_take 120 (.aload_n 0) 1 121 := ⟨by decide +kernel, rfl⟩
theorem dX4_take_121 : zD cX4_take 121 (.iload_n 2) 1 122 := ⟨by decide +kernel, rfl⟩
theorem dX4_take_122 : zD cX4_take 122 (.iload_n 3) 1 123 := ⟨by decide +kernel, rfl⟩
theorem dX4_take_123 : zD cX4_take 123 (.invokevirtual 69) 3 126 := ⟨by decide +kernel, rfl⟩
theorem dX4_take_126 : zD cX4_take 126 .ireturn 1 127 := ⟨by decide +kernel, rfl⟩
theorem dX4_take_127 : zD cX4_take 127 (.aload_n 0) 1 128 := ⟨by decide +kernel, rfl⟩
theorem dX4_take_128 : zD cX4_take 128 (.iload_n 2) 1 129 := ⟨by decide +kernel, rfl⟩
theorem dX4_take_129 : zD cX4_take 129 (.putfield 39) 3 132 := ⟨by decide +kernel, rfl⟩
theorem dX4_take_132 : zD cX4_take 132 (.iload_n 2) 1 133 := ⟨by decide +kernel, rfl⟩
theorem dX4_take_133 : zD cX4_take 133 (.bipush 30) 2 135 := ⟨by decide +kernel, rfl⟩
theorem dX4_take_135 : zJ cX4_take 135 (.if_icmp .gt) 138 142 := ⟨7, by decide +kernel, rfl, by decide⟩
theorem dX4_take_138 : zD cX4_take 138 (.iconst 1) 1 139 := ⟨by decide +kernel, rfl⟩
theorem dX4_take_139 : zJ cX4_take 139 .goto 142 143 := ⟨4, by decide +kernel, rfl, by decide⟩
theorem dX4_take_142 : zD cX4_take 142 (.iconst 0) 1 143 := ⟨by decide +kernel, rfl⟩
theorem dX4_take_143 : zD cX4_take 143 .ireturn 1 144 := ⟨by decide +kernel, rfl⟩
theorem dX4_take_144 : zD cX4_take 144 (.aload_n 0) 1 145 := ⟨by decide +kernel, rfl⟩
theorem dX4_take_145 : zD cX4_take 145 (.iload_n 2) 1 146 := ⟨by decide +kernel, rfl⟩
theorem dX4_take_146 : zD cX4_take 146 (.putfield 48) 3 149 := ⟨by decide +kernel, rfl⟩
theorem dX4_take_149 : zD cX4_take 149 (.iconst 1) 1 150 := ⟨by decide +kernel, rfl⟩
theorem dX4_take_150 : zD cX4_take 150 .ireturn 1 151 := ⟨by decide +kernel, rfl⟩
theorem dX4_take_151 : zD cX4_take 151 (.aload_n 0) 1 152 := ⟨by decide +kernel, rfl⟩
theorem dX4_take_152 : zD cX4_take 152 (.iload_n 2) 1 153 := ⟨by decide +kernel, rfl⟩
theorem dX4_take_153 : zD cX4_take 153 (.putfield 51) 3 156 := ⟨by decide +kernel, rfl⟩
theorem dX4_take_156 : zD cX4_take 156 (.iload_n 2) 1 157 := ⟨by decide +kernel, rfl⟩
theorem dX4_take_157 : zD cX4_take 157 (.iconst 3) 1 158 := ⟨by decide +kernel, rfl⟩
theorem dX4_take_158 : zJ cX4_take 158 (.if_icmp .gt) 161 165 := ⟨7, by decide +kernel, rfl, by decide⟩
theorem dX4_take_161 : zD cX4_take 161 (.iconst 1) 1 162 := ⟨by decide +kernel, rfl⟩
theorem dX4_take_162 : zJ cX4_take 162 .goto 165 166 := ⟨4, by decide +kernel, rfl, by decide⟩
theorem dX4_take_165 : zD cX4_take 165 (.iconst 0) 1 166 := ⟨by decide +kernel, rfl⟩
theorem dX4_take_166 : zD cX4_take 166 .ireturn 1 167 := ⟨by decide +kernel, rfl⟩
theorem dX4_take_167 : zD cX4_take 167 (.iconst 0) 1 168 := ⟨by decide +kernel, rfl⟩
theorem dX4_take_168 : zD cX4_take 168 .ireturn 1 169 := ⟨by decide +kernel, rfl⟩
theorem dX4_addPerson_0 : zD cX4_addPerson 0 (.aload_n 0) 1 1 := ⟨by decide +kernel, rfl⟩
theorem dX4_addPerson_1 : zD cX4_addPerson 1 (.getfield 34) 3 4 := ⟨by decide +kernel, rfl⟩
theorem dX4_addPerson_4 : zD cX4_addPerson 4 (.bipush 10) 2 6 := ⟨by decide +kernel, rfl⟩
theorem dX4_addPerson_6 : zJ cX4_addPerson 6 (.if_icmp .ge) 9 19 := ⟨13, by decide +kernel, rfl, by decide⟩
theorem dX4_addPerson_9 : zD cX4_addPerson 9 (.iload_n 2) 1 10 := ⟨by decide +kernel, rfl⟩
theorem dX4_addPerson_10 : zD cX4_addPerson 10 (.iconst 1) 1 11 := ⟨by decide +kernel, rfl⟩
theorem dX4_addPerson_11 : zJ cX4_addPerson 11 (.if_icmp .gt) 14 19 := ⟨8, by decide +kernel, rfl, by decide⟩
theorem dX4_addPerson_14 : zD cX4_addPerson 14 (.iload_n 3) 1 15 := ⟨by decide +kernel, rfl⟩
theorem dX4_addPerson_15 : zD cX4_addPerson 15 (.iconst 1) 1 16 := ⟨by decide +kernel, rfl⟩
theorem dX4_addPerson_16 : zJ cX4_addPerson 16 (.if_icmp .ge) 19 21 := ⟨5, by decide +kernel, rfl, by decide⟩
theorem dX4_addPerson_19 : zD cX4_addPerson 19 (.iconst 0) 1 20 := ⟨by decide +kernel, rfl⟩
theorem dX4_addPerson_20 : zD cX4_addPerson 20 .ireturn 1 21 := ⟨by decide +kernel, rfl⟩
theorem dX4_addPerson_21 : zD cX4_addPerson 21 (.aload_n 0) 1 22 := ⟨by decide +kernel, rfl⟩
theorem dX4_addPerson_22 : zD cX4_addPerson 22 (.getfield 9) 3 25 := ⟨by decide +kernel, rfl⟩
theorem dX4_addPerson_25 : zD cX4_addPerson 25 (.aload_n 0) 1 26 := ⟨by decide +kernel, rfl⟩
theorem dX4_addPerson_26 : zD cX4_addPerson 26 (.getfield 34) 3 29 := ⟨by decide +kernel, rfl⟩
theorem dX4_addPerson_29 : zD cX4_addPerson 29 (.iload_n 1) 1 30 := ⟨by decide +kernel, rfl⟩
theorem dX4_addPerson_30 : zD cX4_addPerson 30 .iastore 1 31 := ⟨by decide +kernel, rfl⟩
theorem dX4_addPerson_31 : zD cX4_addPerson 31 (.aload_n 0) 1 32 := ⟨by decide +kernel, rfl⟩
theorem dX4_addPerson_32 : zD cX4_addPerson 32 (.getfield 15) 3 35 := ⟨by decide +kernel, rfl⟩
theorem dX4_addPerson_35 : zD cX4_addPerson 35 (.aload_n 0) 1 36 := ⟨by decide +kernel, rfl⟩
theorem dX4_addPerson_36 : zD cX4_addPerson 36 (.getfield 34) 3 39 := ⟨by decide +kernel, rfl⟩
theorem dX4_addPerson_39 : zD cX4_addPerson 39 (.iload_n 2) 1 40 := ⟨by decide +kernel, rfl⟩
theorem dX4_addPerson_40 : zD cX4_addPerson 40 .iastore 1 41 := ⟨by decide +kernel, rfl⟩
theorem dX4_addPerson_41 : zD cX4_addPerson 41 (.aload_n 0) 1 42 := ⟨by decide +kernel, rfl⟩
theorem dX4_addPerson_42 : zD cX4_addPerson 42 (.getfield 18) 3 45 := ⟨by decide +kernel, rfl⟩
theorem dX4_addPerson_45 : zD cX4_addPerson 45 (.aload_n 0) 1 46 := ⟨by decide +kernel, rfl⟩
theorem dX4_addPerson_46 : zD cX4_addPerson 46 (.getfield 34) 3 49 := ⟨by decide +kernel, rfl⟩
theorem dX4_addPerson_49 : zD cX4_addPerson 49 (.iload_n 3) 1 50 := ⟨by decide +kernel, rfl⟩
theorem dX4_addPerson_50 : zD cX4_addPerson 50 .iastore 1 51 := ⟨by decide +kernel, rfl⟩
theorem dX4_addPerson_51 : zD cX4_addPerson 51 (.aload_n 0) 1 52 := ⟨by decide +kernel, rfl⟩
theorem dX4_addPerson_52 : zD cX4_addPerson 52 (.getfield 34) 3 55 := ⟨by decide +kernel, rfl⟩
theorem dX4_addPerson_55 : zD cX4_addPerson 55 (.istore 4) 2 57 := ⟨by decide +kernel, rfl⟩
theorem dX4_addPerson_57 : zD cX4_addPerson 57 (.iload 4) 2 59 := ⟨by decide +kernel, rfl⟩
theorem dX4_addPerson_59 : zJ cX4_addPerson 59 (.ifCond .le) 62 102 := ⟨43, by decide +kernel, rfl, by decide⟩
theorem dX4_addPerson_62 : zD cX4_addPerson 62 (.aload_n 0) 1 63 := ⟨by decide +kernel, rfl⟩
theorem dX4_addPerson_63 : zD cX4_addPerson 63 (.getfield 9) 3 66 := ⟨by decide +kernel, rfl⟩
theorem dX4_addPerson_66 : zD cX4_addPerson 66 (.aload_n 0) 1 67 := ⟨by decide +kernel, rfl⟩
theorem dX4_addPerson_67 : zD cX4_addPerson 67 (.getfield 21) 3 70 := ⟨by decide +kernel, rfl⟩
theorem dX4_addPerson_70 : zD cX4_addPerson 70 (.iload 4) 2 72 := ⟨by decide +kernel, rfl⟩
theorem dX4_addPerson_72 : zD cX4_addPerson 72 (.iconst 1) 1 73 := ⟨by decide +kernel, rfl⟩
theorem dX4_addPerson_73 : zD cX4_addPerson 73 .isub 1 74 := ⟨by decide +kernel, rfl⟩
theorem dX4_addPerson_74 : zD cX4_addPerson 74 .iaload 1 75 := ⟨by decide +kernel, rfl⟩
theorem dX4_addPerson_75 : zD cX4_addPerson 75 .iaload 1 76 := ⟨by decide +kernel, rfl⟩
theorem dX4_addPerson_76 : zD cX4_addPerson 76 (.iload_n 1) 1 77 := ⟨by decide +kernel, rfl⟩
theorem dX4_addPerson_77 : zJ cX4_addPerson 77 (.if_icmp .le) 80 102 := ⟨25, by decide +kernel, rfl, by decide⟩
theorem dX4_addPerson_80 : zD cX4_addPerson 80 (.aload_n 0) 1 81 := ⟨by decide +kernel, rfl⟩
theorem dX4_addPerson_81 : zD cX4_addPerson 81 (.getfield 21) 3 84 := ⟨by decide +kernel, rfl⟩
theorem dX4_addPerson_84 : zD cX4_addPerson 84 (.iload 4) 2 86 := ⟨by decide +kernel, rfl⟩
theorem dX4_addPerson_86 : zD cX4_addPerson 86 (.aload_n 0) 1 87 := ⟨by decide +kernel, rfl⟩
theorem dX4_addPerson_87 : zD cX4_addPerson 87 (.getfield 21) 3 90 := ⟨by decide +kernel, rfl⟩
theorem dX4_addPerson_90 : zD cX4_addPerson 90 (.iload 4) 2 92 := ⟨by decide +kernel, rfl⟩
theorem dX4_addPerson_92 : zD cX4_addPerson 92 (.iconst 1) 1 93 := ⟨by decide +kernel, rfl⟩
theorem dX4_addPerson_93 : zD cX4_addPerson 93 .isub 1 94 := ⟨by decide +kernel, rfl⟩
theorem dX4_addPerson_94 : zD cX4_addPerson 94 .iaload 1 95 := ⟨by decide +kernel, rfl⟩
theorem dX4_addPerson_95 : zD cX4_addPerson 95 .iastore 1 96 := ⟨by decide +kernel, rfl⟩
theorem dX4_addPerson_96 : zD cX4_addPerson 96 (.iinc 4 (-1)) 3 99 := ⟨by decide +kernel, rfl⟩
theorem dX4_addPerson_99 : zJ cX4_addPerson 99 .goto 102 57 := ⟨-42, by decide +kernel, rfl, by decide⟩
theorem dX4_addPerson_102 : zD cX4_addPerson 102 (.aload_n 0) 1 103 := ⟨by decide +kernel, rfl⟩
theorem dX4_addPerson_103 : zD cX4_addPerson 103 (.getfield 21) 3 106 := ⟨by decide +kernel, rfl⟩
theorem dX4_addPerson_106 : zD cX4_addPerson 106 (.iload 4) 2 108 := ⟨by decide +kernel, rfl⟩
theorem dX4_addPerson_108 : zD cX4_addPerson 108 (.aload_n 0) 1 109 := ⟨by decide +kernel, rfl⟩
theorem dX4_addPerson_109 : zD cX4_addPerson 109 (.getfield 34) 3 112 := ⟨by decide +kernel, rfl⟩
theorem dX4_addPerson_112 : zD cX4_addPerson 112 .iastore 1 113 := ⟨by decide +kernel, rfl⟩
theorem dX4_addPerson_113 : zD cX4_addPerson 113 (.aload_n 0) 1 114 := ⟨by decide +kernel, rfl⟩
theorem dX4_addPerson_114 : zD cX4_addPerson 114 .dup 1 115 := ⟨by decide +kernel, rfl⟩
theorem dX4_addPerson_115 : zD cX4_addPerson 115 (.getfield 34) 3 118 := ⟨by decide +kernel, rfl⟩
theorem dX4_addPerson_118 : zD cX4_addPerson 118 (.iconst 1) 1 119 := ⟨by decide +kernel, rfl⟩
theorem dX4_addPerson_119 : zD cX4_addPerson 119 .iadd 1 120 := ⟨by decide +kernel, rfl⟩
theorem dX4_addPerson_120 : zD cX4_addPerson 120 (.putfield 34) 3 123 := ⟨by decide +kernel, rfl⟩
theorem dX4_addPerson_123 : zD cX4_addPerson 123 (.iconst 1) 1 124 := ⟨by decide +kernel, rfl⟩
theorem dX4_addPerson_124 : zD cX4_addPerson 124 .ireturn 1 125 := ⟨by decide +kernel, rfl⟩
theorem dX4_addCry_0 : zD cX4_addCry 0 (.aload_n 0) 1 1 := ⟨by decide +kernel, rfl⟩
theorem dX4_addCry_1 : zD cX4_addCry 1 (.getfield 27) 3 4 := ⟨by decide +kernel, rfl⟩
theorem dX4_addCry_4 : zD cX4_addCry 4 (.iload_n 1) 1 5 := ⟨by decide +kernel, rfl⟩
theorem dX4_addCry_5 : zD cX4_addCry 5 (.iload_n 2) 1 6 := ⟨by decide +kernel, rfl⟩
theorem dX4_addCry_6 : zD cX4_addCry 6 (.invokevirtual 72) 3 9 := ⟨by decide +kernel, rfl⟩
theorem dX4_addCry_9 : zD cX4_addCry 9 .ireturn 1 10 := ⟨by decide +kernel, rfl⟩
theorem dX4_setService_0 : zD cX4_setService 0 (.aload_n 0) 1 1 := ⟨by decide +kernel, rfl⟩
theorem dX4_setService_1 : zD cX4_setService 1 (.iload_n 1) 1 2 := ⟨by decide +kernel, rfl⟩
theorem dX4_setService_2 : zD cX4_setService 2 (.putfield 42) 3 5 := ⟨by decide +kernel, rfl⟩
theorem dX4_setService_5 : zD cX4_setService 5 (.aload_n 0) 1 6 := ⟨by decide +kernel, rfl⟩
theorem dX4_setService_6 : zD cX4_setService 6 (.iload_n 2) 1 7 := ⟨by decide +kernel, rfl⟩
theorem dX4_setService_7 : zD cX4_setService 7 (.putfield 45) 3 10 := ⟨by decide +kernel, rfl⟩
theorem dX4_setService_10 : zD cX4_setService 10 (.iload_n 1) 1 11 := ⟨by decide +kernel, rfl⟩
theorem dX4_setService_11 : zD cX4_setService 11 (.iconst 1) 1 12 := ⟨by decide +kernel, rfl⟩
theorem dX4_setService_12 : zJ cX4_setService 12 (.if_icmp .lt) 15 36 := ⟨24, by decide +kernel, rfl, by decide⟩
theorem dX4_setService_15 : zD cX4_setService 15 (.iload_n 1) 1 16 := ⟨by decide +kernel, rfl⟩
theorem dX4_setService_16 : zD cX4_setService 16 (.bipush 9) 2 18 := ⟨by decide +kernel, rfl⟩
theorem dX4_setService_18 : zJ cX4_setService 18 (.if_icmp .gt) 21 36 := ⟨18, by decide +kernel, rfl, by decide⟩
theorem dX4_setService_21 : zD cX4_setService 21 (.iload_n 2) 1 22 := ⟨by decide +kernel, rfl⟩
theorem dX4_setService_22 : zD cX4_setService 22 (.iconst 1) 1 23 := ⟨by decide +kernel, rfl⟩
theorem dX4_setService_23 : zJ cX4_setService 23 (.if_icmp .lt) 26 36 := ⟨13, by decide +kernel, rfl, by decide⟩
theorem dX4_setService_26 : zD cX4_setService 26 (.iload_n 2) 1 27 := ⟨by decide +kernel, rfl⟩
theorem dX4_setService_27 : zD cX4_setService 27 (.bipush 9) 2 29 := ⟨by decide +kernel, rfl⟩
theorem dX4_setService_29 : zJ cX4_setService 29 (.if_icmp .gt) 32 36 := ⟨7, by decide +kernel, rfl, by decide⟩
theorem dX4_setService_32 : zD cX4_setService 32 (.iconst 1) 1 33 := ⟨by decide +kernel, rfl⟩
theorem dX4_setService_33 : zJ cX4_setService 33 .goto 36 37 := ⟨4, by decide +kernel, rfl, by decide⟩
theorem dX4_setService_36 : zD cX4_setService 36 (.iconst 0) 1 37 := ⟨by decide +kernel, rfl⟩
theorem dX4_setService_37 : zD cX4_setService 37 .ireturn 1 38 := ⟨by decide +kernel, rfl⟩
theorem dX5_init_0 : zD cX5_init 0 (.aload_n 0) 1 1 := ⟨by decide +kernel, rfl⟩
theorem dX5_init_1 : zD cX5_init 1 (.invokespecial 3) 3 4 := ⟨by decide +kernel, rfl⟩
theorem dX5_init_4 : zD cX5_init 4 (.aload_n 0) 1 5 := ⟨by decide +kernel, rfl⟩
theorem dX5_init_5 : zD cX5_init 5 (.new 9) 3 8 := ⟨by decide +kernel, rfl⟩
theorem dX5_init_8 : zD cX5_init 8 .dup 1 9 := ⟨by decide +kernel, rfl⟩
theorem dX5_init_9 : zD cX5_init 9 (.invokespecial 11) 3 12 := ⟨by decide +kernel, rfl⟩
theorem dX5_init_12 : zD cX5_init 12 (.putfield 12) 3 15 := ⟨by decide +kernel, rfl⟩
theorem dX5_init_15 : zD cX5_init 15 (.aload_n 0) 1 16 := ⟨by decide +kernel, rfl⟩
theorem dX5_init_16 : zD cX5_init 16 (.sipush 144) 3 19 := ⟨by decide +kernel, rfl⟩
theorem dX5_init_19 : zD cX5_init 19 (.newarray .int) 2 21 := ⟨by decide +kernel, rfl⟩
theorem dX5_init_21 : zD cX5_init 21 (.putfield 18) 3 24 := ⟨by decide +kernel, rfl⟩
theorem dX5_init_24 : zD cX5_init 24 (.aload_n 0) 1 25 := ⟨by decide +kernel, rfl⟩
theorem dX5_init_25 : zD cX5_init 25 (.sipush 144) 3 28 := ⟨by decide +kernel, rfl⟩
theorem dX5_init_28 : zD cX5_init 28 (.newarray .int) 2 30 := ⟨by decide +kernel, rfl⟩
theorem dX5_init_30 : zD cX5_init 30 (.putfield 22) 3 33 := ⟨by decide +kernel, rfl⟩
theorem dX5_init_33 : zD cX5_init 33 .return_ 1 34 := ⟨by decide +kernel, rfl⟩
theorem dX5_timeWithout_0 : zD cX5_timeWithout 0 (.aload_n 0) 1 1 := ⟨by decide +kernel, rfl⟩
theorem dX5_timeWithout_1 : zD cX5_timeWithout 1 (.getfield 12) 3 4 := ⟨by decide +kernel, rfl⟩
theorem dX5_timeWithout_4 : zD cX5_timeWithout 4 (.aload_n 1) 1 5 := ⟨by decide +kernel, rfl⟩
theorem dX5_timeWithout_5 : zD cX5_timeWithout 5 (.invokevirtual 25) 3 8 := ⟨by decide +kernel, rfl⟩
theorem dX5_timeWithout_8 : zD cX5_timeWithout 8 (.aload_n 0) 1 9 := ⟨by decide +kernel, rfl⟩
theorem dX5_timeWithout_9 : zD cX5_timeWithout 9 (.getfield 12) 3 12 := ⟨by decide +kernel, rfl⟩
theorem dX5_timeWithout_12 : zD cX5_timeWithout 12 (.iload_n 3) 1 13 := ⟨by decide +kernel, rfl⟩
theorem dX5_timeWithout_13 : zD cX5_timeWithout 13 (.putfield 29) 3 16 := ⟨by decide +kernel, rfl⟩
theorem dX5_timeWithout_16 : zD cX5_timeWithout 16 (.aload_n 0) 1 17 := ⟨by decide +kernel, rfl⟩
theorem dX5_timeWithout_17 : zD cX5_timeWithout 17 (.getfield 12) 3 20 := ⟨by decide +kernel, rfl⟩
theorem dX5_timeWithout_20 : zD cX5_timeWithout 20 (.sipush 199) 3 23 := ⟨by decide +kernel, rfl⟩
theorem dX5_timeWithout_23 : zD cX5_timeWithout 23 (.invokevirtual 33) 3 26 := ⟨by decide +kernel, rfl⟩
theorem dX5_timeWithout_26 : zD cX5_timeWithout 26 (.aload_n 0) 1 27 := ⟨by decide +kernel, rfl⟩
theorem dX5_timeWithout_27 : zD cX5_timeWithout 27 (.getfield 12) 3 30 := ⟨by decide +kernel, rfl⟩
theorem dX5_timeWithout_30 : zD cX5_timeWithout 30 (.iload_n 2) 1 31 := ⟨by decide +kernel, rfl⟩
theorem dX5_timeWithout_31 : zD cX5_timeWithout 31 (.invokevirtual 37) 3 34 := ⟨by decide +kernel, rfl⟩
theorem dX5_timeWithout_34 : zD cX5_timeWithout 34 .ireturn 1 35 := ⟨by decide +kernel, rfl⟩
theorem dX5_gainedBy_0 : zD cX5_gainedBy 0 (.aload_n 1) 1 1 := ⟨by decide +kernel, rfl⟩
theorem dX5_gainedBy_1 : zD cX5_gainedBy 1 (.getfield 41) 3 4 := ⟨by decide +kernel, rfl⟩
theorem dX5_gainedBy_4 : zD cX5_gainedBy 4 (.getfield 47) 3 7 := ⟨by decide +kernel, rfl⟩
theorem dX5_gainedBy_7 : zD cX5_gainedBy 7 (.iload_n 2) 1 8 := ⟨by decide +kernel, rfl⟩
theorem dX5_gainedBy_8 : zD cX5_gainedBy 8 .iaload 1 9 := ⟨by decide +kernel, rfl⟩
theorem dX5_gainedBy_9 : zD cX5_gainedBy 9 (.istore_n 3) 1 10 := ⟨by decide +kernel, rfl⟩
theorem dX5_gainedBy_10 : zD cX5_gainedBy 10 (.aload_n 0) 1 11 := ⟨by decide +kernel, rfl⟩
theorem dX5_gainedBy_11 : zD cX5_gainedBy 11 (.aload_n 1) 1 12 := ⟨by decide +kernel, rfl⟩
theorem dX5_gainedBy_12 : zD cX5_gainedBy 12 (.iload_n 3) 1 13 := ⟨by decide +kernel, rfl⟩
theorem dX5_gainedBy_13 : zD cX5_gainedBy 13 (.iconst 1) 1 14 := ⟨by decide +kernel, rfl⟩
theorem dX5_gainedBy_14 : zD cX5_gainedBy 14 (.iload_n 2) 1 15 := ⟨by decide +kernel, rfl⟩
theorem dX5_gainedBy_15 : zD cX5_gainedBy 15 .ishl 1 16 := ⟨by decide +kernel, rfl⟩
theorem dX5_gainedBy_16 : zD cX5_gainedBy 16 (.invokevirtual 52) 3 19 := ⟨by decide +kernel, rfl⟩
theorem dX5_gainedBy_19 : zD cX5_gainedBy 19 (.aload_n 0) 1 20 := ⟨by decide +kernel, rfl⟩
theorem dX5_gainedBy_20 : zD cX5_gainedBy 20 (.aload_n 1) 1 21 := ⟨by decide +kernel, rfl⟩
theorem dX5_gainedBy_21 : zD cX5_gainedBy 21 (.iload_n 3) 1 22 := ⟨by decide +kernel, rfl⟩
theorem dX5_gainedBy_22 : zD cX5_gainedBy 22 (.iconst 0) 1 23 := ⟨by decide +kernel, rfl⟩
theorem dX5_gainedBy_23 : zD cX5_gainedBy 23 (.invokevirtual 52) 3 26 := ⟨by decide +kernel, rfl⟩
theorem dX5_gainedBy_26 : zD cX5_gainedBy 26 .isub 1 27 := ⟨by decide +kernel, rfl⟩
theorem dX5_gainedBy_27 : zD cX5_gainedBy 27 (.sipush 200) 3 30 := ⟨by decide +kernel, rfl⟩
theorem dX5_gainedBy_30 : zD cX5_gainedBy 30 .iadd 1 31 := ⟨by decide +kernel, rfl⟩
theorem dX5_gainedBy_31 : zD cX5_gainedBy 31 .ireturn 1 32 := ⟨by decide +kernel, rfl⟩
theorem dX5_mostGained_0 : zD cX5_mostGained 0 (.bipush (-4)) 2 2 := ⟨by decide +kernel, rfl⟩
theorem dX5_mostGained_2 : zD cX5_mostGained 2 (.istore_n 2) 1 3 := ⟨by decide +kernel, rfl⟩
theorem dX5_mostGained_3 : zD cX5_mostGained 3 (.iconst (-1)) 1 4 := ⟨by decide +kernel, rfl⟩
theorem dX5_mostGained_4 : zD cX5_mostGained 4 (.istore_n 3) 1 5 := ⟨by decide +kernel, rfl⟩
theorem dX5_mostGained_5 : zD cX5_mostGained 5 (.iconst 0) 1 6 := ⟨by decide +kernel, rfl⟩
theorem dX5_mostGained_6 : zD cX5_mostGained 6 (.istore 4) 2 8 := ⟨by decide +kernel, rfl⟩
theorem dX5_mostGained_8 : zD cX5_mostGained 8 (.iload 4) 2 10 := ⟨by decide +kernel, rfl⟩
theorem dX5_mostGained_10 : zD cX5_mostGained 10 (.aload_n 1) 1 11 := ⟨by decide +kernel, rfl⟩
theorem dX5_mostGained_11 : zD cX5_mostGained 11 (.getfield 41) 3 14 := ⟨by decide +kernel, rfl⟩
theorem dX5_mostGained_14 : zD cX5_mostGained 14 (.getfield 56) 3 17 := ⟨by decide +kernel, rfl⟩
theorem dX5_mostGained_17 : zJ cX5_mostGained 17 (.if_icmp .ge) 20 47 := ⟨30, by decide +kernel, rfl, by decide⟩
theorem dX5_mostGained_20 : zD cX5_mostGained 20 (.aload_n 0) 1 21 := ⟨by decide +kernel, rfl⟩
theorem dX5_mostGained_21 : zD cX5_mostGained 21 (.aload_n 1) 1 22 := ⟨by decide +kernel, rfl⟩
theorem dX5_mostGained_22 : zD cX5_mostGained 22 (.iload 4) 2 24 := ⟨by decide +kernel, rfl⟩
theorem dX5_mostGained_24 : zD cX5_mostGained 24 (.invokevirtual 59) 3 27 := ⟨by decide +kernel, rfl⟩
theorem dX5_mostGained_27 : zD cX5_mostGained 27 (.istore 5) 2 29 := ⟨by decide +kernel, rfl⟩
theorem dX5_mostGained_29 : zD cX5_mostGained 29 (.iload 5) 2 31 := ⟨by decide +kernel, rfl⟩
theorem dX5_mostGained_31 : zD cX5_mostGained 31 (.iload_n 3) 1 32 := ⟨by decide +kernel, rfl⟩
theorem dX5_mostGained_32 : zJ cX5_mostGained 32 (.if_icmp .le) 35 41 := ⟨9, by decide +kernel, rfl, by decide⟩
theorem dX5_mostGained_35 : zD cX5_mostGained 35 (.iload 5) 2 37 := ⟨by decide +kernel, rfl⟩
theorem dX5_mostGained_37 : zD cX5_mostGained 37 (.istore_n 3) 1 38 := ⟨by decide +kernel, rfl⟩
theorem dX5_mostGained_38 : zD cX5_mostGained 38 (.iload 4) 2 40 := ⟨by decide +kernel, rfl⟩
theorem dX5_mostGained_40 : zD cX5_mostGained 40 (.istore_n 2) 1 41 := ⟨by decide +kernel, rfl⟩
theorem dX5_mostGained_41 : zD cX5_mostGained 41 (.iinc 4 1) 3 44 := ⟨by decide +kernel, rfl⟩
theorem dX5_mostGained_44 : zJ cX5_mostGained 44 .goto 47 8 := ⟨-36, by decide +kernel, rfl, by decide⟩
theorem dX5_mostGained_47 : zD cX5_mostGained 47 (.iload_n 2) 1 48 := ⟨by decide +kernel, rfl⟩
theorem dX5_mostGained_48 : zD cX5_mostGained 48 .ireturn 1 49 := ⟨by decide +kernel, rfl⟩
theorem dX5_fewestHushed_0 : zD cX5_fewestHushed 0 (.iconst 1) 1 1 := ⟨by decide +kernel, rfl⟩
theorem dX5_fewestHushed_1 : zD cX5_fewestHushed 1 (.aload_n 1) 1 2 := ⟨by decide +kernel, rfl⟩
theorem dX5_fewestHushed_2 : zD cX5_fewestHushed 2 (.getfield 41) 3 5 := ⟨by decide +kernel, rfl⟩
theorem dX5_fewestHushed_5 : zD cX5_fewestHushed 5 (.getfield 56) 3 8 := ⟨by decide +kernel, rfl⟩
theorem dX5_fewestHushed_8 : zD cX5_fewestHushed 8 .ishl 1 9 := ⟨by decide +kernel, rfl⟩
theorem dX5_fewestHushed_9 : zD cX5_fewestHushed 9 (.istore 4) 2 11 := ⟨by decide +kernel, rfl⟩
theorem dX5_fewestHushed_11 : zD cX5_fewestHushed 11 (.iconst 0) 1 12 := ⟨by decide +kernel, rfl⟩
theorem dX5_fewestHushed_12 : zD cX5_fewestHushed 12 (.istore 5) 2 14 := ⟨by decide +kernel, rfl⟩
theorem dX5_fewestHushed_14 : zD cX5_fewestHushed 14 (.iload 5) 2 16 := ⟨by decide +kernel, rfl⟩
theorem dX5_fewestHushed_16 : zD cX5_fewestHushed 16 (.aload_n 1) 1 17 := ⟨by decide +kernel, rfl⟩
theorem dX5_fewestHushed_17 : zD cX5_fewestHushed 17 (.getfield 41) 3 20 := ⟨by decide +kernel, rfl⟩
theorem dX5_fewestHushed_20 : zD cX5_fewestHushed 20 (.getfield 56) 3 23 := ⟨by decide +kernel, rfl⟩
theorem dX5_fewestHushed_23 : zJ cX5_fewestHushed 23 (.if_icmp .gt) 26 73 := ⟨50, by decide +kernel, rfl, by decide⟩
theorem dX5_fewestHushed_26 : zD cX5_fewestHushed 26 (.iconst 0) 1 27 := ⟨by decide +kernel, rfl⟩
theorem dX5_fewestHushed_27 : zD cX5_fewestHushed 27 (.istore 6) 2 29 := ⟨by decide +kernel, rfl⟩
theorem dX5_fewestHushed_29 : zD cX5_fewestHushed 29 (.iload 6) 2 31 := ⟨by decide +kernel, rfl⟩
theorem dX5_fewestHushed_31 : zD cX5_fewestHushed 31 (.iload 4) 2 33 := ⟨by decide +kernel, rfl⟩
theorem dX5_fewestHushed_33 : zJ cX5_fewestHushed 33 (.if_icmp .ge) 36 67 := ⟨34, by decide +kernel, rfl, by decide⟩
theorem dX5_fewestHushed_36 : zD cX5_fewestHushed 36 (.iload 6) 2 38 := ⟨by decide +kernel, rfl⟩
theorem dX5_fewestHushed_38 : zD cX5_fewestHushed 38 (.invokestatic 63) 3 41 := ⟨by decide +kernel, rfl⟩
theorem dX5_fewestHushed_41 : zD cX5_fewestHushed 41 (.iload 5) 2 43 := ⟨by decide +kernel, rfl⟩
theorem dX5_fewestHushed_43 : zJ cX5_fewestHushed 43 (.if_icmp .ne) 46 61 := ⟨18, by decide +kernel, rfl, by decide⟩
theorem dX5_fewestHushed_46 : zD cX5_fewestHushed 46 (.aload_n 0) 1 47 := ⟨by decide +kernel, rfl⟩
theorem dX5_fewestHushed_47 : zD cX5_fewestHushed 47 (.aload_n 1) 1 48 := ⟨by decide +kernel, rfl⟩
theorem dX5_fewestHushed_48 : zD cX5_fewestHushed 48 (.iload_n 2) 1 49 := ⟨by decide +kernel, rfl⟩
theorem dX5_fewestHushed_49 : zD cX5_fewestHushed 49 (.iload_n 3) 1 50 := ⟨by decide +kernel, rfl⟩
theorem dX5_fewestHushed_50 : zD cX5_fewestHushed 50 (.iload 6) 2 52 := ⟨by decide +kernel, rfl⟩
theorem dX5_fewestHushed_52 : zD cX5_fewestHushed 52 (.invokevirtual 68) 3 55 := ⟨by decide +kernel, rfl⟩
theorem dX5_fewestHushed_55 : zJ cX5_fewestHushed 55 (.ifCond .eq) 58 61 := ⟨6, by decide +kernel, rfl, by decide⟩
theorem dX5_fewestHushed_58 : zD cX5_fewestHushed 58 (.iload 6) 2 60 := ⟨by decide +kernel, rfl⟩
theorem dX5_fewestHushed_60 : zD cX5_fewestHushed 60 .ireturn 1 61 := ⟨by decide +kernel, rfl⟩
theorem dX5_fewestHushed_61 : zD cX5_fewestHushed 61 (.iinc 6 1) 3 64 := ⟨by decide +kernel, rfl⟩
theorem dX5_fewestHushed_64 : zJ cX5_fewestHushed 64 .goto 67 29 := ⟨-35, by decide +kernel, rfl, by decide⟩
theorem dX5_fewestHushed_67 : zD cX5_fewestHushed 67 (.iinc 5 1) 3 70 := ⟨by decide +kernel, rfl⟩
theorem dX5_fewestHushed_70 : zJ cX5_fewestHushed 70 .goto 73 14 := ⟨-56, by decide +kernel, rfl, by decide⟩
theorem dX5_fewestHushed_73 : zD cX5_fewestHushed 73 (.bipush (-4)) 2 75 := ⟨by decide +kernel, rfl⟩
theorem dX5_fewestHushed_75 : zD cX5_fewestHushed 75 .ireturn 1 76 := ⟨by decide +kernel, rfl⟩
theorem dX5_isServedBy_0 : zD cX5_isServedBy 0 (.aload_n 0) 1 1 := ⟨by decide +kernel, rfl⟩
theorem dX5_isServedBy_1 : zD cX5_isServedBy 1 (.getfield 12) 3 4 := ⟨by decide +kernel, rfl⟩
theorem dX5_isServedBy_4 : zD cX5_isServedBy 4 (.aload_n 1) 1 5 := ⟨by decide +kernel, rfl⟩
theorem dX5_isServedBy_5 : zD cX5_isServedBy 5 (.invokevirtual 25) 3 8 := ⟨by decide +kernel, rfl⟩
theorem dX5_isServedBy_8 : zD cX5_isServedBy 8 (.aload_n 0) 1 9 := ⟨by decide +kernel, rfl⟩
theorem dX5_isServedBy_9 : zD cX5_isServedBy 9 (.getfield 12) 3 12 := ⟨by decide +kernel, rfl⟩
theorem dX5_isServedBy_12 : zD cX5_isServedBy 12 (.iload 4) 2 14 := ⟨by decide +kernel, rfl⟩
theorem dX5_isServedBy_14 : zD cX5_isServedBy 14 (.putfield 29) 3 17 := ⟨by decide +kernel, rfl⟩
theorem dX5_isServedBy_17 : zD cX5_isServedBy 17 (.aload_n 0) 1 18 := ⟨by decide +kernel, rfl⟩
theorem dX5_isServedBy_18 : zD cX5_isServedBy 18 (.getfield 12) 3 21 := ⟨by decide +kernel, rfl⟩
theorem dX5_isServedBy_21 : zD cX5_isServedBy 21 (.iload_n 3) 1 22 := ⟨by decide +kernel, rfl⟩
theorem dX5_isServedBy_22 : zD cX5_isServedBy 22 (.invokevirtual 33) 3 25 := ⟨by decide +kernel, rfl⟩
theorem dX5_isServedBy_25 : zD cX5_isServedBy 25 (.aload_n 0) 1 26 := ⟨by decide +kernel, rfl⟩
theorem dX5_isServedBy_26 : zD cX5_isServedBy 26 (.getfield 12) 3 29 := ⟨by decide +kernel, rfl⟩
theorem dX5_isServedBy_29 : zD cX5_isServedBy 29 (.getfield 72) 3 32 := ⟨by decide +kernel, rfl⟩
theorem dX5_isServedBy_32 : zD cX5_isServedBy 32 (.iload_n 2) 1 33 := ⟨by decide +kernel, rfl⟩
theorem dX5_isServedBy_33 : zD cX5_isServedBy 33 .iaload 1 34 := ⟨by decide +kernel, rfl⟩
theorem dX5_isServedBy_34 : zJ cX5_isServedBy 34 (.ifCond .ne) 37 41 := ⟨7, by decide +kernel, rfl, by decide⟩
theorem dX5_isServedBy_37 : zD cX5_isServedBy 37 (.iconst 1) 1 38 := ⟨by decide +kernel, rfl⟩
theorem dX5_isServedBy_38 : zJ cX5_isServedBy 38 .goto 41 42 := ⟨4, by decide +kernel, rfl, by decide⟩
theorem dX5_isServedBy_41 : zD cX5_isServedBy 41 (.iconst 0) 1 42 := ⟨by decide +kernel, rfl⟩
theorem dX5_isServedBy_42 : zD cX5_isServedBy 42 .ireturn 1 43 := ⟨by decide +kernel, rfl⟩
theorem dX5_cryOnceMore_0 : zD cX5_cryOnceMore 0 (.aload_n 0) 1 1 := ⟨by decide +kernel, rfl⟩
theorem dX5_cryOnceMore_1 : zD cX5_cryOnceMore 1 (.aload_n 1) 1 2 := ⟨by decide +kernel, rfl⟩
theorem dX5_cryOnceMore_2 : zD cX5_cryOnceMore 2 (.iload_n 2) 1 3 := ⟨by decide +kernel, rfl⟩
theorem dX5_cryOnceMore_3 : zD cX5_cryOnceMore 3 (.iconst 0) 1 4 := ⟨by decide +kernel, rfl⟩
theorem dX5_cryOnceMore_4 : zD cX5_cryOnceMore 4 (.invokevirtual 52) 3 7 := ⟨by decide +kernel, rfl⟩
theorem dX5_cryOnceMore_7 : zD cX5_cryOnceMore 7 (.istore_n 3) 1 8 := ⟨by decide +kernel, rfl⟩
theorem dX5_cryOnceMore_8 : zD cX5_cryOnceMore 8 (.iload_n 3) 1 9 := ⟨by decide +kernel, rfl⟩
theorem dX5_cryOnceMore_9 : zD cX5_cryOnceMore 9 (.istore 4) 2 11 := ⟨by decide +kernel, rfl⟩
theorem dX5_cryOnceMore_11 : zD cX5_cryOnceMore 11 (.aload_n 0) 1 12 := ⟨by decide +kernel, rfl⟩
theorem dX5_cryOnceMore_12 : zD cX5_cryOnceMore 12 (.iconst 0) 1 13 := ⟨by decide +kernel, rfl⟩
theorem dX5_cryOnceMore_13 : zD cX5_cryOnceMore 13 (.putfield 75) 3 16 := ⟨by decide +kernel, rfl⟩
theorem dX5_cryOnceMore_16 : zD cX5_cryOnceMore 16 (.iconst 0) 1 17 := ⟨by decide +kernel, rfl⟩
theorem dX5_cryOnceMore_17 : zD cX5_cryOnceMore 17 (.istore 5) 2 19 := ⟨by decide +kernel, rfl⟩
theorem dX5_cryOnceMore_19 : zD cX5_cryOnceMore 19 (.iload 5) 2 21 := ⟨by decide +kernel, rfl⟩
theorem dX5_cryOnceMore_21 : zD cX5_cryOnceMore 21 (.bipush 100) 2 23 := ⟨by decide +kernel, rfl⟩
theorem dX5_cryOnceMore_23 : zJ cX5_cryOnceMore 23 (.if_icmp .ge) 26 90 := ⟨67, by decide +kernel, rfl, by decide⟩
theorem dX5_cryOnceMore_26 : zD cX5_cryOnceMore 26 (.aload_n 0) 1 27 := ⟨by decide +kernel, rfl⟩
theorem dX5_cryOnceMore_27 : zD cX5_cryOnceMore 27 (.getfield 12) 3 30 := ⟨by decide +kernel, rfl⟩
theorem dX5_cryOnceMore_30 : zD cX5_cryOnceMore 30 (.aload_n 1) 1 31 := ⟨by decide +kernel, rfl⟩
theorem dX5_cryOnceMore_31 : zD cX5_cryOnceMore 31 (.invokevirtual 25) 3 34 := ⟨by decide +kernel, rfl⟩
theorem dX5_cryOnceMore_34 : zD cX5_cryOnceMore 34 (.aload_n 0) 1 35 := ⟨by decide +kernel, rfl⟩
theorem dX5_cryOnceMore_35 : zD cX5_cryOnceMore 35 (.getfield 12) 3 38 := ⟨by decide +kernel, rfl⟩
theorem dX5_cryOnceMore_38 : zD cX5_cryOnceMore 38 (.iconst 0) 1 39 := ⟨by decide +kernel, rfl⟩
theorem dX5_cryOnceMore_39 : zD cX5_cryOnceMore 39 (.iload_n 2) 1 40 := ⟨by decide +kernel, rfl⟩
theorem dX5_cryOnceMore_40 : zD cX5_cryOnceMore 40 (.iload 5) 2 42 := ⟨by decide +kernel, rfl⟩
theorem dX5_cryOnceMore_42 : zD cX5_cryOnceMore 42 (.invokevirtual 78) 3 45 := ⟨by decide +kernel, rfl⟩
theorem dX5_cryOnceMore_45 : zD cX5_cryOnceMore 45 (.aload_n 0) 1 46 := ⟨by decide +kernel, rfl⟩
theorem dX5_cryOnceMore_46 : zD cX5_cryOnceMore 46 (.getfield 12) 3 49 := ⟨by decide +kernel, rfl⟩
theorem dX5_cryOnceMore_49 : zD cX5_cryOnceMore 49 (.sipush 199) 3 52 := ⟨by decide +kernel, rfl⟩
theorem dX5_cryOnceMore_52 : zD cX5_cryOnceMore 52 (.invokevirtual 33) 3 55 := ⟨by decide +kernel, rfl⟩
theorem dX5_cryOnceMore_55 : zD cX5_cryOnceMore 55 (.aload_n 0) 1 56 := ⟨by decide +kernel, rfl⟩
theorem dX5_cryOnceMore_56 : zD cX5_cryOnceMore 56 (.getfield 12) 3 59 := ⟨by decide +kernel, rfl⟩
theorem dX5_cryOnceMore_59 : zD cX5_cryOnceMore 59 (.iload_n 2) 1 60 := ⟨by decide +kernel, rfl⟩
theorem dX5_cryOnceMore_60 : zD cX5_cryOnceMore 60 (.invokevirtual 37) 3 63 := ⟨by decide +kernel, rfl⟩
theorem dX5_cryOnceMore_63 : zD cX5_cryOnceMore 63 (.iload 4) 2 65 := ⟨by decide +kernel, rfl⟩
theorem dX5_cryOnceMore_65 : zJ cX5_cryOnceMore 65 (.if_icmp .ge) 68 84 := ⟨19, by decide +kernel, rfl, by decide⟩
theorem dX5_cryOnceMore_68 : zD cX5_cryOnceMore 68 (.aload_n 0) 1 69 := ⟨by decide +kernel, rfl⟩
theorem dX5_cryOnceMore_69 : zD cX5_cryOnceMore 69 (.getfield 12) 3 72 := ⟨by decide +kernel, rfl⟩
theorem dX5_cryOnceMore_72 : zD cX5_cryOnceMore 72 (.iload_n 2) 1 73 := ⟨by decide +kernel, rfl⟩
theorem dX5_cryOnceMore_73 : zD cX5_cryOnceMore 73 (.invokevirtual 37) 3 76 := ⟨by decide +kernel, rfl⟩
theorem dX5_cryOnceMore_76 : zD cX5_cryOnceMore 76 (.istore 4) 2 78 := ⟨by decide +kernel, rfl⟩
theorem dX5_cryOnceMore_78 : zD cX5_cryOnceMore 78 (.aload_n 0) 1 79 := ⟨by decide +kernel, rfl⟩
theorem dX5_cryOnceMore_79 : zD cX5_cryOnceMore 79 (.iload 5) 2 81 := ⟨by decide +kernel, rfl⟩
theorem dX5_cryOnceMore_81 : zD cX5_cryOnceMore 81 (.putfield 75) 3 84 := ⟨by decide +kernel, rfl⟩
theorem dX5_cryOnceMore_84 : zD cX5_cryOnceMore 84 (.iinc 5 1) 3 87 := ⟨by decide +kernel, rfl⟩
theorem dX5_cryOnceMore_87 : zJ cX5_cryOnceMore 87 .goto 90 19 := ⟨-68, by decide +kernel, rfl, by decide⟩
theorem dX5_cryOnceMore_90 : zD cX5_cryOnceMore 90 (.aload_n 0) 1 91 := ⟨by decide +kernel, rfl⟩
theorem dX5_cryOnceMore_91 : zD cX5_cryOnceMore 91 (.iload_n 3) 1 92 := ⟨by decide +kernel, rfl⟩
theorem dX5_cryOnceMore_92 : zD cX5_cryOnceMore 92 (.iload 4) 2 94 := ⟨by decide +kernel, rfl⟩
theorem dX5_cryOnceMore_94 : zD cX5_cryOnceMore 94 .isub 1 95 := ⟨by decide +kernel, rfl⟩
theorem dX5_cryOnceMore_95 : zD cX5_cryOnceMore 95 (.putfield 82) 3 98 := ⟨by decide +kernel, rfl⟩
theorem dX5_cryOnceMore_98 : zD cX5_cryOnceMore 98 .return_ 1 99 := ⟨by decide +kernel, rfl⟩
theorem dX5_play_0 : zD cX5_play 0 (.iconst 0) 1 1 := ⟨by decide +kernel, rfl⟩
theorem dX5_play_1 : zD cX5_play 1 (.istore 4) 2 3 := ⟨by decide +kernel, rfl⟩
theorem dX5_play_3 : zD cX5_play 3 (.iload 4) 2 5 := ⟨by decide +kernel, rfl⟩
theorem dX5_play_5 : zD cX5_play 5 (.bipush 12) 2 7 := ⟨by decide +kernel, rfl⟩
theorem dX5_play_7 : zJ cX5_play 7 (.if_icmp .ge) 10 114 := ⟨107, by decide +kernel, rfl, by decide⟩
theorem dX5_play_10 : zD cX5_play 10 (.iconst 0) 1 11 := ⟨by decide +kernel, rfl⟩
theorem dX5_play_11 : zD cX5_play 11 (.istore 5) 2 13 := ⟨by decide +kernel, rfl⟩
theorem dX5_play_13 : zD cX5_play 13 (.iload 5) 2 15 := ⟨by decide +kernel, rfl⟩
theorem dX5_play_15 : zD cX5_play 15 (.bipush 12) 2 17 := ⟨by decide +kernel, rfl⟩
theorem dX5_play_17 : zJ cX5_play 17 (.if_icmp .ge) 20 108 := ⟨91, by decide +kernel, rfl, by decide⟩
theorem dX5_play_20 : zD cX5_play 20 (.aload_n 0) 1 21 := ⟨by decide +kernel, rfl⟩
theorem dX5_play_21 : zD cX5_play 21 (.getfield 12) 3 24 := ⟨by decide +kernel, rfl⟩
theorem dX5_play_24 : zD cX5_play 24 (.aload_n 1) 1 25 := ⟨by decide +kernel, rfl⟩
theorem dX5_play_25 : zD cX5_play 25 (.invokevirtual 25) 3 28 := ⟨by decide +kernel, rfl⟩
theorem dX5_play_28 : zD cX5_play 28 (.aload_n 0) 1 29 := ⟨by decide +kernel, rfl⟩
theorem dX5_play_29 : zD cX5_play 29 (.getfield 12) 3 32 := ⟨by decide +kernel, rfl⟩
theorem dX5_play_32 : zD cX5_play 32 (.iconst 0) 1 33 := ⟨by decide +kernel, rfl⟩
theorem dX5_play_33 : zD cX5_play 33 (.iload_n 2) 1 34 := ⟨by decide +kernel, rfl⟩
theorem dX5_play_34 : zD cX5_play 34 (.iload 4) 2 36 := ⟨by decide +kernel, rfl⟩
theorem dX5_play_36 : zD cX5_play 36 (.invokevirtual 78) 3 39 := ⟨by decide +kernel, rfl⟩
theorem dX5_play_39 : zD cX5_play 39 (.aload_n 0) 1 40 := ⟨by decide +kernel, rfl⟩
theorem dX5_play_40 : zD cX5_play 40 (.getfield 12) 3 43 := ⟨by decide +kernel, rfl⟩
theorem dX5_play_43 : zD cX5_play 43 (.iconst 1) 1 44 := ⟨by decide +kernel, rfl⟩
theorem dX5_play_44 : zD cX5_play 44 (.iload_n 3) 1 45 := ⟨by decide +kernel, rfl⟩
theorem dX5_play_45 : zD cX5_play 45 (.iload 5) 2 47 := ⟨by decide +kernel, rfl⟩
theorem dX5_play_47 : zD cX5_play 47 (.invokevirtual 78) 3 50 := ⟨by decide +kernel, rfl⟩
theorem dX5_play_50 : zD cX5_play 50 (.aload_n 0) 1 51 := ⟨by decide +kernel, rfl⟩
theorem dX5_play_51 : zD cX5_play 51 (.getfield 12) 3 54 := ⟨by decide +kernel, rfl⟩
theorem dX5_play_54 : zD cX5_play 54 (.sipush 199) 3 57 := ⟨by decide +kernel, rfl⟩
theorem dX5_play_57 : zD cX5_play 57 (.invokevirtual 33) 3 60 := ⟨by decide +kernel, rfl⟩
theorem dX5_play_60 : zD cX5_play 60 (.aload_n 0) 1 61 := ⟨by decide +kernel, rfl⟩
theorem dX5_play_61 : zD cX5_play 61 (.getfield 18) 3 64 := ⟨by decide +kernel, rfl⟩
theorem dX5_play_64 : zD cX5_play 64 (.bipush 12) 2 66 := ⟨by decide +kernel, rfl⟩
theorem dX5_play_66 : zD cX5_play 66 (.iload 4) 2 68 := ⟨by decide +kernel, rfl⟩
theorem dX5_play_68 : zD cX5_play 68 .imul 1 69 := ⟨by decide +kernel, rfl⟩
theorem dX5_play_69 : zD cX5_play 69 (.iload 5) 2 71 := ⟨by decide +kernel, rfl⟩
theorem dX5_play_71 : zD cX5_play 71 .iadd 1 72 := ⟨by decide +kernel, rfl⟩
theorem dX5_play_72 : zD cX5_play 72 (.aload_n 0) 1 73 := ⟨by decide +kernel, rfl⟩
theorem dX5_play_73 : zD cX5_play 73 (.getfield 12) 3 76 := ⟨by decide +kernel, rfl⟩
theorem dX5_play_76 : zD cX5_play 76 (.iload_n 2) 1 77 := ⟨by decide +kernel, rfl⟩
theorem dX5_play_77 : zD cX5_play 77 (.invokevirtual 37) 3 80 := ⟨by decide +kernel, rfl⟩
theorem dX5_play_80 : zD cX5_play 80 .iastore 1 81 := ⟨by decide +kernel, rfl⟩
theorem dX5_play_81 : zD cX5_play 81 (.aload_n 0) 1 82 := ⟨by decide +kernel, rfl⟩
theorem dX5_play_82 : zD cX5_play 82 (.getfield 22) 3 85 := ⟨by decide +kernel, rfl⟩
theorem dX5_play_85 : zD cX5_play 85 (.bipush 12) 2 87 := ⟨by decide +kernel, rfl⟩
theorem dX5_play_87 : zD cX5_play 87 (.iload 4) 2 89 := ⟨by decide +kernel, rfl⟩
theorem dX5_play_89 : zD cX5_play 89 .imul 1 90 := ⟨by decide +kernel, rfl⟩
theorem dX5_play_90 : zD cX5_play 90 (.iload 5) 2 92 := ⟨by decide +kernel, rfl⟩
theorem dX5_play_92 : zD cX5_play 92 .iadd 1 93 := ⟨by decide +kernel, rfl⟩
theorem dX5_play_93 : zD cX5_play 93 (.aload_n 0) 1 94 := ⟨by decide +kernel, rfl⟩
theorem dX5_play_94 : zD cX5_play 94 (.getfield 12) 3 97 := ⟨by decide +kernel, rfl⟩
theorem dX5_play_97 : zD cX5_play 97 (.iload_n 3) 1 98 := ⟨by decide +kernel, rfl⟩
theorem dX5_play_98 : zD cX5_play 98 (.invokevirtual 37) 3 101 := ⟨by decide +kernel, rfl⟩
theorem dX5_play_101 : zD cX5_play 101 .iastore 1 102 := ⟨by decide +kernel, rfl⟩
theorem dX5_play_102 : zD cX5_play 102 (.iinc 5 1) 3 105 := ⟨by decide +kernel, rfl⟩
theorem dX5_play_105 : zJ cX5_play 105 .goto 108 13 := ⟨-92, by decide +kernel, rfl, by decide⟩
theorem dX5_play_108 : zD cX5_play 108 (.iinc 4 1) 3 111 := ⟨by decide +kernel, rfl⟩
theorem dX5_play_111 : zJ cX5_play 111 .goto 114 3 := ⟨-108, by decide +kernel, rfl, by decide⟩
theorem dX5_play_114 : zD cX5_play 114 (.aload_n 0) 1 115 := ⟨by decide +kernel, rfl⟩
theorem dX5_play_115 : zD cX5_play 115 (.iconst 0) 1 116 := ⟨by decide +kernel, rfl⟩
theorem dX5_play_116 : zD cX5_play 116 (.putfield 85) 3 119 := ⟨by decide +kernel, rfl⟩
theorem dX5_play_119 : zD cX5_play 119 (.iconst 0) 1 120 := ⟨by decide +kernel, rfl⟩
theorem dX5_play_120 : zD cX5_play 120 (.istore 4) 2 122 := ⟨by decide +kernel, rfl⟩
theorem dX5_play_122 : zD cX5_play 122 (.iload 4) 2 124 := ⟨by decide +kernel, rfl⟩
theorem dX5_play_124 : zD cX5_play 124 (.bipush 12) 2 126 := ⟨by decide +kernel, rfl⟩
theorem dX5_play_126 : zJ cX5_play 126 (.if_icmp .ge) 129 191 := ⟨65, by decide +kernel, rfl, by decide⟩
theorem dX5_play_129 : zD cX5_play 129 (.iconst 0) 1 130 := ⟨by decide +kernel, rfl⟩
theorem dX5_play_130 : zD cX5_play 130 (.istore 5) 2 132 := ⟨by decide +kernel, rfl⟩
theorem dX5_play_132 : zD cX5_play 132 (.iload 5) 2 134 := ⟨by decide +kernel, rfl⟩
theorem dX5_play_134 : zD cX5_play 134 (.bipush 12) 2 136 := ⟨by decide +kernel, rfl⟩
theorem dX5_play_136 : zJ cX5_play 136 (.if_icmp .ge) 139 185 := ⟨49, by decide +kernel, rfl, by decide⟩
theorem dX5_play_139 : zD cX5_play 139 (.aload_n 0) 1 140 := ⟨by decide +kernel, rfl⟩
theorem dX5_play_140 : zD cX5_play 140 (.iload 4) 2 142 := ⟨by decide +kernel, rfl⟩
theorem dX5_play_142 : zD cX5_play 142 (.iload 5) 2 144 := ⟨by decide +kernel, rfl⟩
theorem dX5_play_144 : zD cX5_play 144 (.invokevirtual 88) 3 147 := ⟨by decide +kernel, rfl⟩
theorem dX5_play_147 : zJ cX5_play 147 (.ifCond .eq) 150 179 := ⟨32, by decide +kernel, rfl, by decide⟩
theorem dX5_play_150 : zD cX5_play 150 (.aload_n 0) 1 151 := ⟨by decide +kernel, rfl⟩
theorem dX5_play_151 : zD cX5_play 151 (.getfield 85) 3 154 := ⟨by decide +kernel, rfl⟩
theorem dX5_play_154 : zJ cX5_play 154 (.ifCond .ne) 157 169 := ⟨15, by decide +kernel, rfl, by decide⟩
theorem dX5_play_157 : zD cX5_play 157 (.aload_n 0) 1 158 := ⟨by decide +kernel, rfl⟩
theorem dX5_play_158 : zD cX5_play 158 (.iload 4) 2 160 := ⟨by decide +kernel, rfl⟩
theorem dX5_play_160 : zD cX5_play 160 (.putfield 92) 3 163 := ⟨by decide +kernel, rfl⟩
theorem dX5_play_163 : zD cX5_play 163 (.aload_n 0) 1 164 := ⟨by decide +kernel, rfl⟩
theorem dX5_play_164 : zD cX5_play 164 (.iload 5) 2 166 := ⟨by decide +kernel, rfl⟩
theorem dX5_play_166 : zD cX5_play 166 (.putfield 95) 3 169 := ⟨by decide +kernel, rfl⟩
theorem dX5_play_169 : zD cX5_play 169 (.aload_n 0) 1 170 := ⟨by decide +kernel, rfl⟩
theorem dX5_play_170 : zD cX5_play 170 .dup 1 171 := ⟨by decide +kernel, rfl⟩
theorem dX5_play_171 : zD cX5_play 171 (.getfield 85) 3 174 := ⟨by decide +kernel, rfl⟩
theorem dX5_play_174 : zD cX5_play 174 (.iconst 1) 1 175 := ⟨by decide +kernel, rfl⟩
theorem dX5_play_175 : zD cX5_play 175 .iadd 1 176 := ⟨by decide +kernel, rfl⟩
theorem dX5_play_176 : zD cX5_play 176 (.putfield 85) 3 179 := ⟨by decide +kernel, rfl⟩
theorem dX5_play_179 : zD cX5_play 179 (.iinc 5 1) 3 182 := ⟨by decide +kernel, rfl⟩
theorem dX5_play_182 : zJ cX5_play 182 .goto 185 132 := ⟨-50, by decide +kernel, rfl, by decide⟩
theorem dX5_play_185 : zD cX5_play 185 (.iinc 4 1) 3 188 := ⟨by decide +kernel, rfl⟩
theorem dX5_play_188 : zJ cX5_play 188 .goto 191 122 := ⟨-66, by decide +kernel, rfl, by decide⟩
theorem dX5_play_191 : zD cX5_play 191 .return_ 1 192 := ⟨by decide +kernel, rfl⟩
theorem dX5_isRest_0 : zD cX5_isRest 0 (.aload_n 0) 1 1 := ⟨by decide +kernel, rfl⟩
theorem dX5_isRest_1 : zD cX5_isRest 1 (.getfield 18) 3 4 := ⟨by decide +kernel, rfl⟩
theorem dX5_isRest_4 : zD cX5_isRest 4 (.bipush 12) 2 6 := ⟨by decide +kernel, rfl⟩
theorem dX5_isRest_6 : zD cX5_isRest 6 (.iload_n 1) 1 7 := ⟨by decide +kernel, rfl⟩
theorem dX5_isRest_7 : zD cX5_isRest 7 .imul 1 8 := ⟨by decide +kernel, rfl⟩
theorem dX5_isRest_8 : zD cX5_isRest 8 (.iload_n 2) 1 9 := ⟨by decide +kernel, rfl⟩
theorem dX5_isRest_9 : zD cX5_isRest 9 .iadd 1 10 := ⟨by decide +kernel, rfl⟩
theorem dX5_isRest_10 : zD cX5_isRest 10 .iaload 1 11 := ⟨by decide +kernel, rfl⟩
theorem dX5_isRest_11 : zD cX5_isRest 11 (.istore_n 3) 1 12 := ⟨by decide +kernel, rfl⟩
theorem dX5_isRest_12 : zD cX5_isRest 12 (.aload_n 0) 1 13 := ⟨by decide +kernel, rfl⟩
theorem dX5_isRest_13 : zD cX5_isRest 13 (.getfield 22) 3 16 := ⟨by decide +kernel, rfl⟩
theorem dX5_isRest_16 : zD cX5_isRest 16 (.bipush 12) 2 18 := ⟨by decide +kernel, rfl⟩
theorem dX5_isRest_18 : zD cX5_isRest 18 (.iload_n 1) 1 19 := ⟨by decide +kernel, rfl⟩
theorem dX5_isRest_19 : zD cX5_isRest 19 .imul 1 20 := ⟨by decide +kernel, rfl⟩
theorem dX5_isRest_20 : zD cX5_isRest 20 (.iload_n 2) 1 21 := ⟨by decide +kernel, rfl⟩
theorem dX5_isRest_21 : zD cX5_isRest 21 .iadd 1 22 := ⟨by decide +kernel, rfl⟩
theorem dX5_isRest_22 : zD cX5_isRest 22 .iaload 1 23 := ⟨by decide +kernel, rfl⟩
theorem dX5_isRest_23 : zD cX5_isRest 23 (.istore 4) 2 25 := ⟨by decide +kernel, rfl⟩
theorem dX5_isRest_25 : zD cX5_isRest 25 (.iconst 0) 1 26 := ⟨by decide +kernel, rfl⟩
theorem dX5_isRest_26 : zD cX5_isRest 26 (.istore 5) 2 28 := ⟨by decide +kernel, rfl⟩
theorem dX5_isRest_28 : zD cX5_isRest 28 (.iload 5) 2 30 := ⟨by decide +kernel, rfl⟩
theorem dX5_isRest_30 : zD cX5_isRest 30 (.bipush 12) 2 32 := ⟨by decide +kernel, rfl⟩
theorem dX5_isRest_32 : zJ cX5_isRest 32 (.if_icmp .ge) 35 76 := ⟨44, by decide +kernel, rfl, by decide⟩
theorem dX5_isRest_35 : zD cX5_isRest 35 (.aload_n 0) 1 36 := ⟨by decide +kernel, rfl⟩
theorem dX5_isRest_36 : zD cX5_isRest 36 (.getfield 18) 3 39 := ⟨by decide +kernel, rfl⟩
theorem dX5_isRest_39 : zD cX5_isRest 39 (.bipush 12) 2 41 := ⟨by decide +kernel, rfl⟩
theorem dX5_isRest_41 : zD cX5_isRest 41 (.iload 5) 2 43 := ⟨by decide +kernel, rfl⟩
theorem dX5_isRest_43 : zD cX5_isRest 43 .imul 1 44 := ⟨by decide +kernel, rfl⟩
theorem dX5_isRest_44 : zD cX5_isRest 44 (.iload_n 2) 1 45 := ⟨by decide +kernel, rfl⟩
theorem dX5_isRest_45 : zD cX5_isRest 45 .iadd 1 46 := ⟨by decide +kernel, rfl⟩
theorem dX5_isRest_46 : zD cX5_isRest 46 .iaload 1 47 := ⟨by decide +kernel, rfl⟩
theorem dX5_isRest_47 : zD cX5_isRest 47 (.iload_n 3) 1 48 := ⟨by decide +kernel, rfl⟩
theorem dX5_isRest_48 : zJ cX5_isRest 48 (.if_icmp .lt) 51 68 := ⟨20, by decide +kernel, rfl, by decide⟩
theorem dX5_isRest_51 : zD cX5_isRest 51 (.aload_n 0) 1 52 := ⟨by decide +kernel, rfl⟩
theorem dX5_isRest_52 : zD cX5_isRest 52 (.getfield 22) 3 55 := ⟨by decide +kernel, rfl⟩
theorem dX5_isRest_55 : zD cX5_isRest 55 (.bipush 12) 2 57 := ⟨by decide +kernel, rfl⟩
theorem dX5_isRest_57 : zD cX5_isRest 57 (.iload_n 1) 1 58 := ⟨by decide +kernel, rfl⟩
theorem dX5_isRest_58 : zD cX5_isRest 58 .imul 1 59 := ⟨by decide +kernel, rfl⟩
theorem dX5_isRest_59 : zD cX5_isRest 59 (.iload 5) 2 61 := ⟨by decide +kernel, rfl⟩
theorem dX5_isRest_61 : zD cX5_isRest 61 .iadd 1 62 := ⟨by decide +kernel, rfl⟩
theorem dX5_isRest_62 : zD cX5_isRest 62 .iaload 1 63 := ⟨by decide +kernel, rfl⟩
theorem dX5_isRest_63 : zD cX5_isRest 63 (.iload 4) 2 65 := ⟨by decide +kernel, rfl⟩
theorem dX5_isRest_65 : zJ cX5_isRest 65 (.if_icmp .ge) 68 70 := ⟨5, by decide +kernel, rfl, by decide⟩
theorem dX5_isRest_68 : zD cX5_isRest 68 (.iconst 0) 1 69 := ⟨by decide +kernel, rfl⟩
theorem dX5_isRest_69 : zD cX5_isRest 69 .ireturn 1 70 := ⟨by decide +kernel, rfl⟩
theorem dX5_isRest_70 : zD cX5_isRest 70 (.iinc 5 1) 3 73 := ⟨by decide +kernel, rfl⟩
theorem dX5_isRest_73 : zJ cX5_isRest 73 .goto 76 28 := ⟨-45, by decide +kernel, rfl, by decide⟩
theorem dX5_isRest_76 : zD cX5_isRest 76 (.iconst 1) 1 77 := ⟨by decide +kernel, rfl⟩
theorem dX5_isRest_77 : zD cX5_isRest 77 .ireturn 1 78 := ⟨by decide +kernel, rfl⟩
theorem dX5_unfairBy_0 : zD cX5_unfairBy 0 (.aload_n 0) 1 1 := ⟨by decide +kernel, rfl⟩
theorem dX5_unfairBy_1 : zD cX5_unfairBy 1 (.getfield 12) 3 4 := ⟨by decide +kernel, rfl⟩
theorem dX5_unfairBy_4 : zD cX5_unfairBy 4 (.aload_n 1) 1 5 := ⟨by decide +kernel, rfl⟩
theorem dX5_unfairBy_5 : zD cX5_unfairBy 5 (.invokevirtual 25) 3 8 := ⟨by decide +kernel, rfl⟩
theorem dX5_unfairBy_8 : zD cX5_unfairBy 8 (.aload_n 0) 1 9 := ⟨by decide +kernel, rfl⟩
theorem dX5_unfairBy_9 : zD cX5_unfairBy 9 (.getfield 12) 3 12 := ⟨by decide +kernel, rfl⟩
theorem dX5_unfairBy_12 : zD cX5_unfairBy 12 (.iload_n 2) 1 13 := ⟨by decide +kernel, rfl⟩
theorem dX5_unfairBy_13 : zD cX5_unfairBy 13 (.putfield 98) 3 16 := ⟨by decide +kernel, rfl⟩
theorem dX5_unfairBy_16 : zD cX5_unfairBy 16 (.aload_n 0) 1 17 := ⟨by decide +kernel, rfl⟩
theorem dX5_unfairBy_17 : zD cX5_unfairBy 17 (.getfield 12) 3 20 := ⟨by decide +kernel, rfl⟩
theorem dX5_unfairBy_20 : zD cX5_unfairBy 20 (.sipush 199) 3 23 := ⟨by decide +kernel, rfl⟩
theorem dX5_unfairBy_23 : zD cX5_unfairBy 23 (.invokevirtual 33) 3 26 := ⟨by decide +kernel, rfl⟩
theorem dX5_unfairBy_26 : zD cX5_unfairBy 26 (.aload_n 0) 1 27 := ⟨by decide +kernel, rfl⟩
theorem dX5_unfairBy_27 : zD cX5_unfairBy 27 (.getfield 12) 3 30 := ⟨by decide +kernel, rfl⟩
theorem dX5_unfairBy_30 : zD cX5_unfairBy 30 (.invokevirtual 101) 3 33 := ⟨by decide +kernel, rfl⟩
theorem dX5_unfairBy_33 : zD cX5_unfairBy 33 .ireturn 1 34 := ⟨by decide +kernel, rfl⟩
theorem dX5_bestLaw_0 : zD cX5_bestLaw 0 (.iconst 0) 1 1 := ⟨by decide +kernel, rfl⟩
theorem dX5_bestLaw_1 : zD cX5_bestLaw 1 (.istore_n 2) 1 2 := ⟨by decide +kernel, rfl⟩
theorem dX5_bestLaw_2 : zD cX5_bestLaw 2 (.aload_n 0) 1 3 := ⟨by decide +kernel, rfl⟩
theorem dX5_bestLaw_3 : zD cX5_bestLaw 3 (.aload_n 1) 1 4 := ⟨by decide +kernel, rfl⟩
theorem dX5_bestLaw_4 : zD cX5_bestLaw 4 (.iconst 0) 1 5 := ⟨by decide +kernel, rfl⟩
theorem dX5_bestLaw_5 : zD cX5_bestLaw 5 (.invokevirtual 105) 3 8 := ⟨by decide +kernel, rfl⟩
theorem dX5_bestLaw_8 : zD cX5_bestLaw 8 (.istore_n 3) 1 9 := ⟨by decide +kernel, rfl⟩
theorem dX5_bestLaw_9 : zD cX5_bestLaw 9 (.iconst 1) 1 10 := ⟨by decide +kernel, rfl⟩
theorem dX5_bestLaw_10 : zD cX5_bestLaw 10 (.istore 4) 2 12 := ⟨by decide +kernel, rfl⟩
theorem dX5_bestLaw_12 : zD cX5_bestLaw 12 (.iload 4) 2 14 := ⟨by decide +kernel, rfl⟩
theorem dX5_bestLaw_14 : zD cX5_bestLaw 14 (.iconst 3) 1 15 := ⟨by decide +kernel, rfl⟩
theorem dX5_bestLaw_15 : zJ cX5_bestLaw 15 (.if_icmp .gt) 18 45 := ⟨30, by decide +kernel, rfl, by decide⟩
theorem dX5_bestLaw_18 : zD cX5_bestLaw 18 (.aload_n 0) 1 19 := ⟨by decide +kernel, rfl⟩
theorem dX5_bestLaw_19 : zD cX5_bestLaw 19 (.aload_n 1) 1 20 := ⟨by decide +kernel, rfl⟩
theorem dX5_bestLaw_20 : zD cX5_bestLaw 20 (.iload 4) 2 22 := ⟨by decide +kernel, rfl⟩
theorem dX5_bestLaw_22 : zD cX5_bestLaw 22 (.invokevirtual 105) 3 25 := ⟨by decide +kernel, rfl⟩
theorem dX5_bestLaw_25 : zD cX5_bestLaw 25 (.istore 5) 2 27 := ⟨by decide +kernel, rfl⟩
theorem dX5_bestLaw_27 : zD cX5_bestLaw 27 (.iload 5) 2 29 := ⟨by decide +kernel, rfl⟩
theorem dX5_bestLaw_29 : zD cX5_bestLaw 29 (.iload_n 3) 1 30 := ⟨by decide +kernel, rfl⟩
theorem dX5_bestLaw_30 : zJ cX5_bestLaw 30 (.if_icmp .ge) 33 39 := ⟨9, by decide +kernel, rfl, by decide⟩
theorem dX5_bestLaw_33 : zD cX5_bestLaw 33 (.iload 5) 2 35 := ⟨by decide +kernel, rfl⟩
theorem dX5_bestLaw_35 : zD cX5_bestLaw 35 (.istore_n 3) 1 36 := ⟨by decide +kernel, rfl⟩
theorem dX5_bestLaw_36 : zD cX5_bestLaw 36 (.iload 4) 2 38 := ⟨by decide +kernel, rfl⟩
theorem dX5_bestLaw_38 : zD cX5_bestLaw 38 (.istore_n 2) 1 39 := ⟨by decide +kernel, rfl⟩
theorem dX5_bestLaw_39 : zD cX5_bestLaw 39 (.iinc 4 1) 3 42 := ⟨by decide +kernel, rfl⟩
theorem dX5_bestLaw_42 : zJ cX5_bestLaw 42 .goto 45 12 := ⟨-30, by decide +kernel, rfl, by decide⟩
theorem dX5_bestLaw_45 : zD cX5_bestLaw 45 (.iload_n 2) 1 46 := ⟨by decide +kernel, rfl⟩
theorem dX5_bestLaw_46 : zD cX5_bestLaw 46 .ireturn 1 47 := ⟨by decide +kernel, rfl⟩
theorem dX6_init_0 : zD cX6_init 0 (.aload_n 0) 1 1 := ⟨by decide +kernel, rfl⟩
theorem dX6_init_1 : zD cX6_init 1 (.invokespecial 3) 3 4 := ⟨by decide +kernel, rfl⟩
theorem dX6_init_4 : zD cX6_init 4 (.aload_n 0) 1 5 := ⟨by decide +kernel, rfl⟩
theorem dX6_init_5 : zD cX6_init 5 (.sipush 300) 3 8 := ⟨by decide +kernel, rfl⟩
theorem dX6_init_8 : zD cX6_init 8 (.newarray .byte) 2 10 := ⟨by decide +kernel, rfl⟩
theorem dX6_init_10 : zD cX6_init 10 (.putfield 9) 3 13 := ⟨by decide +kernel, rfl⟩
theorem dX6_init_13 : zD cX6_init 13 (.aload_n 0) 1 14 := ⟨by decide +kernel, rfl⟩
theorem dX6_init_14 : zD cX6_init 14 (.iconst 3) 1 15 := ⟨by decide +kernel, rfl⟩
theorem dX6_init_15 : zD cX6_init 15 (.newarray .int) 2 17 := ⟨by decide +kernel, rfl⟩
theorem dX6_init_17 : zD cX6_init 17 (.putfield 15) 3 20 := ⟨by decide +kernel, rfl⟩
theorem dX6_init_20 : zD cX6_init 20 (.aload_n 0) 1 21 := ⟨by decide +kernel, rfl⟩
theorem dX6_init_21 : zD cX6_init 21 (.iconst 0) 1 22 := ⟨by decide +kernel, rfl⟩
theorem dX6_init_22 : zD cX6_init 22 (.putfield 19) 3 25 := ⟨by decide +kernel, rfl⟩
theorem dX6_init_25 : zD cX6_init 25 (.aload_n 0) 1 26 := ⟨by decide +kernel, rfl⟩
theorem dX6_init_26 : zD cX6_init 26 (.iconst 0) 1 27 := ⟨by decide +kernel, rfl⟩
theorem dX6_init_27 : zD cX6_init 27 (.putfield 23) 3 30 := ⟨by decide +kernel, rfl⟩
theorem dX6_init_30 : zD cX6_init 30 .return_ 1 31 := ⟨by decide +kernel, rfl⟩
theorem dX6_append_0 : zD cX6_append 0 (.aload_n 0) 1 1 := ⟨by decide +kernel, rfl⟩
theorem dX6_append_1 : zD cX6_append 1 (.getfield 19) 3 4 := ⟨by decide +kernel, rfl⟩
theorem dX6_append_4 : zD cX6_append 4 (.aload_n 0) 1 5 := ⟨by decide +kernel, rfl⟩
theorem dX6_append_5 : zD cX6_append 5 (.getfield 9) 3 8 := ⟨by decide +kernel, rfl⟩
theorem dX6_append_8 : zD cX6_append 8 .arraylength 1 9 := ⟨by decide +kernel, rfl⟩
theorem dX6_append_9 : zJ cX6_append 9 (.if_icmp .ge) 12 32 := ⟨23, by decide +kernel, rfl, by decide⟩
theorem dX6_append_12 : zD cX6_append 12 (.aload_n 0) 1 13 := ⟨by decide +kernel, rfl⟩
theorem dX6_append_13 : zD cX6_append 13 (.getfield 9) 3 16 := ⟨by decide +kernel, rfl⟩
theorem dX6_append_16 : zD cX6_append 16 (.aload_n 0) 1 17 := ⟨by decide +kernel, rfl⟩
theorem dX6_append_17 : zD cX6_append 17 (.getfield 19) 3 20 := ⟨by decide +kernel, rfl⟩
theorem dX6_append_20 : zD cX6_append 20 (.iload_n 1) 1 21 := ⟨by decide +kernel, rfl⟩
theorem dX6_append_21 : zD cX6_append 21 .bastore 1 22 := ⟨by decide +kernel, rfl⟩
theorem dX6_append_22 : zD cX6_append 22 (.aload_n 0) 1 23 := ⟨by decide +kernel, rfl⟩
theorem dX6_append_23 : zD cX6_append 23 .dup 1 24 := ⟨by decide +kernel, rfl⟩
theorem dX6_append_24 : zD cX6_append 24 (.getfield 19) 3 27 := ⟨by decide +kernel, rfl⟩
theorem dX6_append_27 : zD cX6_append 27 (.iconst 1) 1 28 := ⟨by decide +kernel, rfl⟩
theorem dX6_append_28 : zD cX6_append 28 .iadd 1 29 := ⟨by decide +kernel, rfl⟩
theorem dX6_append_29 : zD cX6_append 29 (.putfield 19) 3 32 := ⟨by decide +kernel, rfl⟩
theorem dX6_append_32 : zD cX6_append 32 .return_ 1 33 := ⟨by decide +kernel, rfl⟩
theorem dX6_readInto_0 : zD cX6_readInto 0 (.aload_n 1) 1 1 := ⟨by decide +kernel, rfl⟩
theorem dX6_readInto_1 : zD cX6_readInto 1 (.invokevirtual 26) 3 4 := ⟨by decide +kernel, rfl⟩
theorem dX6_readInto_4 : zD cX6_readInto 4 (.iconst 0) 1 5 := ⟨by decide +kernel, rfl⟩
theorem dX6_readInto_5 : zD cX6_readInto 5 (.istore_n 2) 1 6 := ⟨by decide +kernel, rfl⟩
theorem dX6_readInto_6 : zD cX6_readInto 6 (.iconst 0) 1 7 := ⟨by decide +kernel, rfl⟩
theorem dX6_readInto_7 : zD cX6_readInto 7 (.istore_n 3) 1 8 := ⟨by decide +kernel, rfl⟩
theorem dX6_readInto_8 : zD cX6_readInto 8 (.iload_n 3) 1 9 := ⟨by decide +kernel, rfl⟩
theorem dX6_readInto_9 : zD cX6_readInto 9 (.sipush 300) 3 12 := ⟨by decide +kernel, rfl⟩
theorem dX6_readInto_12 : zJ cX6_readInto 12 (.if_icmp .ge) 15 49 := ⟨37, by decide +kernel, rfl, by decide⟩
theorem dX6_readInto_15 : zD cX6_readInto 15 (.iload_n 2) 1 16 := ⟨by decide +kernel, rfl⟩
theorem dX6_readInto_16 : zD cX6_readInto 16 (.aload_n 0) 1 17 := ⟨by decide +kernel, rfl⟩
theorem dX6_readInto_17 : zD cX6_readInto 17 (.getfield 19) 3 20 := ⟨by decide +kernel, rfl⟩
theorem dX6_readInto_20 : zJ cX6_readInto 20 (.if_icmp .ge) 23 49 := ⟨29, by decide +kernel, rfl, by decide⟩
theorem dX6_readInto_23 : zD cX6_readInto 23 (.aload_n 0) 1 24 := ⟨by decide +kernel, rfl⟩
theorem dX6_readInto_24 : zD cX6_readInto 24 (.iload_n 2) 1 25 := ⟨by decide +kernel, rfl⟩
theorem dX6_readInto_25 : zD cX6_readInto 25 (.putfield 23) 3 28 := ⟨by decide +kernel, rfl⟩
theorem dX6_readInto_28 : zD cX6_readInto 28 (.aload_n 0) 1 29 := ⟨by decide +kernel, rfl⟩
theorem dX6_readInto_29 : zD cX6_readInto 29 (.aload_n 1) 1 30 := ⟨by decide +kernel, rfl⟩
theorem dX6_readInto_30 : zD cX6_readInto 30 (.invokevirtual 31) 3 33 := ⟨by decide +kernel, rfl⟩
theorem dX6_readInto_33 : zJ cX6_readInto 33 (.ifCond .ne) 36 38 := ⟨5, by decide +kernel, rfl, by decide⟩
theorem dX6_readInto_36 : zD cX6_readInto 36 (.iload_n 2) 1 37 := ⟨by decide +kernel, rfl⟩
theorem dX6_readInto_37 : zD cX6_readInto 37 .ireturn 1 38 := ⟨by decide +kernel, rfl⟩
theorem dX6_readInto_38 : zD cX6_readInto 38 (.aload_n 0) 1 39 := ⟨by decide +kernel, rfl⟩
theorem dX6_readInto_39 : zD cX6_readInto 39 (.getfield 23) 3 42 := ⟨by decide +kernel, rfl⟩
theorem dX6_readInto_42 : zD cX6_readInto 42 (.istore_n 2) 1 43 := ⟨by decide +kernel, rfl⟩
theorem dX6_readInto_43 : zD cX6_readInto 43 (.iinc 3 1) 3 46 := ⟨by decide +kernel, rfl⟩
theorem dX6_readInto_46 : zJ cX6_readInto 46 .goto 49 8 := ⟨-38, by decide +kernel, rfl, by decide⟩
theorem dX6_readInto_49 : zD cX6_readInto 49 (.bipush (-4)) 2 51 := ⟨by decide +kernel, rfl⟩
theorem dX6_readInto_51 : zD cX6_readInto 51 .ireturn 1 52 := ⟨by decide +kernel, rfl⟩
theorem dX6_readItem_0 : zD cX6_readItem 0 (.aload_n 0) 1 1 := ⟨by decide +kernel, rfl⟩
theorem dX6_readItem_1 : zD cX6_readItem 1 (.invokevirtual 35) 3 4 := ⟨by decide +kernel, rfl⟩
theorem dX6_readItem_4 : zD cX6_readItem 4 (.istore_n 2) 1 5 := ⟨by decide +kernel, rfl⟩
theorem dX6_readItem_5 : zD cX6_readItem 5 (.iload_n 2) 1 6 := ⟨by decide +kernel, rfl⟩
theorem dX6_readItem_6 : zD cX6_readItem 6 (.invokestatic 39) 3 9 := ⟨by decide +kernel, rfl⟩
theorem dX6_readItem_9 : zD cX6_readItem 9 (.istore_n 3) 1 10 := ⟨by decide +kernel, rfl⟩
theorem dX6_readItem_10 : zD cX6_readItem 10 (.iload_n 3) 1 11 := ⟨by decide +kernel, rfl⟩
theorem dX6_readItem_11 : zJ cX6_readItem 11 (.ifCond .le) 14 52 := ⟨41, by decide +kernel, rfl, by decide⟩
theorem dX6_readItem_14 : zD cX6_readItem 14 (.aload_n 0) 1 15 := ⟨by decide +kernel, rfl⟩
theorem dX6_readItem_15 : zD cX6_readItem 15 (.iload_n 3) 1 16 := ⟨by decide +kernel, rfl⟩
theorem dX6_readItem_16 : zD cX6_readItem 16 (.invokevirtual 43) 3 19 := ⟨by decide +kernel, rfl⟩
theorem dX6_readItem_19 : zJ cX6_readItem 19 (.ifCond .eq) 22 52 := ⟨33, by decide +kernel, rfl, by decide⟩
theorem dX6_readItem_22 : zD cX6_readItem 22 (.aload_n 1) 1 23 := ⟨by decide +kernel, rfl⟩
theorem dX6_readItem_23 : zD cX6_readItem 23 (.iload_n 2) 1 24 := ⟨by decide +kernel, rfl⟩
theorem dX6_readItem_24 : zD cX6_readItem 24 (.aload_n 0) 1 25 := ⟨by decide +kernel, rfl⟩
theorem dX6_readItem_25 : zD cX6_readItem 25 (.getfield 15) 3 28 := ⟨by decide +kernel, rfl⟩
theorem dX6_readItem_28 : zD cX6_readItem 28 (.iconst 0) 1 29 := ⟨by decide +kernel, rfl⟩
theorem dX6_readItem_29 : zD cX6_readItem 29 .iaload 1 30 := ⟨by decide +kernel, rfl⟩
theorem dX6_readItem_30 : zD cX6_readItem 30 (.aload_n 0) 1 31 := ⟨by decide +kernel, rfl⟩
theorem dX6_readItem_31 : zD cX6_readItem 31 (.getfield 15) 3 34 := ⟨by decide +kernel, rfl⟩
theorem dX6_readItem_34 : zD cX6_readItem 34 (.iconst 1) 1 35 := ⟨by decide +kernel, rfl⟩
theorem dX6_readItem_35 : zD cX6_readItem 35 .iaload 1 36 := ⟨by decide +kernel, rfl⟩
theorem dX6_readItem_36 : zD cX6_readItem 36 (.aload_n 0) 1 37 := ⟨by decide +kernel, rfl⟩
theorem dX6_readItem_37 : zD cX6_readItem 37 (.getfield 15) 3 40 := ⟨by decide +kernel, rfl⟩
theorem dX6_readItem_40 : zD cX6_readItem 40 (.iconst 2) 1 41 := ⟨by decide +kernel, rfl⟩
theorem dX6_readItem_41 : zD cX6_readItem 41 .iaload 1 42 := ⟨by decide +kernel, rfl⟩
theorem dX6_readItem_42 : zD cX6_readItem 42 (.invokevirtual 47) 3 45 := ⟨by decide +kernel, rfl⟩
theorem dX6_readItem_45 : zJ cX6_readItem 45 (.ifCond .eq) 48 52 := ⟨7, by decide +kernel, rfl, by decide⟩
theorem dX6_readItem_48 : zD cX6_readItem 48 (.iconst 1) 1 49 := ⟨by decide +kernel, rfl⟩
theorem dX6_readItem_49 : zJ cX6_readItem 49 .goto 52 53 := ⟨4, by decide +kernel, rfl, by decide⟩
theorem dX6_readItem_52 : zD cX6_readItem 52 (.iconst 0) 1 53 := ⟨by decide +kernel, rfl⟩
theorem dX6_readItem_53 : zD cX6_readItem 53 .ireturn 1 54 := ⟨by decide +kernel, rfl⟩
theorem dX6_numbersOf_0 : zD cX6_numbersOf 0 (.iload_n 0) 1 1 := ⟨by decide +kernel, rfl⟩
theorem dX6_numbersOf_1 : zD cX6_numbersOf 1 (.tableswitch 93 98 115 #[91, 89, 93, 93, 93, 93, 93, 93, 93, 93, 91, 93, 93, 93, 87, 91, 93, 89]) 87 88 := ⟨by decide +kernel, rfl⟩
theorem dX6_numbersOf_88 : zD cX6_numbersOf 88 (.iconst 3) 1 89 := ⟨by decide +kernel, rfl⟩
theorem dX6_numbersOf_89 : zD cX6_numbersOf 89 .ireturn 1 90 := ⟨by decide +kernel, rfl⟩
theorem dX6_numbersOf_90 : zD cX6_numbersOf 90 (.iconst 2) 1 91 := ⟨by decide +kernel, rfl⟩
theorem dX6_numbersOf_91 : zD cX6_numbersOf 91 .ireturn 1 92 := ⟨by decide +kernel, rfl⟩
theorem dX6_numbersOf_92 : zD cX6_numbersOf 92 (.iconst 1) 1 93 := ⟨by decide +kernel, rfl⟩
theorem dX6_numbersOf_93 : zD cX6_numbersOf 93 .ireturn 1 94 := ⟨by decide +kernel, rfl⟩
theorem dX6_numbersOf_94 : zD cX6_numbersOf 94 (.iconst 0) 1 95 := ⟨by decide +kernel, rfl⟩
theorem dX6_numbersOf_95 : zD cX6_numbersOf 95 .ireturn 1 96 := ⟨by decide +kernel, rfl⟩
theorem dX6_readNumbers_0 : zD cX6_readNumbers 0 (.iconst 0) 1 1 := ⟨by decide +kernel, rfl⟩
theorem dX6_readNumbers_1 : zD cX6_readNumbers 1 (.istore_n 2) 1 2 := ⟨by decide +kernel, rfl⟩
theorem dX6_readNumbers_2 : zD cX6_readNumbers 2 (.iload_n 2) 1 3 := ⟨by decide +kernel, rfl⟩
theorem dX6_readNumbers_3 : zD cX6_readNumbers 3 (.iload_n 1) 1 4 := ⟨by decide +kernel, rfl⟩
theorem dX6_readNumbers_4 : zJ cX6_readNumbers 4 (.if_icmp .ge) 7 64 := ⟨60, by decide +kernel, rfl, by decide⟩
theorem dX6_readNumbers_7 : zD cX6_readNumbers 7 (.iload_n 2) 1 8 := ⟨by decide +kernel, rfl⟩
theorem dX6_readNumbers_8 : zD cX6_readNumbers 8 (.aload_n 0) 1 9 := ⟨by decide +kernel, rfl⟩
theorem dX6_readNumbers_9 : zD cX6_readNumbers 9 (.getfield 15) 3 12 := ⟨by decide +kernel, rfl⟩
theorem dX6_readNumbers_12 : zD cX6_readNumbers 12 .arraylength 1 13 := ⟨by decide +kernel, rfl⟩
theorem dX6_readNumbers_13 : zJ cX6_readNumbers 13 (.if_icmp .ge) 16 64 := ⟨51, by decide +kernel, rfl, by decide⟩
theorem dX6_readNumbers_16 : zD cX6_readNumbers 16 (.aload_n 0) 1 17 := ⟨by decide +kernel, rfl⟩
theorem dX6_readNumbers_17 : zD cX6_readNumbers 17 (.getfield 15) 3 20 := ⟨by decide +kernel, rfl⟩
theorem dX6_readNumbers_20 : zD cX6_readNumbers 20 (.iload_n 2) 1 21 := ⟨by decide +kernel, rfl⟩
theorem dX6_readNumbers_21 : zD cX6_readNumbers 21 (.aload_n 0) 1 22 := ⟨by decide +kernel, rfl⟩
theorem dX6_readNumbers_22 : zD cX6_readNumbers 22 (.invokevirtual 51) 3 25 := ⟨by decide +kernel, rfl⟩
theorem dX6_readNumbers_25 : zD cX6_readNumbers 25 .iastore 1 26 := ⟨by decide +kernel, rfl⟩
theorem dX6_readNumbers_26 : zD cX6_readNumbers 26 (.aload_n 0) 1 27 := ⟨by decide +kernel, rfl⟩
theorem dX6_readNumbers_27 : zD cX6_readNumbers 27 (.getfield 15) 3 30 := ⟨by decide +kernel, rfl⟩
theorem dX6_readNumbers_30 : zD cX6_readNumbers 30 (.iload_n 2) 1 31 := ⟨by decide +kernel, rfl⟩
theorem dX6_readNumbers_31 : zD cX6_readNumbers 31 .iaload 1 32 := ⟨by decide +kernel, rfl⟩
theorem dX6_readNumbers_32 : zJ cX6_readNumbers 32 (.ifCond .lt) 35 56 := ⟨24, by decide +kernel, rfl, by decide⟩
theorem dX6_readNumbers_35 : zD cX6_readNumbers 35 (.aload_n 0) 1 36 := ⟨by decide +kernel, rfl⟩
theorem dX6_readNumbers_36 : zD cX6_readNumbers 36 (.invokevirtual 35) 3 39 := ⟨by decide +kernel, rfl⟩
theorem dX6_readNumbers_39 : zD cX6_readNumbers 39 (.iload_n 2) 1 40 := ⟨by decide +kernel, rfl⟩
theorem dX6_readNumbers_40 : zD cX6_readNumbers 40 (.iload_n 1) 1 41 := ⟨by decide +kernel, rfl⟩
theorem dX6_readNumbers_41 : zD cX6_readNumbers 41 (.iconst 1) 1 42 := ⟨by decide +kernel, rfl⟩
theorem dX6_readNumbers_42 : zD cX6_readNumbers 42 .isub 1 43 := ⟨by decide +kernel, rfl⟩
theorem dX6_readNumbers_43 : zJ cX6_readNumbers 43 (.if_icmp .ne) 46 51 := ⟨8, by decide +kernel, rfl, by decide⟩
theorem dX6_readNumbers_46 : zD cX6_readNumbers 46 (.bipush 59) 2 48 := ⟨by decide +kernel, rfl⟩
theorem dX6_readNumbers_48 : zJ cX6_readNumbers 48 .goto 51 53 := ⟨5, by decide +kernel, rfl, by decide⟩
theorem dX6_readNumbers_51 : zD cX6_readNumbers 51 (.bipush 44) 2 53 := ⟨by decide +kernel, rfl⟩
theorem dX6_readNumbers_53 : zJ cX6_readNumbers 53 (.if_icmp .eq) 56 58 := ⟨5, by decide +kernel, rfl, by decide⟩
theorem dX6_readNumbers_56 : zD cX6_readNumbers 56 (.iconst 0) 1 57 := ⟨by decide +kernel, rfl⟩
theorem dX6_readNumbers_57 : zD cX6_readNumbers 57 .ireturn 1 58 := ⟨by decide +kernel, rfl⟩
theorem dX6_readNumbers_58 : zD cX6_readNumbers 58 (.iinc 2 1) 3 61 := ⟨by decide +kernel, rfl⟩
theorem dX6_readNumbers_61 : zJ cX6_readNumbers 61 .goto 64 2 := ⟨-59, by decide +kernel, rfl, by decide⟩
theorem dX6_readNumbers_64 : zD cX6_readNumbers 64 (.iconst 1) 1 65 := ⟨by decide +kernel, rfl⟩
theorem dX6_readNumbers_65 : zD cX6_readNumbers 65 .ireturn 1 66 := ⟨by decide +kernel, rfl⟩
theorem dX6_readNumber_0 : zD cX6_readNumber 0 (.aload_n 0) 1 1 := ⟨by decide +kernel, rfl⟩
theorem dX6_readNumber_1 : zD cX6_readNumber 1 (.invokevirtual 54) 3 4 := ⟨by decide +kernel, rfl⟩
theorem dX6_readNumber_4 : zD cX6_readNumber 4 (.istore_n 1) 1 5 := ⟨by decide +kernel, rfl⟩
theorem dX6_readNumber_5 : zD cX6_readNumber 5 (.iload_n 1) 1 6 := ⟨by decide +kernel, rfl⟩
theorem dX6_readNumber_6 : zJ cX6_readNumber 6 (.ifCond .ge) 9 11 := ⟨5, by decide +kernel, rfl, by decide⟩
theorem dX6_readNumber_9 : zD cX6_readNumber 9 (.iload_n 1) 1 10 := ⟨by decide +kernel, rfl⟩
theorem dX6_readNumber_10 : zD cX6_readNumber 10 .ireturn 1 11 := ⟨by decide +kernel, rfl⟩
theorem dX6_readNumber_11 : zD cX6_readNumber 11 (.aload_n 0) 1 12 := ⟨by decide +kernel, rfl⟩
theorem dX6_readNumber_12 : zD cX6_readNumber 12 .dup 1 13 := ⟨by decide +kernel, rfl⟩
theorem dX6_readNumber_13 : zD cX6_readNumber 13 (.getfield 23) 3 16 := ⟨by decide +kernel, rfl⟩
theorem dX6_readNumber_16 : zD cX6_readNumber 16 (.iconst 1) 1 17 := ⟨by decide +kernel, rfl⟩
theorem dX6_readNumber_17 : zD cX6_readNumber 17 .iadd 1 18 := ⟨by decide +kernel, rfl⟩
theorem dX6_readNumber_18 : zD cX6_readNumber 18 (.putfield 23) 3 21 := ⟨by decide +kernel, rfl⟩
theorem dX6_readNumber_21 : zD cX6_readNumber 21 (.aload_n 0) 1 22 := ⟨by decide +kernel, rfl⟩
theorem dX6_readNumber_22 : zD cX6_readNumber 22 (.invokevirtual 54) 3 25 := ⟨by decide +kernel, rfl⟩
theorem dX6_readNumber_25 : zD cX6_readNumber 25 (.istore_n 2) 1 26 := ⟨by decide +kernel, rfl⟩
theorem dX6_readNumber_26 : zD cX6_readNumber 26 (.iload_n 2) 1 27 := ⟨by decide +kernel, rfl⟩
theorem dX6_readNumber_27 : zJ cX6_readNumber 27 (.ifCond .ge) 30 32 := ⟨5, by decide +kernel, rfl, by decide⟩
theorem dX6_readNumber_30 : zD cX6_readNumber 30 (.iload_n 1) 1 31 := ⟨by decide +kernel, rfl⟩
theorem dX6_readNumber_31 : zD cX6_readNumber 31 .ireturn 1 32 := ⟨by decide +kernel, rfl⟩
theorem dX6_readNumber_32 : zD cX6_readNumber 32 (.aload_n 0) 1 33 := ⟨by decide +kernel, rfl⟩
theorem dX6_readNumber_33 : zD cX6_readNumber 33 .dup 1 34 := ⟨by decide +kernel, rfl⟩
theorem dX6_readNumber_34 : zD cX6_readNumber 34 (.getfield 23) 3 37 := ⟨by decide +kernel, rfl⟩
theorem dX6_readNumber_37 : zD cX6_readNumber 37 (.iconst 1) 1 38 := ⟨by decide +kernel, rfl⟩
theorem dX6_readNumber_38 : zD cX6_readNumber 38 .iadd 1 39 := ⟨by decide +kernel, rfl⟩
theorem dX6_readNumber_39 : zD cX6_readNumber 39 (.putfield 23) 3 42 := ⟨by decide +kernel, rfl⟩
theorem dX6_readNumber_42 : zD cX6_readNumber 42 (.bipush 10) 2 44 := ⟨by decide +kernel, rfl⟩
theorem dX6_readNumber_44 : zD cX6_readNumber 44 (.iload_n 1) 1 45 := ⟨by decide +kernel, rfl⟩
theorem dX6_readNumber_45 : zD cX6_readNumber 45 .imul 1 46 := ⟨by decide +kernel, rfl⟩
theorem dX6_readNumber_46 : zD cX6_readNumber 46 (.iload_n 2) 1 47 := ⟨by decide +kernel, rfl⟩
theorem dX6_readNumber_47 : zD cX6_readNumber 47 .iadd 1 48 := ⟨by decide +kernel, rfl⟩
theorem dX6_readNumber_48 : zD cX6_readNumber 48 .ireturn 1 49 := ⟨by decide +kernel, rfl⟩
theorem dX6_figureAt_0 : zD cX6_figureAt 0 (.aload_n 0) 1 1 := ⟨by decide +kernel, rfl⟩
theorem dX6_figureAt_1 : zD cX6_figureAt 1 (.getfield 23) 3 4 := ⟨by decide +kernel, rfl⟩
theorem dX6_figureAt_4 : zJ cX6_figureAt 4 (.ifCond .lt) 7 46 := ⟨42, by decide +kernel, rfl, by decide⟩
theorem dX6_figureAt_7 : zD cX6_figureAt 7 (.aload_n 0) 1 8 := ⟨by decide +kernel, rfl⟩
theorem dX6_figureAt_8 : zD cX6_figureAt 8 (.getfield 23) 3 11 := ⟨by decide +kernel, rfl⟩
theorem dX6_figureAt_11 : zD cX6_figureAt 11 (.aload_n 0) 1 12 := ⟨by decide +kernel, rfl⟩
theorem dX6_figureAt_12 : zD cX6_figureAt 12 (.getfield 19) 3 15 := ⟨by decide +kernel, rfl⟩
theorem dX6_figureAt_15 : zJ cX6_figureAt 15 (.if_icmp .ge) 18 46 := ⟨31, by decide +kernel, rfl, by decide⟩
theorem dX6_figureAt_18 : zD cX6_figureAt 18 (.aload_n 0) 1 19 := ⟨by decide +kernel, rfl⟩
theorem dX6_figureAt_19 : zD cX6_figureAt 19 (.getfield 9) 3 22 := ⟨by decide +kernel, rfl⟩
theorem dX6_figureAt_22 : zD cX6_figureAt 22 (.aload_n 0) 1 23 := ⟨by decide +kernel, rfl⟩
theorem dX6_figureAt_23 : zD cX6_figureAt 23 (.getfield 23) 3 26 := ⟨by decide +kernel, rfl⟩
theorem dX6_figureAt_26 : zD cX6_figureAt 26 .baload 1 27 := ⟨by decide +kernel, rfl⟩
theorem dX6_figureAt_27 : zD cX6_figureAt 27 (.bipush 48) 2 29 := ⟨by decide +kernel, rfl⟩
theorem dX6_figureAt_29 : zJ cX6_figureAt 29 (.if_icmp .lt) 32 46 := ⟨17, by decide +kernel, rfl, by decide⟩
theorem dX6_figureAt_32 : zD cX6_figureAt 32 (.aload_n 0) 1 33 := ⟨by decide +kernel, rfl⟩
theorem dX6_figureAt_33 : zD cX6_figureAt 33 (.getfield 9) 3 36 := ⟨by decide +kernel, rfl⟩
theorem dX6_figureAt_36 : zD cX6_figureAt 36 (.aload_n 0) 1 37 := ⟨by decide +kernel, rfl⟩
theorem dX6_figureAt_37 : zD cX6_figureAt 37 (.getfield 23) 3 40 := ⟨by decide +kernel, rfl⟩
theorem dX6_figureAt_40 : zD cX6_figureAt 40 .baload 1 41 := ⟨by decide +kernel, rfl⟩
theorem dX6_figureAt_41 : zD cX6_figureAt 41 (.bipush 57) 2 43 := ⟨by decide +kernel, rfl⟩
theorem dX6_figureAt_43 : zJ cX6_figureAt 43 (.if_icmp .le) 46 48 := ⟨5, by decide +kernel, rfl, by decide⟩
theorem dX6_figureAt_46 : zD cX6_figureAt 46 (.iconst (-1)) 1 47 := ⟨by decide +kernel, rfl⟩
theorem dX6_figureAt_47 : zD cX6_figureAt 47 .ireturn 1 48 := ⟨by decide +kernel, rfl⟩
theorem dX6_figureAt_48 : zD cX6_figureAt 48 (.aload_n 0) 1 49 := ⟨by decide +kernel, rfl⟩
theorem dX6_figureAt_49 : zD cX6_figureAt 49 (.getfield 9) 3 52 := ⟨by decide +kernel, rfl⟩
theorem dX6_figureAt_52 : zD cX6_figureAt 52 (.aload_n 0) 1 53 := ⟨by decide +kernel, rfl⟩
theorem dX6_figureAt_53 : zD cX6_figureAt 53 (.getfield 23) 3 56 := ⟨by decide +kernel, rfl⟩
theorem dX6_figureAt_56 : zD cX6_figureAt 56 .baload 1 57 := ⟨by decide +kernel, rfl⟩
theorem dX6_figureAt_57 : zD cX6_figureAt 57 (.bipush 48) 2 59 := ⟨by decide +kernel, rfl⟩
theorem dX6_figureAt_59 : zD cX6_figureAt 59 .isub 1 60 := ⟨by decide +kernel, rfl⟩
theorem dX6_figureAt_60 : zD cX6_figureAt 60 .ireturn 1 61 := ⟨by decide +kernel, rfl⟩
theorem dX6_nextByte_0 : zD cX6_nextByte 0 (.aload_n 0) 1 1 := ⟨by decide +kernel, rfl⟩
theorem dX6_nextByte_1 : zD cX6_nextByte 1 (.getfield 23) 3 4 := ⟨by decide +kernel, rfl⟩
theorem dX6_nextByte_4 : zJ cX6_nextByte 4 (.ifCond .lt) 7 18 := ⟨14, by decide +kernel, rfl, by decide⟩
theorem dX6_nextByte_7 : zD cX6_nextByte 7 (.aload_n 0) 1 8 := ⟨by decide +kernel, rfl⟩
theorem dX6_nextByte_8 : zD cX6_nextByte 8 (.getfield 23) 3 11 := ⟨by decide +kernel, rfl⟩
theorem dX6_nextByte_11 : zD cX6_nextByte 11 (.aload_n 0) 1 12 := ⟨by decide +kernel, rfl⟩
theorem dX6_nextByte_12 : zD cX6_nextByte 12 (.getfield 19) 3 15 := ⟨by decide +kernel, rfl⟩
theorem dX6_nextByte_15 : zJ cX6_nextByte 15 (.if_icmp .lt) 18 20 := ⟨5, by decide +kernel, rfl, by decide⟩
theorem dX6_nextByte_18 : zD cX6_nextByte 18 (.iconst (-1)) 1 19 := ⟨by decide +kernel, rfl⟩
theorem dX6_nextByte_19 : zD cX6_nextByte 19 .ireturn 1 20 := ⟨by decide +kernel, rfl⟩
theorem dX6_nextByte_20 : zD cX6_nextByte 20 (.aload_n 0) 1 21 := ⟨by decide +kernel, rfl⟩
theorem dX6_nextByte_21 : zD cX6_nextByte 21 (.getfield 9) 3 24 := ⟨by decide +kernel, rfl⟩
theorem dX6_nextByte_24 : zD cX6_nextByte 24 (.aload_n 0) 1 25 := ⟨by decide +kernel, rfl⟩
theorem dX6_nextByte_25 : zD cX6_nextByte 25 (.getfield 23) 3 28 := ⟨by decide +kernel, rfl⟩
theorem dX6_nextByte_28 : zD cX6_nextByte 28 .baload 1 29 := ⟨by decide +kernel, rfl⟩
theorem dX6_nextByte_29 : zD cX6_nextByte 29 (.sipush 255) 3 32 := ⟨by decide +kernel, rfl⟩
theorem dX6_nextByte_32 : zD cX6_nextByte 32 .iand 1 33 := ⟨by decide +kernel, rfl⟩
theorem dX6_nextByte_33 : zD cX6_nextByte 33 (.istore_n 1) 1 34 := ⟨by decide +kernel, rfl⟩
theorem dX6_nextByte_34 : zD cX6_nextByte 34 (.aload_n 0) 1 35 := ⟨by decide +kernel, rfl⟩
theorem dX6_nextByte_35 : zD cX6_nextByte 35 .dup 1 36 := ⟨by decide +kernel, rfl⟩
theorem dX6_nextByte_36 : zD cX6_nextByte 36 (.getfield 23) 3 39 := ⟨by decide +kernel, rfl⟩
theorem dX6_nextByte_39 : zD cX6_nextByte 39 (.iconst 1) 1 40 := ⟨by decide +kernel, rfl⟩
theorem dX6_nextByte_40 : zD cX6_nextByte 40 .iadd 1 41 := ⟨by decide +kernel, rfl⟩
theorem dX6_nextByte_41 : zD cX6_nextByte 41 (.putfield 23) 3 44 := ⟨by decide +kernel, rfl⟩
theorem dX6_nextByte_44 : zD cX6_nextByte 44 (.iload_n 1) 1 45 := ⟨by decide +kernel, rfl⟩
theorem dX6_nextByte_45 : zD cX6_nextByte 45 .ireturn 1 46 := ⟨by decide +kernel, rfl⟩
theorem dX7_init_0 : zD cX7_init 0 (.aload_n 0) 1 1 := ⟨by decide +kernel, rfl⟩
theorem dX7_init_1 : zD cX7_init 1 (.invokespecial 1) 3 4 := ⟨by decide +kernel, rfl⟩
theorem dX7_init_4 : zD cX7_init 4 (.aload_n 0) 1 5 := ⟨by decide +kernel, rfl⟩
theorem dX7_init_5 : zD cX7_init 5 (.new 7) 3 8 := ⟨by decide +kernel, rfl⟩
theorem dX7_init_8 : zD cX7_init 8 .dup 1 9 := ⟨by decide +kernel, rfl⟩
theorem dX7_init_9 : zD cX7_init 9 (.invokespecial 9) 3 12 := ⟨by decide +kernel, rfl⟩
theorem dX7_init_12 : zD cX7_init 12 (.putfield 10) 3 15 := ⟨by decide +kernel, rfl⟩
theorem dX7_init_15 : zD cX7_init 15 (.aload_n 0) 1 16 := ⟨by decide +kernel, rfl⟩
theorem dX7_init_16 : zD cX7_init 16 (.new 16) 3 19 := ⟨by decide +kernel, rfl⟩
theorem dX7_init_19 : zD cX7_init 19 .dup 1 20 := ⟨by decide +kernel, rfl⟩
theorem dX7_init_20 : zD cX7_init 20 (.invokespecial 18) 3 23 := ⟨by decide +kernel, rfl⟩
theorem dX7_init_23 : zD cX7_init 23 (.putfield 19) 3 26 := ⟨by decide +kernel, rfl⟩
theorem dX7_init_26 : zD cX7_init 26 (.aload_n 0) 1 27 := ⟨by decide +kernel, rfl⟩
theorem dX7_init_27 : zD cX7_init 27 (.aload_n 0) 1 28 := ⟨by decide +kernel, rfl⟩
theorem dX7_init_28 : zD cX7_init 28 (.getfield 19) 3 31 := ⟨by decide +kernel, rfl⟩
theorem dX7_init_31 : zD cX7_init 31 (.getfield 23) 3 34 := ⟨by decide +kernel, rfl⟩
theorem dX7_init_34 : zD cX7_init 34 (.putfield 27) 3 37 := ⟨by decide +kernel, rfl⟩
theorem dX7_init_37 : zD cX7_init 37 (.aload_n 0) 1 38 := ⟨by decide +kernel, rfl⟩
theorem dX7_init_38 : zD cX7_init 38 (.new 28) 3 41 := ⟨by decide +kernel, rfl⟩
theorem dX7_init_41 : zD cX7_init 41 .dup 1 42 := ⟨by decide +kernel, rfl⟩
theorem dX7_init_42 : zD cX7_init 42 (.invokespecial 30) 3 45 := ⟨by decide +kernel, rfl⟩
theorem dX7_init_45 : zD cX7_init 45 (.putfield 31) 3 48 := ⟨by decide +kernel, rfl⟩
theorem dX7_init_48 : zD cX7_init 48 (.aload_n 0) 1 49 := ⟨by decide +kernel, rfl⟩
theorem dX7_init_49 : zD cX7_init 49 (.new 35) 3 52 := ⟨by decide +kernel, rfl⟩
theorem dX7_init_52 : zD cX7_init 52 .dup 1 53 := ⟨by decide +kernel, rfl⟩
theorem dX7_init_53 : zD cX7_init 53 (.invokespecial 37) 3 56 := ⟨by decide +kernel, rfl⟩
theorem dX7_init_56 : zD cX7_init 56 (.putfield 38) 3 59 := ⟨by decide +kernel, rfl⟩
theorem dX7_init_59 : zD cX7_init 59 (.aload_n 0) 1 60 := ⟨by decide +kernel, rfl⟩
theorem dX7_init_60 : zD cX7_init 60 (.iconst 2) 1 61 := ⟨by decide +kernel, rfl⟩
theorem dX7_init_61 : zD cX7_init 61 (.anewarray 42) 3 64 := ⟨by decide +kernel, rfl⟩
theorem dX7_init_64 : zD cX7_init 64 .dup 1 65 := ⟨by decide +kernel, rfl⟩
theorem dX7_init_65 : zD cX7_init 65 (.iconst 0) 1 66 := ⟨by decide +kernel, rfl⟩
theorem dX7_init_66 : zD cX7_init 66 (.new 42) 3 69 := ⟨by decide +kernel, rfl⟩
theorem dX7_init_69 : zD cX7_init 69 .dup 1 70 := ⟨by decide +kernel, rfl⟩
theorem dX7_init_70 : zD cX7_init 70 (.invokespecial 44) 3 73 := ⟨by decide +kernel, rfl⟩
theorem dX7_init_73 : zD cX7_init 73 .aastore 1 74 := ⟨by decide +kernel, rfl⟩
theorem dX7_init_74 : zD cX7_init 74 .dup 1 75 := ⟨by decide +kernel, rfl⟩
theorem dX7_init_75 : zD cX7_init 75 (.iconst 1) 1 76 := ⟨by decide +kernel, rfl⟩
theorem dX7_init_76 : zD cX7_init 76 (.new 42) 3 79 := ⟨by decide +kernel, rfl⟩
theorem dX7_init_79 : zD cX7_init 79 .dup 1 80 := ⟨by decide +kernel, rfl⟩
theorem dX7_init_80 : zD cX7_init 80 (.invokespecial 44) 3 83 := ⟨by decide +kernel, rfl⟩
theorem dX7_init_83 : zD cX7_init 83 .aastore 1 84 := ⟨by decide +kernel, rfl⟩
theorem dX7_init_84 : zD cX7_init 84 (.putfield 45) 3 87 := ⟨by decide +kernel, rfl⟩
theorem dX7_init_87 : zD cX7_init 87 (.aload_n 0) 1 88 := ⟨by decide +kernel, rfl⟩
theorem dX7_init_88 : zD cX7_init 88 (.iconst 0) 1 89 := ⟨by decide +kernel, rfl⟩
theorem dX7_init_89 : zD cX7_init 89 (.putfield 49) 3 92 := ⟨by decide +kernel, rfl⟩
theorem dX7_init_92 : zD cX7_init 92 (.aload_n 0) 1 93 := ⟨by decide +kernel, rfl⟩
theorem dX7_init_93 : zD cX7_init 93 (.new 53) 3 96 := ⟨by decide +kernel, rfl⟩
theorem dX7_init_96 : zD cX7_init 96 .dup 1 97 := ⟨by decide +kernel, rfl⟩
theorem dX7_init_97 : zD cX7_init 97 (.invokespecial 55) 3 100 := ⟨by decide +kernel, rfl⟩
theorem dX7_init_100 : zD cX7_init 100 (.putfield 56) 3 103 := ⟨by decide +kernel, rfl⟩
theorem dX7_init_103 : zD cX7_init 103 (.aload_n 0) 1 104 := ⟨by decide +kernel, rfl⟩
theorem dX7_init_104 : zD cX7_init 104 (.new 53) 3 107 := ⟨by decide +kernel, rfl⟩
theorem dX7_init_107 : zD cX7_init 107 .dup 1 108 := ⟨by decide +kernel, rfl⟩
theorem dX7_init_108 : zD cX7_init 108 (.invokespecial 55) 3 111 := ⟨by decide +kernel, rfl⟩
theorem dX7_init_111 : zD cX7_init 111 (.putfield 60) 3 114 := ⟨by decide +kernel, rfl⟩
theorem dX7_init_114 : zD cX7_init 114 (.aload_n 0) 1 115 := ⟨by decide +kernel, rfl⟩
theorem dX7_init_115 : zD cX7_init 115 (.getfield 56) 3 118 := ⟨by decide +kernel, rfl⟩
theorem dX7_init_118 : zD cX7_init 118 (.iconst 0) 1 119 := ⟨by decide +kernel, rfl⟩
theorem dX7_init_119 : zD cX7_init 119 (.iconst 0) 1 120 := ⟨by decide +kernel, rfl⟩
theorem dX7_init_120 : zD cX7_init 120 (.bipush 50) 2 122 := ⟨by decide +kernel, rfl⟩
theorem dX7_init_122 : zD cX7_init 122 (.invokevirtual 63) 3 125 := ⟨by decide +kernel, rfl⟩
theorem dX7_init_125 : zD cX7_init 125 .pop 1 126 := ⟨by decide +kernel, rfl⟩
theorem dX7_init_126 : zD cX7_init 126 (.aload_n 0) 1 127 := ⟨by decide +kernel, rfl⟩
theorem dX7_init_127 : zD cX7_init 127 (.getfield 56) 3 130 := ⟨by decide +kernel, rfl⟩
theorem dX7_init_130 : zD cX7_init 130 (.iconst 0) 1 131 := ⟨by decide +kernel, rfl⟩
theorem dX7_init_131 : zD cX7_init 131 (.iconst 0) 1 132 := ⟨by decide +kernel, rfl⟩
theorem dX7_init_132 : zD cX7_init 132 (.bipush 50) 2 134 := ⟨by decide +kernel, rfl⟩
theorem dX7_init_134 : zD cX7_init 134 (.invokevirtual 63) 3 137 := ⟨by decide +kernel, rfl⟩
theorem dX7_init_137 : zD cX7_init 137 .pop 1 138 := ⟨by decide +kernel, rfl⟩
theorem dX7_init_138 : zD cX7_init 138 (.aload_n 0) 1 139 := ⟨by decide +kernel, rfl⟩
theorem dX7_init_139 : zD cX7_init 139 (.getfield 56) 3 142 := ⟨by decide +kernel, rfl⟩
theorem dX7_init_142 : zD cX7_init 142 (.iconst 0) 1 143 := ⟨by decide +kernel, rfl⟩
theorem dX7_init_143 : zD cX7_init 143 (.iconst 1) 1 144 := ⟨by decide +kernel, rfl⟩
theorem dX7_init_144 : zD cX7_init 144 (.bipush 50) 2 146 := ⟨by decide +kernel, rfl⟩
theorem dX7_init_146 : zD cX7_init 146 (.invokevirtual 63) 3 149 := ⟨by decide +kernel, rfl⟩
theorem dX7_init_149 : zD cX7_init 149 .pop 1 150 := ⟨by decide +kernel, rfl⟩
theorem dX7_init_150 : zD cX7_init 150 (.aload_n 0) 1 151 := ⟨by decide +kernel, rfl⟩
theorem dX7_init_151 : zD cX7_init 151 (.getfield 56) 3 154 := ⟨by decide +kernel, rfl⟩
theorem dX7_init_154 : zD cX7_init 154 (.iconst 2) 1 155 := ⟨by decide +kernel, rfl⟩
theorem dX7_init_155 : zD cX7_init 155 (.iconst 1) 1 156 := ⟨by decide +kernel, rfl⟩
theorem dX7_init_156 : zD cX7_init 156 (.invokevirtual 67) 3 159 := ⟨by decide +kernel, rfl⟩
theorem dX7_init_159 : zD cX7_init 159 .pop 1 160 := ⟨by decide +kernel, rfl⟩
theorem dX7_init_160 : zD cX7_init 160 (.aload_n 0) 1 161 := ⟨by decide +kernel, rfl⟩
theorem dX7_init_161 : zD cX7_init 161 (.aload_n 0) 1 162 := ⟨by decide +kernel, rfl⟩
theorem dX7_init_162 : zD cX7_init 162 (.getfield 56) 3 165 := ⟨by decide +kernel, rfl⟩
theorem dX7_init_165 : zD cX7_init 165 (.getfield 71) 3 168 := ⟨by decide +kernel, rfl⟩
theorem dX7_init_168 : zD cX7_init 168 (.getfield 75) 3 171 := ⟨by decide +kernel, rfl⟩
theorem dX7_init_171 : zD cX7_init 171 (.putfield 78) 3 174 := ⟨by decide +kernel, rfl⟩
theorem dX7_init_174 : zD cX7_init 174 .return_ 1 175 := ⟨by decide +kernel, rfl⟩
theorem dX7_write_0 : zD cX7_write 0 (.iload_n 1) 1 1 := ⟨by decide +kernel, rfl⟩
theorem dX7_write_1 : zD cX7_write 1 (.iconst 1) 1 2 := ⟨by decide +kernel, rfl⟩
theorem dX7_write_2 : zJ cX7_write 2 (.if_icmp .lt) 5 11 := ⟨9, by decide +kernel, rfl, by decide⟩
theorem dX7_write_5 : zD cX7_write 5 (.iload_n 1) 1 6 := ⟨by decide +kernel, rfl⟩
theorem dX7_write_6 : zD cX7_write 6 (.bipush 8) 2 8 := ⟨by decide +kernel, rfl⟩
theorem dX7_write_8 : zJ cX7_write 8 (.if_icmp .le) 11 13 := ⟨5, by decide +kernel, rfl, by decide⟩
theorem dX7_write_11 : zD cX7_write 11 (.iconst (-1)) 1 12 := ⟨by decide +kernel, rfl⟩
theorem dX7_write_12 : zD cX7_write 12 .ireturn 1 13 := ⟨by decide +kernel, rfl⟩
theorem dX7_write_13 : zD cX7_write 13 (.iload_n 1) 1 14 := ⟨by decide +kernel, rfl⟩
theorem dX7_write_14 : zD cX7_write 14 (.sipush 300) 3 17 := ⟨by decide +kernel, rfl⟩
theorem dX7_write_17 : zD cX7_write 17 (.aload_n 0) 1 18 := ⟨by decide +kernel, rfl⟩
theorem dX7_write_18 : zD cX7_write 18 (.getfield 10) 3 21 := ⟨by decide +kernel, rfl⟩
theorem dX7_write_21 : zD cX7_write 21 (.getfield 81) 3 24 := ⟨by decide +kernel, rfl⟩
theorem dX7_write_24 : zD cX7_write 24 .isub 1 25 := ⟨by decide +kernel, rfl⟩
theorem dX7_write_25 : zJ cX7_write 25 (.if_icmp .le) 28 31 := ⟨6, by decide +kernel, rfl, by decide⟩
theorem dX7_write_28 : zD cX7_write 28 (.bipush (-3)) 2 30 := ⟨by decide +kernel, rfl⟩
theorem dX7_write_30 : zD cX7_write 30 .ireturn 1 31 := ⟨by decide +kernel, rfl⟩
theorem dX7_write_31 : zD cX7_write 31 (.bipush 8) 2 33 := ⟨by decide +kernel, rfl⟩
theorem dX7_write_33 : zD cX7_write 33 (.iload_n 1) 1 34 := ⟨by decide +kernel, rfl⟩
theorem dX7_write_34 : zD cX7_write 34 (.iconst 1) 1 35 := ⟨by decide +kernel, rfl⟩
theorem dX7_write_35 : zD cX7_write 35 .isub 1 36 := ⟨by decide +kernel, rfl⟩
theorem dX7_write_36 : zD cX7_write 36 .imul 1 37 := ⟨by decide +kernel, rfl⟩
theorem dX7_write_37 : zD cX7_write 37 (.istore 4) 2 39 := ⟨by decide +kernel, rfl⟩
theorem dX7_write_39 : zD cX7_write 39 (.iload 4) 2 41 := ⟨by decide +kernel, rfl⟩
theorem dX7_write_41 : zJ cX7_write 41 (.ifCond .lt) 44 63 := ⟨22, by decide +kernel, rfl, by decide⟩
theorem dX7_write_44 : zD cX7_write 44 (.aload_n 0) 1 45 := ⟨by decide +kernel, rfl⟩
theorem dX7_write_45 : zD cX7_write 45 (.getfield 10) 3 48 := ⟨by decide +kernel, rfl⟩
theorem dX7_write_48 : zD cX7_write 48 (.lload_n 2) 1 49 := ⟨by decide +kernel, rfl⟩
theorem dX7_write_49 : zD cX7_write 49 (.iload 4) 2 51 := ⟨by decide +kernel, rfl⟩
theorem dX7_write_51 : zD cX7_write 51 .lushr 1 52 := ⟨by decide +kernel, rfl⟩
theorem dX7_write_52 : zD cX7_write 52 .l2i 1 53 := ⟨by decide +kernel, rfl⟩
theorem dX7_write_53 : zD cX7_write 53 .i2b 1 54 := ⟨by decide +kernel, rfl⟩
theorem dX7_write_54 : zD cX7_write 54 (.invokevirtual 84) 3 57 := ⟨by decide +kernel, rfl⟩
theorem dX7_write_57 : zD cX7_write 57 (.iinc 4 (-8)) 3 60 := ⟨by decide +kernel, rfl⟩
theorem dX7_write_60 : zJ cX7_write 60 .goto 63 39 := ⟨-21, by decide +kernel, rfl, by decide⟩
theorem dX7_write_63 : zD cX7_write 63 (.aload_n 0) 1 64 := ⟨by decide +kernel, rfl⟩
theorem dX7_write_64 : zD cX7_write 64 (.getfield 10) 3 67 := ⟨by decide +kernel, rfl⟩
theorem dX7_write_67 : zD cX7_write 67 (.getfield 81) 3 70 := ⟨by decide +kernel, rfl⟩
theorem dX7_write_70 : zD cX7_write 70 .ireturn 1 71 := ⟨by decide +kernel, rfl⟩
theorem dX7_wipe_0 : zD cX7_wipe 0 (.aload_n 0) 1 1 := ⟨by decide +kernel, rfl⟩
theorem dX7_wipe_1 : zD cX7_wipe 1 (.getfield 10) 3 4 := ⟨by decide +kernel, rfl⟩
theorem dX7_wipe_4 : zD cX7_wipe 4 (.getfield 81) 3 7 := ⟨by decide +kernel, rfl⟩
theorem dX7_wipe_7 : zD cX7_wipe 7 (.istore_n 1) 1 8 := ⟨by decide +kernel, rfl⟩
theorem dX7_wipe_8 : zD cX7_wipe 8 (.aload_n 0) 1 9 := ⟨by decide +kernel, rfl⟩
theorem dX7_wipe_9 : zD cX7_wipe 9 (.getfield 10) 3 12 := ⟨by decide +kernel, rfl⟩
theorem dX7_wipe_12 : zD cX7_wipe 12 (.iconst 0) 1 13 := ⟨by decide +kernel, rfl⟩
theorem dX7_wipe_13 : zD cX7_wipe 13 (.putfield 81) 3 16 := ⟨by decide +kernel, rfl⟩
theorem dX7_wipe_16 : zD cX7_wipe 16 (.iload_n 1) 1 17 := ⟨by decide +kernel, rfl⟩
theorem dX7_wipe_17 : zD cX7_wipe 17 .ireturn 1 18 := ⟨by decide +kernel, rfl⟩
theorem dX7_fault_0 : zD cX7_fault 0 (.aload_n 0) 1 1 := ⟨by decide +kernel, rfl⟩
theorem dX7_fault_1 : zD cX7_fault 1 (.getfield 10) 3 4 := ⟨by decide +kernel, rfl⟩
theorem dX7_fault_4 : zD cX7_fault 4 (.aload_n 0) 1 5 := ⟨by decide +kernel, rfl⟩
theorem dX7_fault_5 : zD cX7_fault 5 (.getfield 60) 3 8 := ⟨by decide +kernel, rfl⟩
theorem dX7_fault_8 : zD cX7_fault 8 (.invokevirtual 88) 3 11 := ⟨by decide +kernel, rfl⟩
theorem dX7_fault_11 : zD cX7_fault 11 .ireturn 1 12 := ⟨by decide +kernel, rfl⟩
theorem dX7_lay_0 : zD cX7_lay 0 (.aload_n 0) 1 1 := ⟨by decide +kernel, rfl⟩
theorem dX7_lay_1 : zD cX7_lay 1 (.getfield 10) 3 4 := ⟨by decide +kernel, rfl⟩
theorem dX7_lay_4 : zD cX7_lay 4 (.aload_n 0) 1 5 := ⟨by decide +kernel, rfl⟩
theorem dX7_lay_5 : zD cX7_lay 5 (.getfield 60) 3 8 := ⟨by decide +kernel, rfl⟩
theorem dX7_lay_8 : zD cX7_lay 8 (.invokevirtual 88) 3 11 := ⟨by decide +kernel, rfl⟩
theorem dX7_lay_11 : zD cX7_lay 11 (.bipush (-4)) 2 13 := ⟨by decide +kernel, rfl⟩
theorem dX7_lay_13 : zJ cX7_lay 13 (.if_icmp .ne) 16 26 := ⟨13, by decide +kernel, rfl, by decide⟩
theorem dX7_lay_16 : zD cX7_lay 16 (.aload_n 0) 1 17 := ⟨by decide +kernel, rfl⟩
theorem dX7_lay_17 : zD cX7_lay 17 (.getfield 60) 3 20 := ⟨by decide +kernel, rfl⟩
theorem dX7_lay_20 : zD cX7_lay 20 (.getfield 92) 3 23 := ⟨by decide +kernel, rfl⟩
theorem dX7_lay_23 : zJ cX7_lay 23 (.ifCond .ne) 26 29 := ⟨6, by decide +kernel, rfl, by decide⟩
theorem dX7_lay_26 : zD cX7_lay 26 (.bipush (-2)) 2 28 := ⟨by decide +kernel, rfl⟩
theorem dX7_lay_28 : zD cX7_lay 28 .ireturn 1 29 := ⟨by decide +kernel, rfl⟩
theorem dX7_lay_29 : zD cX7_lay 29 (.aload_n 0) 1 30 := ⟨by decide +kernel, rfl⟩
theorem dX7_lay_30 : zD cX7_lay 30 (.getfield 56) 3 33 := ⟨by decide +kernel, rfl⟩
theorem dX7_lay_33 : zD cX7_lay 33 (.astore_n 1) 1 34 := ⟨by decide +kernel, rfl⟩
theorem dX7_lay_34 : zD cX7_lay 34 (.aload_n 0) 1 35 := ⟨by decide +kernel, rfl⟩
theorem dX7_lay_35 : zD cX7_lay 35 (.aload_n 0) 1 36 := ⟨by decide +kernel, rfl⟩
theorem dX7_lay_36 : zD cX7_lay 36 (.getfield 60) 3 39 := ⟨by decide +kernel, rfl⟩
theorem dX7_lay_39 : zD cX7_lay 39 (.putfield 56) 3 42 := ⟨by decide +kernel, rfl⟩
theorem dX7_lay_42 : zD cX7_lay 42 (.aload_n 0) 1 43 := ⟨by decide +kernel, rfl⟩
theorem dX7_lay_43 : zD cX7_lay 43 (.aload_n 1) 1 44 := ⟨by decide +kernel, rfl⟩
theorem dX7_lay_44 : zD cX7_lay 44 (.putfield 60) 3 47 := ⟨by decide +kernel, rfl⟩
theorem dX7_lay_47 : zD cX7_lay 47 (.aload_n 0) 1 48 := ⟨by decide +kernel, rfl⟩
theorem dX7_lay_48 : zD cX7_lay 48 (.aload_n 0) 1 49 := ⟨by decide +kernel, rfl⟩
theorem dX7_lay_49 : zD cX7_lay 49 (.getfield 56) 3 52 := ⟨by decide +kernel, rfl⟩
theorem dX7_lay_52 : zD cX7_lay 52 (.getfield 71) 3 55 := ⟨by decide +kernel, rfl⟩
theorem dX7_lay_55 : zD cX7_lay 55 (.getfield 75) 3 58 := ⟨by decide +kernel, rfl⟩
theorem dX7_lay_58 : zD cX7_lay 58 (.putfield 78) 3 61 := ⟨by decide +kernel, rfl⟩
theorem dX7_lay_61 : zD cX7_lay 61 (.aload_n 0) 1 62 := ⟨by decide +kernel, rfl⟩
theorem dX7_lay_62 : zD cX7_lay 62 (.iconst 0) 1 63 := ⟨by decide +kernel, rfl⟩
theorem dX7_lay_63 : zD cX7_lay 63 (.putfield 49) 3 66 := ⟨by decide +kernel, rfl⟩
theorem dX7_lay_66 : zD cX7_lay 66 (.aload_n 0) 1 67 := ⟨by decide +kernel, rfl⟩
theorem dX7_lay_67 : zD cX7_lay 67 (.getfield 38) 3 70 := ⟨by decide +kernel, rfl⟩
theorem dX7_lay_70 : zD cX7_lay 70 (.invokevirtual 95) 3 73 := ⟨by decide +kernel, rfl⟩
theorem dX7_lay_73 : zD cX7_lay 73 (.aload_n 0) 1 74 := ⟨by decide +kernel, rfl⟩
theorem dX7_lay_74 : zD cX7_lay 74 (.getfield 56) 3 77 := ⟨by decide +kernel, rfl⟩
theorem dX7_lay_77 : zD cX7_lay 77 (.getfield 92) 3 80 := ⟨by decide +kernel, rfl⟩
theorem dX7_lay_80 : zD cX7_lay 80 .ireturn 1 81 := ⟨by decide +kernel, rfl⟩
theorem dX7_person_0 : zD cX7_person 0 (.aload_n 0) 1 1 := ⟨by decide +kernel, rfl⟩
theorem dX7_person_1 : zD cX7_person 1 (.iload_n 1) 1 2 := ⟨by decide +kernel, rfl⟩
theorem dX7_person_2 : zD cX7_person 2 (.invokevirtual 98) 3 5 := ⟨by decide +kernel, rfl⟩
theorem dX7_person_5 : zJ cX7_person 5 (.ifCond .ne) 8 10 := ⟨5, by decide +kernel, rfl, by decide⟩
theorem dX7_person_8 : zD cX7_person 8 (.iconst (-1)) 1 9 := ⟨by decide +kernel, rfl⟩
theorem dX7_person_9 : zD cX7_person 9 .ireturn 1 10 := ⟨by decide +kernel, rfl⟩
theorem dX7_person_10 : zD cX7_person 10 (.iload_n 2) 1 11 := ⟨by decide +kernel, rfl⟩
theorem dX7_person_11 : zD cX7_person 11 (.tableswitch 91 0 4 #[33, 43, 53, 63, 77]) 33 44 := ⟨by decide +kernel, rfl⟩
theorem dX7_person_44 : zD cX7_person 44 (.aload_n 0) 1 45 := ⟨by decide +kernel, rfl⟩
theorem dX7_person_45 : zD cX7_person 45 (.getfield 56) 3 48 := ⟨by decide +kernel, rfl⟩
theorem dX7_person_48 : zD cX7_person 48 (.getfield 102) 3 51 := ⟨by decide +kernel, rfl⟩
theorem dX7_person_51 : zD cX7_person 51 (.iload_n 1) 1 52 := ⟨by decide +kernel, rfl⟩
theorem dX7_person_52 : zD cX7_person 52 .iaload 1 53 := ⟨by decide +kernel, rfl⟩
theorem dX7_person_53 : zD cX7_person 53 .ireturn 1 54 := ⟨by decide +kernel, rfl⟩
theorem dX7_person_54 : zD cX7_person 54 (.aload_n 0) 1 55 := ⟨by decide +kernel, rfl⟩
theorem dX7_person_55 : zD cX7_person 55 (.getfield 56) 3 58 := ⟨by decide +kernel, rfl⟩
theorem dX7_person_58 : zD cX7_person 58 (.getfield 106) 3 61 := ⟨by decide +kernel, rfl⟩
theorem dX7_person_61 : zD cX7_person 61 (.iload_n 1) 1 62 := ⟨by decide +kernel, rfl⟩
theorem dX7_person_62 : zD cX7_person 62 .iaload 1 63 := ⟨by decide +kernel, rfl⟩
theorem dX7_person_63 : zD cX7_person 63 .ireturn 1 64 := ⟨by decide +kernel, rfl⟩
theorem dX7_person_64 : zD cX7_person 64 (.aload_n 0) 1 65 := ⟨by decide +kernel, rfl⟩
theorem dX7_person_65 : zD cX7_person 65 (.getfield 56) 3 68 := ⟨by decide +kernel, rfl⟩
theorem dX7_person_68 : zD cX7_person 68 (.getfield 109) 3 71 := ⟨by decide +kernel, rfl⟩
theorem dX7_person_71 : zD cX7_person 71 (.iload_n 1) 1 72 := ⟨by decide +kernel, rfl⟩
theorem dX7_person_72 : zD cX7_person 72 .iaload 1 73 := ⟨by decide +kernel, rfl⟩
theorem dX7_person_73 : zD cX7_person 73 .ireturn 1 74 := ⟨by decide +kernel, rfl⟩
theorem dX7_person_74 : zD cX7_person 74 (.aload_n 0) 1 75 := ⟨by decide +kernel, rfl⟩
theorem dX7_person_75 : zD cX7_person 75 (.invokevirtual 112) 3 78 := ⟨by decide +kernel, rfl⟩
theorem dX7_person_78 : zD cX7_person 78 (.aload_n 0) 1 79 := ⟨by decide +kernel, rfl⟩
theorem dX7_person_79 : zD cX7_person 79 (.getfield 27) 3 82 := ⟨by decide +kernel, rfl⟩
theorem dX7_person_82 : zD cX7_person 82 (.getfield 115) 3 85 := ⟨by decide +kernel, rfl⟩
theorem dX7_person_85 : zD cX7_person 85 (.iload_n 1) 1 86 := ⟨by decide +kernel, rfl⟩
theorem dX7_person_86 : zD cX7_person 86 .iaload 1 87 := ⟨by decide +kernel, rfl⟩
theorem dX7_person_87 : zD cX7_person 87 .ireturn 1 88 := ⟨by decide +kernel, rfl⟩
theorem dX7_person_88 : zD cX7_person 88 (.aload_n 0) 1 89 := ⟨by decide +kernel, rfl⟩
theorem dX7_person_89 : zD cX7_person 89 (.invokevirtual 112) 3 92 := ⟨by decide +kernel, rfl⟩
theorem dX7_person_92 : zD cX7_person 92 (.aload_n 0) 1 93 := ⟨by decide +kernel, rfl⟩
theorem dX7_person_93 : zD cX7_person 93 (.getfield 27) 3 96 := ⟨by decide +kernel, rfl⟩
theorem dX7_person_96 : zD cX7_person 96 (.getfield 120) 3 99 := ⟨by decide +kernel, rfl⟩
theorem dX7_person_99 : zD cX7_person 99 (.iload_n 1) 1 100 := ⟨by decide +kernel, rfl⟩
theorem dX7_person_100 : zD cX7_person 100 .iaload 1 101 := ⟨by decide +kernel, rfl⟩
theorem dX7_person_101 : zD cX7_person 101 .ireturn 1 102 := ⟨by decide +kernel, rfl⟩
theorem dX7_person_102 : zD cX7_person 102 (.iconst (-1)) 1 103 := ⟨by decide +kernel, rfl⟩
theorem dX7_person_103 : zD cX7_person 103 .ireturn 1 104 := ⟨by decide +kernel, rfl⟩
theorem dX7_place_0 : zD cX7_place 0 (.aload_n 0) 1 1 := ⟨by decide +kernel, rfl⟩
theorem dX7_place_1 : zD cX7_place 1 (.iload_n 1) 1 2 := ⟨by decide +kernel, rfl⟩
theorem dX7_place_2 : zD cX7_place 2 (.invokevirtual 98) 3 5 := ⟨by decide +kernel, rfl⟩
theorem dX7_place_5 : zJ cX7_place 5 (.ifCond .eq) 8 15 := ⟨10, by decide +kernel, rfl, by decide⟩
theorem dX7_place_8 : zD cX7_place 8 (.iload_n 2) 1 9 := ⟨by decide +kernel, rfl⟩
theorem dX7_place_9 : zD cX7_place 9 (.invokestatic 123) 3 12 := ⟨by decide +kernel, rfl⟩
theorem dX7_place_12 : zJ cX7_place 12 (.ifCond .ne) 15 17 := ⟨5, by decide +kernel, rfl, by decide⟩
theorem dX7_place_15 : zD cX7_place 15 (.iconst (-1)) 1 16 := ⟨by decide +kernel, rfl⟩
theorem dX7_place_16 : zD cX7_place 16 .ireturn 1 17 := ⟨by decide +kernel, rfl⟩
theorem dX7_place_17 : zD cX7_place 17 (.aload_n 0) 1 18 := ⟨by decide +kernel, rfl⟩
theorem dX7_place_18 : zD cX7_place 18 (.getfield 27) 3 21 := ⟨by decide +kernel, rfl⟩
theorem dX7_place_21 : zD cX7_place 21 (.aload_n 0) 1 22 := ⟨by decide +kernel, rfl⟩
theorem dX7_place_22 : zD cX7_place 22 (.getfield 56) 3 25 := ⟨by decide +kernel, rfl⟩
theorem dX7_place_25 : zD cX7_place 25 (.invokevirtual 126) 3 28 := ⟨by decide +kernel, rfl⟩
theorem dX7_place_28 : zD cX7_place 28 (.aload_n 0) 1 29 := ⟨by decide +kernel, rfl⟩
theorem dX7_place_29 : zD cX7_place 29 (.getfield 27) 3 32 := ⟨by decide +kernel, rfl⟩
theorem dX7_place_32 : zD cX7_place 32 (.iload_n 2) 1 33 := ⟨by decide +kernel, rfl⟩
theorem dX7_place_33 : zD cX7_place 33 (.invokevirtual 130) 3 36 := ⟨by decide +kernel, rfl⟩
theorem dX7_place_36 : zD cX7_place 36 (.aload_n 0) 1 37 := ⟨by decide +kernel, rfl⟩
theorem dX7_place_37 : zD cX7_place 37 (.getfield 27) 3 40 := ⟨by decide +kernel, rfl⟩
theorem dX7_place_40 : zD cX7_place 40 (.iload_n 1) 1 41 := ⟨by decide +kernel, rfl⟩
theorem dX7_place_41 : zD cX7_place 41 (.invokevirtual 134) 3 44 := ⟨by decide +kernel, rfl⟩
theorem dX7_place_44 : zD cX7_place 44 .ireturn 1 45 := ⟨by decide +kernel, rfl⟩
theorem dX7_row_0 : zD cX7_row 0 (.iload_n 1) 1 1 := ⟨by decide +kernel, rfl⟩
theorem dX7_row_1 : zD cX7_row 1 (.invokestatic 123) 3 4 := ⟨by decide +kernel, rfl⟩
theorem dX7_row_4 : zJ cX7_row 4 (.ifCond .ne) 7 9 := ⟨5, by decide +kernel, rfl, by decide⟩
theorem dX7_row_7 : zD cX7_row 7 (.iconst (-1)) 1 8 := ⟨by decide +kernel, rfl⟩
theorem dX7_row_8 : zD cX7_row 8 .ireturn 1 9 := ⟨by decide +kernel, rfl⟩
theorem dX7_row_9 : zD cX7_row 9 (.aload_n 0) 1 10 := ⟨by decide +kernel, rfl⟩
theorem dX7_row_10 : zD cX7_row 10 (.getfield 27) 3 13 := ⟨by decide +kernel, rfl⟩
theorem dX7_row_13 : zD cX7_row 13 (.aload_n 0) 1 14 := ⟨by decide +kernel, rfl⟩
theorem dX7_row_14 : zD cX7_row 14 (.getfield 56) 3 17 := ⟨by decide +kernel, rfl⟩
theorem dX7_row_17 : zD cX7_row 17 (.invokevirtual 126) 3 20 := ⟨by decide +kernel, rfl⟩
theorem dX7_row_20 : zD cX7_row 20 (.aload_n 0) 1 21 := ⟨by decide +kernel, rfl⟩
theorem dX7_row_21 : zD cX7_row 21 (.getfield 27) 3 24 := ⟨by decide +kernel, rfl⟩
theorem dX7_row_24 : zD cX7_row 24 (.iload_n 1) 1 25 := ⟨by decide +kernel, rfl⟩
theorem dX7_row_25 : zD cX7_row 25 (.invokevirtual 130) 3 28 := ⟨by decide +kernel, rfl⟩
theorem dX7_row_28 : zD cX7_row 28 (.aload_n 0) 1 29 := ⟨by decide +kernel, rfl⟩
theorem dX7_row_29 : zD cX7_row 29 (.getfield 27) 3 32 := ⟨by decide +kernel, rfl⟩
theorem dX7_row_32 : zD cX7_row 32 (.getfield 138) 3 35 := ⟨by decide +kernel, rfl⟩
theorem dX7_row_35 : zD cX7_row 35 .ireturn 1 36 := ⟨by decide +kernel, rfl⟩
theorem dX7_all_0 : zD cX7_all 0 (.iload_n 1) 1 1 := ⟨by decide +kernel, rfl⟩
theorem dX7_all_1 : zJ cX7_all 1 (.ifCond .lt) 4 9 := ⟨8, by decide +kernel, rfl, by decide⟩
theorem dX7_all_4 : zD cX7_all 4 (.iload_n 1) 1 5 := ⟨by decide +kernel, rfl⟩
theorem dX7_all_5 : zD cX7_all 5 (.iconst 5) 1 6 := ⟨by decide +kernel, rfl⟩
theorem dX7_all_6 : zJ cX7_all 6 (.if_icmp .le) 9 11 := ⟨5, by decide +kernel, rfl, by decide⟩
theorem dX7_all_9 : zD cX7_all 9 (.iconst (-1)) 1 10 := ⟨by decide +kernel, rfl⟩
theorem dX7_all_10 : zD cX7_all 10 .ireturn 1 11 := ⟨by decide +kernel, rfl⟩
theorem dX7_all_11 : zD cX7_all 11 (.aload_n 0) 1 12 := ⟨by decide +kernel, rfl⟩
theorem dX7_all_12 : zD cX7_all 12 (.invokevirtual 112) 3 15 := ⟨by decide +kernel, rfl⟩
theorem dX7_all_15 : zD cX7_all 15 (.iload_n 1) 1 16 := ⟨by decide +kernel, rfl⟩
theorem dX7_all_16 : zD cX7_all 16 (.iconst 4) 1 17 := ⟨by decide +kernel, rfl⟩
theorem dX7_all_17 : zJ cX7_all 17 (.if_icmp .ne) 20 28 := ⟨11, by decide +kernel, rfl, by decide⟩
theorem dX7_all_20 : zD cX7_all 20 (.aload_n 0) 1 21 := ⟨by decide +kernel, rfl⟩
theorem dX7_all_21 : zD cX7_all 21 (.getfield 27) 3 24 := ⟨by decide +kernel, rfl⟩
theorem dX7_all_24 : zD cX7_all 24 (.getfield 139) 3 27 := ⟨by decide +kernel, rfl⟩
theorem dX7_all_27 : zD cX7_all 27 .ireturn 1 28 := ⟨by decide +kernel, rfl⟩
theorem dX7_all_28 : zD cX7_all 28 (.iload_n 1) 1 29 := ⟨by decide +kernel, rfl⟩
theorem dX7_all_29 : zD cX7_all 29 (.iconst 5) 1 30 := ⟨by decide +kernel, rfl⟩
theorem dX7_all_30 : zJ cX7_all 30 (.if_icmp .ne) 33 43 := ⟨13, by decide +kernel, rfl, by decide⟩
theorem dX7_all_33 : zD cX7_all 33 (.aload_n 0) 1 34 := ⟨by decide +kernel, rfl⟩
theorem dX7_all_34 : zD cX7_all 34 (.getfield 27) 3 37 := ⟨by decide +kernel, rfl⟩
theorem dX7_all_37 : zD cX7_all 37 (.invokevirtual 142) 3 40 := ⟨by decide +kernel, rfl⟩
theorem dX7_all_40 : zJ cX7_all 40 .goto 43 51 := ⟨11, by decide +kernel, rfl, by decide⟩
theorem dX7_all_43 : zD cX7_all 43 (.aload_n 0) 1 44 := ⟨by decide +kernel, rfl⟩
theorem dX7_all_44 : zD cX7_all 44 (.getfield 27) 3 47 := ⟨by decide +kernel, rfl⟩
theorem dX7_all_47 : zD cX7_all 47 (.iload_n 1) 1 48 := ⟨by decide +kernel, rfl⟩
theorem dX7_all_48 : zD cX7_all 48 (.invokevirtual 146) 3 51 := ⟨by decide +kernel, rfl⟩
theorem dX7_all_51 : zD cX7_all 51 .ireturn 1 52 := ⟨by decide +kernel, rfl⟩
theorem dX7_cry_0 : zD cX7_cry 0 (.iload_n 1) 1 1 := ⟨by decide +kernel, rfl⟩
theorem dX7_cry_1 : zJ cX7_cry 1 (.ifCond .lt) 4 18 := ⟨17, by decide +kernel, rfl, by decide⟩
theorem dX7_cry_4 : zD cX7_cry 4 (.iload_n 1) 1 5 := ⟨by decide +kernel, rfl⟩
theorem dX7_cry_5 : zD cX7_cry 5 (.aload_n 0) 1 6 := ⟨by decide +kernel, rfl⟩
theorem dX7_cry_6 : zD cX7_cry 6 (.getfield 56) 3 9 := ⟨by decide +kernel, rfl⟩
theorem dX7_cry_9 : zD cX7_cry 9 (.getfield 71) 3 12 := ⟨by decide +kernel, rfl⟩
theorem dX7_cry_12 : zD cX7_cry 12 (.getfield 75) 3 15 := ⟨by decide +kernel, rfl⟩
theorem dX7_cry_15 : zJ cX7_cry 15 (.if_icmp .lt) 18 20 := ⟨5, by decide +kernel, rfl, by decide⟩
theorem dX7_cry_18 : zD cX7_cry 18 (.iconst (-1)) 1 19 := ⟨by decide +kernel, rfl⟩
theorem dX7_cry_19 : zD cX7_cry 19 .ireturn 1 20 := ⟨by decide +kernel, rfl⟩
theorem dX7_cry_20 : zD cX7_cry 20 (.iload_n 2) 1 21 := ⟨by decide +kernel, rfl⟩
theorem dX7_cry_21 : zD cX7_cry 21 (.tableswitch 66 0 2 #[27, 40, 53]) 27 48 := ⟨by decide +kernel, rfl⟩
theorem dX7_cry_48 : zD cX7_cry 48 (.aload_n 0) 1 49 := ⟨by decide +kernel, rfl⟩
theorem dX7_cry_49 : zD cX7_cry 49 (.getfield 56) 3 52 := ⟨by decide +kernel, rfl⟩
theorem dX7_cry_52 : zD cX7_cry 52 (.getfield 71) 3 55 := ⟨by decide +kernel, rfl⟩
theorem dX7_cry_55 : zD cX7_cry 55 (.getfield 149) 3 58 := ⟨by decide +kernel, rfl⟩
theorem dX7_cry_58 : zD cX7_cry 58 (.iload_n 1) 1 59 := ⟨by decide +kernel, rfl⟩
theorem dX7_cry_59 : zD cX7_cry 59 .iaload 1 60 := ⟨by decide +kernel, rfl⟩
theorem dX7_cry_60 : zD cX7_cry 60 .ireturn 1 61 := ⟨by decide +kernel, rfl⟩
theorem dX7_cry_61 : zD cX7_cry 61 (.aload_n 0) 1 62 := ⟨by decide +kernel, rfl⟩
theorem dX7_cry_62 : zD cX7_cry 62 (.getfield 56) 3 65 := ⟨by decide +kernel, rfl⟩
theorem dX7_cry_65 : zD cX7_cry 65 (.getfield 71) 3 68 := ⟨by decide +kernel, rfl⟩
theorem dX7_cry_68 : zD cX7_cry 68 (.getfield 152) 3 71 := ⟨by decide +kernel, rfl⟩
theorem dX7_cry_71 : zD cX7_cry 71 (.iload_n 1) 1 72 := ⟨by decide +kernel, rfl⟩
theorem dX7_cry_72 : zD cX7_cry 72 .iaload 1 73 := ⟨by decide +kernel, rfl⟩
theorem dX7_cry_73 : zD cX7_cry 73 .ireturn 1 74 := ⟨by decide +kernel, rfl⟩
theorem dX7_cry_74 : zD cX7_cry 74 (.aload_n 0) 1 75 := ⟨by decide +kernel, rfl⟩
theorem dX7_cry_75 : zD cX7_cry 75 (.getfield 19) 3 78 := ⟨by decide +kernel, rfl⟩
theorem dX7_cry_78 : zD cX7_cry 78 (.aload_n 0) 1 79 := ⟨by decide +kernel, rfl⟩
theorem dX7_cry_79 : zD cX7_cry 79 (.getfield 56) 3 82 := ⟨by decide +kernel, rfl⟩
theorem dX7_cry_82 : zD cX7_cry 82 (.iload_n 1) 1 83 := ⟨by decide +kernel, rfl⟩
theorem dX7_cry_83 : zD cX7_cry 83 (.invokevirtual 155) 3 86 := ⟨by decide +kernel, rfl⟩
theorem dX7_cry_86 : zD cX7_cry 86 .ireturn 1 87 := ⟨by decide +kernel, rfl⟩
theorem dX7_cry_87 : zD cX7_cry 87 (.iconst (-1)) 1 88 := ⟨by decide +kernel, rfl⟩
theorem dX7_cry_88 : zD cX7_cry 88 .ireturn 1 89 := ⟨by decide +kernel, rfl⟩
theorem dX7_suspect_0 : zD cX7_suspect 0 (.aload_n 0) 1 1 := ⟨by decide +kernel, rfl⟩
theorem dX7_suspect_1 : zD cX7_suspect 1 (.getfield 19) 3 4 := ⟨by decide +kernel, rfl⟩
theorem dX7_suspect_4 : zD cX7_suspect 4 (.aload_n 0) 1 5 := ⟨by decide +kernel, rfl⟩
theorem dX7_suspect_5 : zD cX7_suspect 5 (.getfield 56) 3 8 := ⟨by decide +kernel, rfl⟩
theorem dX7_suspect_8 : zD cX7_suspect 8 (.invokevirtual 159) 3 11 := ⟨by decide +kernel, rfl⟩
theorem dX7_suspect_11 : zD cX7_suspect 11 .ireturn 1 12 := ⟨by decide +kernel, rfl⟩
theorem dX7_tell_0 : zD cX7_tell 0 (.aload_n 0) 1 1 := ⟨by decide +kernel, rfl⟩
theorem dX7_tell_1 : zD cX7_tell 1 (.getfield 56) 3 4 := ⟨by decide +kernel, rfl⟩
theorem dX7_tell_4 : zD cX7_tell 4 (.iload_n 1) 1 5 := ⟨by decide +kernel, rfl⟩
theorem dX7_tell_5 : zD cX7_tell 5 (.invokevirtual 162) 3 8 := ⟨by decide +kernel, rfl⟩
theorem dX7_tell_8 : zJ cX7_tell 8 (.ifCond .eq) 11 21 := ⟨13, by decide +kernel, rfl, by decide⟩
theorem dX7_tell_11 : zD cX7_tell 11 (.iload_n 2) 1 12 := ⟨by decide +kernel, rfl⟩
theorem dX7_tell_12 : zJ cX7_tell 12 (.ifCond .lt) 15 21 := ⟨9, by decide +kernel, rfl, by decide⟩
theorem dX7_tell_15 : zD cX7_tell 15 (.iload_n 2) 1 16 := ⟨by decide +kernel, rfl⟩
theorem dX7_tell_16 : zD cX7_tell 16 (.bipush 100) 2 18 := ⟨by decide +kernel, rfl⟩
theorem dX7_tell_18 : zJ cX7_tell 18 (.if_icmp .lt) 21 23 := ⟨5, by decide +kernel, rfl, by decide⟩
theorem dX7_tell_21 : zD cX7_tell 21 (.iconst (-1)) 1 22 := ⟨by decide +kernel, rfl⟩
theorem dX7_tell_22 : zD cX7_tell 22 .ireturn 1 23 := ⟨by decide +kernel, rfl⟩
theorem dX7_tell_23 : zD cX7_tell 23 (.aload_n 0) 1 24 := ⟨by decide +kernel, rfl⟩
theorem dX7_tell_24 : zD cX7_tell 24 (.getfield 56) 3 27 := ⟨by decide +kernel, rfl⟩
theorem dX7_tell_27 : zD cX7_tell 27 (.iload_n 1) 1 28 := ⟨by decide +kernel, rfl⟩
theorem dX7_tell_28 : zD cX7_tell 28 (.iload_n 2) 1 29 := ⟨by decide +kernel, rfl⟩
theorem dX7_tell_29 : zD cX7_tell 29 (.invokevirtual 67) 3 32 := ⟨by decide +kernel, rfl⟩
theorem dX7_tell_32 : zJ cX7_tell 32 (.ifCond .ne) 35 38 := ⟨6, by decide +kernel, rfl, by decide⟩
theorem dX7_tell_35 : zD cX7_tell 35 (.bipush (-3)) 2 37 := ⟨by decide +kernel, rfl⟩
theorem dX7_tell_37 : zD cX7_tell 37 .ireturn 1 38 := ⟨by decide +kernel, rfl⟩
theorem dX7_tell_38 : zD cX7_tell 38 (.aload_n 0) 1 39 := ⟨by decide +kernel, rfl⟩
theorem dX7_tell_39 : zD cX7_tell 39 (.getfield 56) 3 42 := ⟨by decide +kernel, rfl⟩
theorem dX7_tell_42 : zD cX7_tell 42 (.getfield 71) 3 45 := ⟨by decide +kernel, rfl⟩
theorem dX7_tell_45 : zD cX7_tell 45 (.getfield 75) 3 48 := ⟨by decide +kernel, rfl⟩
theorem dX7_tell_48 : zD cX7_tell 48 .ireturn 1 49 := ⟨by decide +kernel, rfl⟩
theorem dX7_takeBack_0 : zD cX7_takeBack 0 (.aload_n 0) 1 1 := ⟨by decide +kernel, rfl⟩
theorem dX7_takeBack_1 : zD cX7_takeBack 1 (.getfield 56) 3 4 := ⟨by decide +kernel, rfl⟩
theorem dX7_takeBack_4 : zD cX7_takeBack 4 (.getfield 71) 3 7 := ⟨by decide +kernel, rfl⟩
theorem dX7_takeBack_7 : zD cX7_takeBack 7 (.getfield 75) 3 10 := ⟨by decide +kernel, rfl⟩
theorem dX7_takeBack_10 : zD cX7_takeBack 10 (.aload_n 0) 1 11 := ⟨by decide +kernel, rfl⟩
theorem dX7_takeBack_11 : zD cX7_takeBack 11 (.getfield 78) 3 14 := ⟨by decide +kernel, rfl⟩
theorem dX7_takeBack_14 : zJ cX7_takeBack 14 (.if_icmp .gt) 17 20 := ⟨6, by decide +kernel, rfl, by decide⟩
theorem dX7_takeBack_17 : zD cX7_takeBack 17 (.bipush (-2)) 2 19 := ⟨by decide +kernel, rfl⟩
theorem dX7_takeBack_19 : zD cX7_takeBack 19 .ireturn 1 20 := ⟨by decide +kernel, rfl⟩
theorem dX7_takeBack_20 : zD cX7_takeBack 20 (.aload_n 0) 1 21 := ⟨by decide +kernel, rfl⟩
theorem dX7_takeBack_21 : zD cX7_takeBack 21 (.getfield 56) 3 24 := ⟨by decide +kernel, rfl⟩
theorem dX7_takeBack_24 : zD cX7_takeBack 24 (.getfield 71) 3 27 := ⟨by decide +kernel, rfl⟩
theorem dX7_takeBack_27 : zD cX7_takeBack 27 (.invokevirtual 165) 3 30 := ⟨by decide +kernel, rfl⟩
theorem dX7_takeBack_30 : zD cX7_takeBack 30 (.aload_n 0) 1 31 := ⟨by decide +kernel, rfl⟩
theorem dX7_takeBack_31 : zD cX7_takeBack 31 (.getfield 56) 3 34 := ⟨by decide +kernel, rfl⟩
theorem dX7_takeBack_34 : zD cX7_takeBack 34 (.getfield 71) 3 37 := ⟨by decide +kernel, rfl⟩
theorem dX7_takeBack_37 : zD cX7_takeBack 37 (.getfield 75) 3 40 := ⟨by decide +kernel, rfl⟩
theorem dX7_takeBack_40 : zD cX7_takeBack 40 (.aload_n 0) 1 41 := ⟨by decide +kernel, rfl⟩
theorem dX7_takeBack_41 : zD cX7_takeBack 41 (.getfield 78) 3 44 := ⟨by decide +kernel, rfl⟩
theorem dX7_takeBack_44 : zD cX7_takeBack 44 .isub 1 45 := ⟨by decide +kernel, rfl⟩
theorem dX7_takeBack_45 : zD cX7_takeBack 45 .ireturn 1 46 := ⟨by decide +kernel, rfl⟩
theorem dX7_hush_0 : zD cX7_hush 0 (.aload_n 0) 1 1 := ⟨by decide +kernel, rfl⟩
theorem dX7_hush_1 : zD cX7_hush 1 (.iload_n 1) 1 2 := ⟨by decide +kernel, rfl⟩
theorem dX7_hush_2 : zD cX7_hush 2 (.invokevirtual 98) 3 5 := ⟨by decide +kernel, rfl⟩
theorem dX7_hush_5 : zJ cX7_hush 5 (.ifCond .eq) 8 15 := ⟨10, by decide +kernel, rfl, by decide⟩
theorem dX7_hush_8 : zD cX7_hush 8 (.iload_n 2) 1 9 := ⟨by decide +kernel, rfl⟩
theorem dX7_hush_9 : zD cX7_hush 9 (.invokestatic 123) 3 12 := ⟨by decide +kernel, rfl⟩
theorem dX7_hush_12 : zJ cX7_hush 12 (.ifCond .ne) 15 17 := ⟨5, by decide +kernel, rfl, by decide⟩
theorem dX7_hush_15 : zD cX7_hush 15 (.iconst (-1)) 1 16 := ⟨by decide +kernel, rfl⟩
theorem dX7_hush_16 : zD cX7_hush 16 .ireturn 1 17 := ⟨by decide +kernel, rfl⟩
theorem dX7_hush_17 : zD cX7_hush 17 (.aload_n 0) 1 18 := ⟨by decide +kernel, rfl⟩
theorem dX7_hush_18 : zD cX7_hush 18 (.getfield 19) 3 21 := ⟨by decide +kernel, rfl⟩
theorem dX7_hush_21 : zD cX7_hush 21 (.aload_n 0) 1 22 := ⟨by decide +kernel, rfl⟩
theorem dX7_hush_22 : zD cX7_hush 22 (.getfield 56) 3 25 := ⟨by decide +kernel, rfl⟩
theorem dX7_hush_25 : zD cX7_hush 25 (.iload_n 1) 1 26 := ⟨by decide +kernel, rfl⟩
theorem dX7_hush_26 : zD cX7_hush 26 (.iload_n 2) 1 27 := ⟨by decide +kernel, rfl⟩
theorem dX7_hush_27 : zD cX7_hush 27 (.invokevirtual 168) 3 30 := ⟨by decide +kernel, rfl⟩
theorem dX7_hush_30 : zD cX7_hush 30 .ireturn 1 31 := ⟨by decide +kernel, rfl⟩
theorem dX7_again_0 : zD cX7_again 0 (.aload_n 0) 1 1 := ⟨by decide +kernel, rfl⟩
theorem dX7_again_1 : zD cX7_again 1 (.iload_n 1) 1 2 := ⟨by decide +kernel, rfl⟩
theorem dX7_again_2 : zD cX7_again 2 (.invokevirtual 98) 3 5 := ⟨by decide +kernel, rfl⟩
theorem dX7_again_5 : zJ cX7_again 5 (.ifCond .eq) 8 17 := ⟨12, by decide +kernel, rfl, by decide⟩
theorem dX7_again_8 : zD cX7_again 8 (.iload_n 2) 1 9 := ⟨by decide +kernel, rfl⟩
theorem dX7_again_9 : zJ cX7_again 9 (.ifCond .lt) 12 17 := ⟨8, by decide +kernel, rfl, by decide⟩
theorem dX7_again_12 : zD cX7_again 12 (.iload_n 2) 1 13 := ⟨by decide +kernel, rfl⟩
theorem dX7_again_13 : zD cX7_again 13 (.iconst 1) 1 14 := ⟨by decide +kernel, rfl⟩
theorem dX7_again_14 : zJ cX7_again 14 (.if_icmp .le) 17 19 := ⟨5, by decide +kernel, rfl, by decide⟩
theorem dX7_again_17 : zD cX7_again 17 (.iconst (-1)) 1 18 := ⟨by decide +kernel, rfl⟩
theorem dX7_again_18 : zD cX7_again 18 .ireturn 1 19 := ⟨by decide +kernel, rfl⟩
theorem dX7_again_19 : zD cX7_again 19 (.aload_n 0) 1 20 := ⟨by decide +kernel, rfl⟩
theorem dX7_again_20 : zD cX7_again 20 (.getfield 19) 3 23 := ⟨by decide +kernel, rfl⟩
theorem dX7_again_23 : zD cX7_again 23 (.aload_n 0) 1 24 := ⟨by decide +kernel, rfl⟩
theorem dX7_again_24 : zD cX7_again 24 (.getfield 56) 3 27 := ⟨by decide +kernel, rfl⟩
theorem dX7_again_27 : zD cX7_again 27 (.iload_n 1) 1 28 := ⟨by decide +kernel, rfl⟩
theorem dX7_again_28 : zD cX7_again 28 (.invokevirtual 172) 3 31 := ⟨by decide +kernel, rfl⟩
theorem dX7_again_31 : zD cX7_again 31 (.aload_n 0) 1 32 := ⟨by decide +kernel, rfl⟩
theorem dX7_again_32 : zD cX7_again 32 (.getfield 19) 3 35 := ⟨by decide +kernel, rfl⟩
theorem dX7_again_35 : zD cX7_again 35 (.getfield 176) 3 38 := ⟨by decide +kernel, rfl⟩
theorem dX7_again_38 : zJ cX7_again 38 (.ifCond .gt) 41 44 := ⟨6, by decide +kernel, rfl, by decide⟩
theorem dX7_again_41 : zD cX7_again 41 (.bipush (-4)) 2 43 := ⟨by decide +kernel, rfl⟩
theorem dX7_again_43 : zD cX7_again 43 .ireturn 1 44 := ⟨by decide +kernel, rfl⟩
theorem dX7_again_44 : zD cX7_again 44 (.iload_n 2) 1 45 := ⟨by decide +kernel, rfl⟩
theorem dX7_again_45 : zJ cX7_again 45 (.ifCond .ne) 48 58 := ⟨13, by decide +kernel, rfl, by decide⟩
theorem dX7_again_48 : zD cX7_again 48 (.aload_n 0) 1 49 := ⟨by decide +kernel, rfl⟩
theorem dX7_again_49 : zD cX7_again 49 (.getfield 19) 3 52 := ⟨by decide +kernel, rfl⟩
theorem dX7_again_52 : zD cX7_again 52 (.getfield 179) 3 55 := ⟨by decide +kernel, rfl⟩
theorem dX7_again_55 : zJ cX7_again 55 .goto 58 65 := ⟨10, by decide +kernel, rfl, by decide⟩
theorem dX7_again_58 : zD cX7_again 58 (.aload_n 0) 1 59 := ⟨by decide +kernel, rfl⟩
theorem dX7_again_59 : zD cX7_again 59 (.getfield 19) 3 62 := ⟨by decide +kernel, rfl⟩
theorem dX7_again_62 : zD cX7_again 62 (.getfield 176) 3 65 := ⟨by decide +kernel, rfl⟩
theorem dX7_again_65 : zD cX7_again 65 .ireturn 1 66 := ⟨by decide +kernel, rfl⟩
theorem dX7_game_0 : zD cX7_game 0 (.aload_n 0) 1 1 := ⟨by decide +kernel, rfl⟩
theorem dX7_game_1 : zD cX7_game 1 (.iload_n 1) 1 2 := ⟨by decide +kernel, rfl⟩
theorem dX7_game_2 : zD cX7_game 2 (.invokevirtual 98) 3 5 := ⟨by decide +kernel, rfl⟩
theorem dX7_game_5 : zJ cX7_game 5 (.ifCond .eq) 8 30 := ⟨25, by decide +kernel, rfl, by decide⟩
theorem dX7_game_8 : zD cX7_game 8 (.aload_n 0) 1 9 := ⟨by decide +kernel, rfl⟩
theorem dX7_game_9 : zD cX7_game 9 (.iload_n 2) 1 10 := ⟨by decide +kernel, rfl⟩
theorem dX7_game_10 : zD cX7_game 10 (.invokevirtual 98) 3 13 := ⟨by decide +kernel, rfl⟩
theorem dX7_game_13 : zJ cX7_game 13 (.ifCond .eq) 16 30 := ⟨17, by decide +kernel, rfl, by decide⟩
theorem dX7_game_16 : zD cX7_game 16 (.iload_n 1) 1 17 := ⟨by decide +kernel, rfl⟩
theorem dX7_game_17 : zD cX7_game 17 (.iload_n 2) 1 18 := ⟨by decide +kernel, rfl⟩
theorem dX7_game_18 : zJ cX7_game 18 (.if_icmp .eq) 21 30 := ⟨12, by decide +kernel, rfl, by decide⟩
theorem dX7_game_21 : zD cX7_game 21 (.iload_n 3) 1 22 := ⟨by decide +kernel, rfl⟩
theorem dX7_game_22 : zJ cX7_game 22 (.ifCond .lt) 25 30 := ⟨8, by decide +kernel, rfl, by decide⟩
theorem dX7_game_25 : zD cX7_game 25 (.iload_n 3) 1 26 := ⟨by decide +kernel, rfl⟩
theorem dX7_game_26 : zD cX7_game 26 (.iconst 2) 1 27 := ⟨by decide +kernel, rfl⟩
theorem dX7_game_27 : zJ cX7_game 27 (.if_icmp .le) 30 32 := ⟨5, by decide +kernel, rfl, by decide⟩
theorem dX7_game_30 : zD cX7_game 30 (.iconst (-1)) 1 31 := ⟨by decide +kernel, rfl⟩
theorem dX7_game_31 : zD cX7_game 31 .ireturn 1 32 := ⟨by decide +kernel, rfl⟩
theorem dX7_game_32 : zD cX7_game 32 (.aload_n 0) 1 33 := ⟨by decide +kernel, rfl⟩
theorem dX7_game_33 : zD cX7_game 33 (.getfield 19) 3 36 := ⟨by decide +kernel, rfl⟩
theorem dX7_game_36 : zD cX7_game 36 (.aload_n 0) 1 37 := ⟨by decide +kernel, rfl⟩
theorem dX7_game_37 : zD cX7_game 37 (.getfield 56) 3 40 := ⟨by decide +kernel, rfl⟩
theorem dX7_game_40 : zD cX7_game 40 (.iload_n 1) 1 41 := ⟨by decide +kernel, rfl⟩
theorem dX7_game_41 : zD cX7_game 41 (.iload_n 2) 1 42 := ⟨by decide +kernel, rfl⟩
theorem dX7_game_42 : zD cX7_game 42 (.invokevirtual 182) 3 45 := ⟨by decide +kernel, rfl⟩
theorem dX7_game_45 : zD cX7_game 45 (.iload_n 3) 1 46 := ⟨by decide +kernel, rfl⟩
theorem dX7_game_46 : zJ cX7_game 46 (.ifCond .ne) 49 57 := ⟨11, by decide +kernel, rfl, by decide⟩
theorem dX7_game_49 : zD cX7_game 49 (.aload_n 0) 1 50 := ⟨by decide +kernel, rfl⟩
theorem dX7_game_50 : zD cX7_game 50 (.getfield 19) 3 53 := ⟨by decide +kernel, rfl⟩
theorem dX7_game_53 : zD cX7_game 53 (.getfield 186) 3 56 := ⟨by decide +kernel, rfl⟩
theorem dX7_game_56 : zD cX7_game 56 .ireturn 1 57 := ⟨by decide +kernel, rfl⟩
theorem dX7_game_57 : zD cX7_game 57 (.aload_n 0) 1 58 := ⟨by decide +kernel, rfl⟩
theorem dX7_game_58 : zD cX7_game 58 (.getfield 19) 3 61 := ⟨by decide +kernel, rfl⟩
theorem dX7_game_61 : zD cX7_game 61 (.getfield 186) 3 64 := ⟨by decide +kernel, rfl⟩
theorem dX7_game_64 : zJ cX7_game 64 (.ifCond .ne) 67 70 := ⟨6, by decide +kernel, rfl, by decide⟩
theorem dX7_game_67 : zD cX7_game 67 (.bipush (-4)) 2 69 := ⟨by decide +kernel, rfl⟩
theorem dX7_game_69 : zD cX7_game 69 .ireturn 1 70 := ⟨by decide +kernel, rfl⟩
theorem dX7_game_70 : zD cX7_game 70 (.iload_n 3) 1 71 := ⟨by decide +kernel, rfl⟩
theorem dX7_game_71 : zD cX7_game 71 (.iconst 1) 1 72 := ⟨by decide +kernel, rfl⟩
theorem dX7_game_72 : zJ cX7_game 72 (.if_icmp .ne) 75 85 := ⟨13, by decide +kernel, rfl, by decide⟩
theorem dX7_game_75 : zD cX7_game 75 (.aload_n 0) 1 76 := ⟨by decide +kernel, rfl⟩
theorem dX7_game_76 : zD cX7_game 76 (.getfield 19) 3 79 := ⟨by decide +kernel, rfl⟩
theorem dX7_game_79 : zD cX7_game 79 (.getfield 189) 3 82 := ⟨by decide +kernel, rfl⟩
theorem dX7_game_82 : zJ cX7_game 82 .goto 85 92 := ⟨10, by decide +kernel, rfl, by decide⟩
theorem dX7_game_85 : zD cX7_game 85 (.aload_n 0) 1 86 := ⟨by decide +kernel, rfl⟩
theorem dX7_game_86 : zD cX7_game 86 (.getfield 19) 3 89 := ⟨by decide +kernel, rfl⟩
theorem dX7_game_89 : zD cX7_game 89 (.getfield 192) 3 92 := ⟨by decide +kernel, rfl⟩
theorem dX7_game_92 : zD cX7_game 92 .ireturn 1 93 := ⟨by decide +kernel, rfl⟩
theorem dX7_laws_0 : zD cX7_laws 0 (.iload_n 1) 1 1 := ⟨by decide +kernel, rfl⟩
theorem dX7_laws_1 : zD cX7_laws 1 (.iconst (-1)) 1 2 := ⟨by decide +kernel, rfl⟩
theorem dX7_laws_2 : zJ cX7_laws 2 (.if_icmp .lt) 5 10 := ⟨8, by decide +kernel, rfl, by decide⟩
theorem dX7_laws_5 : zD cX7_laws 5 (.iload_n 1) 1 6 := ⟨by decide +kernel, rfl⟩
theorem dX7_laws_6 : zD cX7_laws 6 (.iconst 3) 1 7 := ⟨by decide +kernel, rfl⟩
theorem dX7_laws_7 : zJ cX7_laws 7 (.if_icmp .le) 10 12 := ⟨5, by decide +kernel, rfl, by decide⟩
theorem dX7_laws_10 : zD cX7_laws 10 (.iconst (-1)) 1 11 := ⟨by decide +kernel, rfl⟩
theorem dX7_laws_11 : zD cX7_laws 11 .ireturn 1 12 := ⟨by decide +kernel, rfl⟩
theorem dX7_laws_12 : zD cX7_laws 12 (.iload_n 1) 1 13 := ⟨by decide +kernel, rfl⟩
theorem dX7_laws_13 : zD cX7_laws 13 (.iconst (-1)) 1 14 := ⟨by decide +kernel, rfl⟩
theorem dX7_laws_14 : zJ cX7_laws 14 (.if_icmp .ne) 17 31 := ⟨17, by decide +kernel, rfl, by decide⟩
theorem dX7_laws_17 : zD cX7_laws 17 (.aload_n 0) 1 18 := ⟨by decide +kernel, rfl⟩
theorem dX7_laws_18 : zD cX7_laws 18 (.getfield 19) 3 21 := ⟨by decide +kernel, rfl⟩
theorem dX7_laws_21 : zD cX7_laws 21 (.aload_n 0) 1 22 := ⟨by decide +kernel, rfl⟩
theorem dX7_laws_22 : zD cX7_laws 22 (.getfield 56) 3 25 := ⟨by decide +kernel, rfl⟩
theorem dX7_laws_25 : zD cX7_laws 25 (.invokevirtual 195) 3 28 := ⟨by decide +kernel, rfl⟩
theorem dX7_laws_28 : zJ cX7_laws 28 .goto 31 43 := ⟨15, by decide +kernel, rfl, by decide⟩
theorem dX7_laws_31 : zD cX7_laws 31 (.aload_n 0) 1 32 := ⟨by decide +kernel, rfl⟩
theorem dX7_laws_32 : zD cX7_laws 32 (.getfield 19) 3 35 := ⟨by decide +kernel, rfl⟩
theorem dX7_laws_35 : zD cX7_laws 35 (.aload_n 0) 1 36 := ⟨by decide +kernel, rfl⟩
theorem dX7_laws_36 : zD cX7_laws 36 (.getfield 56) 3 39 := ⟨by decide +kernel, rfl⟩
theorem dX7_laws_39 : zD cX7_laws 39 (.iload_n 1) 1 40 := ⟨by decide +kernel, rfl⟩
theorem dX7_laws_40 : zD cX7_laws 40 (.invokevirtual 198) 3 43 := ⟨by decide +kernel, rfl⟩
theorem dX7_laws_43 : zD cX7_laws 43 .ireturn 1 44 := ⟨by decide +kernel, rfl⟩
theorem dX7_mean_0 : zD cX7_mean 0 (.iload_n 1) 1 1 := ⟨by decide +kernel, rfl⟩
theorem dX7_mean_1 : zD cX7_mean 1 (.iload_n 3) 1 2 := ⟨by decide +kernel, rfl⟩
theorem dX7_mean_2 : zD cX7_mean 2 (.invokestatic 201) 3 5 := ⟨by decide +kernel, rfl⟩
theorem dX7_mean_5 : zJ cX7_mean 5 (.ifCond .eq) 8 28 := ⟨23, by decide +kernel, rfl, by decide⟩
theorem dX7_mean_8 : zD cX7_mean 8 (.iload_n 2) 1 9 := ⟨by decide +kernel, rfl⟩
theorem dX7_mean_9 : zJ cX7_mean 9 (.ifCond .lt) 12 28 := ⟨19, by decide +kernel, rfl, by decide⟩
theorem dX7_mean_12 : zD cX7_mean 12 (.iload_n 2) 1 13 := ⟨by decide +kernel, rfl⟩
theorem dX7_mean_13 : zD cX7_mean 13 (.iload_n 1) 1 14 := ⟨by decide +kernel, rfl⟩
theorem dX7_mean_14 : zJ cX7_mean 14 (.if_icmp .ge) 17 28 := ⟨14, by decide +kernel, rfl, by decide⟩
theorem dX7_mean_17 : zD cX7_mean 17 (.iload 4) 2 19 := ⟨by decide +kernel, rfl⟩
theorem dX7_mean_19 : zJ cX7_mean 19 (.ifCond .lt) 22 28 := ⟨9, by decide +kernel, rfl, by decide⟩
theorem dX7_mean_22 : zD cX7_mean 22 (.iload 4) 2 24 := ⟨by decide +kernel, rfl⟩
theorem dX7_mean_24 : zD cX7_mean 24 (.iconst 1) 1 25 := ⟨by decide +kernel, rfl⟩
theorem dX7_mean_25 : zJ cX7_mean 25 (.if_icmp .le) 28 32 := ⟨7, by decide +kernel, rfl, by decide⟩
theorem dX7_mean_28 : zD cX7_mean 28 (.ldc2_w 204) 3 31 := ⟨by decide +kernel, rfl⟩
theorem dX7_mean_31 : zD cX7_mean 31 .lreturn 1 32 := ⟨by decide +kernel, rfl⟩
theorem dX7_mean_32 : zD cX7_mean 32 (.aload_n 0) 1 33 := ⟨by decide +kernel, rfl⟩
theorem dX7_mean_33 : zD cX7_mean 33 (.getfield 31) 3 36 := ⟨by decide +kernel, rfl⟩
theorem dX7_mean_36 : zD cX7_mean 36 (.aload_n 0) 1 37 := ⟨by decide +kernel, rfl⟩
theorem dX7_mean_37 : zD cX7_mean 37 (.getfield 31) 3 40 := ⟨by decide +kernel, rfl⟩
theorem dX7_mean_40 : zD cX7_mean 40 (.iload_n 1) 1 41 := ⟨by decide +kernel, rfl⟩
theorem dX7_mean_41 : zD cX7_mean 41 (.iload_n 2) 1 42 := ⟨by decide +kernel, rfl⟩
theorem dX7_mean_42 : zD cX7_mean 42 (.iload_n 3) 1 43 := ⟨by decide +kernel, rfl⟩
theorem dX7_mean_43 : zD cX7_mean 43 (.invokevirtual 206) 3 46 := ⟨by decide +kernel, rfl⟩
theorem dX7_mean_46 : zD cX7_mean 46 (.iload 4) 2 48 := ⟨by decide +kernel, rfl⟩
theorem dX7_mean_48 : zD cX7_mean 48 (.invokevirtual 210) 3 51 := ⟨by decide +kernel, rfl⟩
theorem dX7_mean_51 : zD cX7_mean 51 .lreturn 1 52 := ⟨by decide +kernel, rfl⟩
theorem dX7_by_0 : zD cX7_by 0 (.iload_n 1) 1 1 := ⟨by decide +kernel, rfl⟩
theorem dX7_by_1 : zD cX7_by 1 (.iload_n 3) 1 2 := ⟨by decide +kernel, rfl⟩
theorem dX7_by_2 : zD cX7_by 2 (.invokestatic 201) 3 5 := ⟨by decide +kernel, rfl⟩
theorem dX7_by_5 : zJ cX7_by 5 (.ifCond .eq) 8 40 := ⟨35, by decide +kernel, rfl, by decide⟩
theorem dX7_by_8 : zD cX7_by 8 (.iload_n 2) 1 9 := ⟨by decide +kernel, rfl⟩
theorem dX7_by_9 : zJ cX7_by 9 (.ifCond .lt) 12 40 := ⟨31, by decide +kernel, rfl, by decide⟩
theorem dX7_by_12 : zD cX7_by 12 (.iload_n 2) 1 13 := ⟨by decide +kernel, rfl⟩
theorem dX7_by_13 : zD cX7_by 13 (.iload_n 1) 1 14 := ⟨by decide +kernel, rfl⟩
theorem dX7_by_14 : zJ cX7_by 14 (.if_icmp .ge) 17 40 := ⟨26, by decide +kernel, rfl, by decide⟩
theorem dX7_by_17 : zD cX7_by 17 (.iload 4) 2 19 := ⟨by decide +kernel, rfl⟩
theorem dX7_by_19 : zJ cX7_by 19 (.ifCond .lt) 22 40 := ⟨21, by decide +kernel, rfl, by decide⟩
theorem dX7_by_22 : zD cX7_by 22 (.iload 4) 2 24 := ⟨by decide +kernel, rfl⟩
theorem dX7_by_24 : zD cX7_by 24 (.bipush 9) 2 26 := ⟨by decide +kernel, rfl⟩
theorem dX7_by_26 : zJ cX7_by 26 (.if_icmp .ge) 29 40 := ⟨14, by decide +kernel, rfl, by decide⟩
theorem dX7_by_29 : zD cX7_by 29 (.iload 5) 2 31 := ⟨by decide +kernel, rfl⟩
theorem dX7_by_31 : zJ cX7_by 31 (.ifCond .lt) 34 40 := ⟨9, by decide +kernel, rfl, by decide⟩
theorem dX7_by_34 : zD cX7_by 34 (.iload 5) 2 36 := ⟨by decide +kernel, rfl⟩
theorem dX7_by_36 : zD cX7_by 36 (.iconst 1) 1 37 := ⟨by decide +kernel, rfl⟩
theorem dX7_by_37 : zJ cX7_by 37 (.if_icmp .le) 40 44 := ⟨7, by decide +kernel, rfl, by decide⟩
theorem dX7_by_40 : zD cX7_by 40 (.ldc2_w 204) 3 43 := ⟨by decide +kernel, rfl⟩
theorem dX7_by_43 : zD cX7_by 43 .lreturn 1 44 := ⟨by decide +kernel, rfl⟩
theorem dX7_by_44 : zD cX7_by 44 (.aload_n 0) 1 45 := ⟨by decide +kernel, rfl⟩
theorem dX7_by_45 : zD cX7_by 45 (.getfield 31) 3 48 := ⟨by decide +kernel, rfl⟩
theorem dX7_by_48 : zD cX7_by 48 (.aload_n 0) 1 49 := ⟨by decide +kernel, rfl⟩
theorem dX7_by_49 : zD cX7_by 49 (.getfield 31) 3 52 := ⟨by decide +kernel, rfl⟩
theorem dX7_by_52 : zD cX7_by 52 (.iload_n 1) 1 53 := ⟨by decide +kernel, rfl⟩
theorem dX7_by_53 : zD cX7_by 53 (.iload_n 2) 1 54 := ⟨by decide +kernel, rfl⟩
theorem dX7_by_54 : zD cX7_by 54 (.iload_n 3) 1 55 := ⟨by decide +kernel, rfl⟩
theorem dX7_by_55 : zD cX7_by 55 (.iload 4) 2 57 := ⟨by decide +kernel, rfl⟩
theorem dX7_by_57 : zD cX7_by 57 (.invokevirtual 214) 3 60 := ⟨by decide +kernel, rfl⟩
theorem dX7_by_60 : zD cX7_by 60 (.iload 5) 2 62 := ⟨by decide +kernel, rfl⟩
theorem dX7_by_62 : zD cX7_by 62 (.invokevirtual 210) 3 65 := ⟨by decide +kernel, rfl⟩
theorem dX7_by_65 : zD cX7_by 65 .lreturn 1 66 := ⟨by decide +kernel, rfl⟩
theorem dX7_best_0 : zD cX7_best 0 (.iload_n 1) 1 1 := ⟨by decide +kernel, rfl⟩
theorem dX7_best_1 : zD cX7_best 1 (.iload_n 2) 1 2 := ⟨by decide +kernel, rfl⟩
theorem dX7_best_2 : zD cX7_best 2 (.invokestatic 201) 3 5 := ⟨by decide +kernel, rfl⟩
theorem dX7_best_5 : zJ cX7_best 5 (.ifCond .eq) 8 17 := ⟨12, by decide +kernel, rfl, by decide⟩
theorem dX7_best_8 : zD cX7_best 8 (.iload_n 3) 1 9 := ⟨by decide +kernel, rfl⟩
theorem dX7_best_9 : zJ cX7_best 9 (.ifCond .lt) 12 17 := ⟨8, by decide +kernel, rfl, by decide⟩
theorem dX7_best_12 : zD cX7_best 12 (.iload_n 3) 1 13 := ⟨by decide +kernel, rfl⟩
theorem dX7_best_13 : zD cX7_best 13 (.iconst 1) 1 14 := ⟨by decide +kernel, rfl⟩
theorem dX7_best_14 : zJ cX7_best 14 (.if_icmp .le) 17 19 := ⟨5, by decide +kernel, rfl, by decide⟩
theorem dX7_best_17 : zD cX7_best 17 (.iconst (-1)) 1 18 := ⟨by decide +kernel, rfl⟩
theorem dX7_best_18 : zD cX7_best 18 .ireturn 1 19 := ⟨by decide +kernel, rfl⟩
theorem dX7_best_19 : zD cX7_best 19 (.iload_n 3) 1 20 := ⟨by decide +kernel, rfl⟩
theorem dX7_best_20 : zJ cX7_best 20 (.ifCond .ne) 23 35 := ⟨15, by decide +kernel, rfl, by decide⟩
theorem dX7_best_23 : zD cX7_best 23 (.aload_n 0) 1 24 := ⟨by decide +kernel, rfl⟩
theorem dX7_best_24 : zD cX7_best 24 (.getfield 31) 3 27 := ⟨by decide +kernel, rfl⟩
theorem dX7_best_27 : zD cX7_best 27 (.iload_n 1) 1 28 := ⟨by decide +kernel, rfl⟩
theorem dX7_best_28 : zD cX7_best 28 (.iload_n 2) 1 29 := ⟨by decide +kernel, rfl⟩
theorem dX7_best_29 : zD cX7_best 29 (.invokevirtual 218) 3 32 := ⟨by decide +kernel, rfl⟩
theorem dX7_best_32 : zJ cX7_best 32 .goto 35 44 := ⟨12, by decide +kernel, rfl, by decide⟩
theorem dX7_best_35 : zD cX7_best 35 (.aload_n 0) 1 36 := ⟨by decide +kernel, rfl⟩
theorem dX7_best_36 : zD cX7_best 36 (.getfield 31) 3 39 := ⟨by decide +kernel, rfl⟩
theorem dX7_best_39 : zD cX7_best 39 (.iload_n 1) 1 40 := ⟨by decide +kernel, rfl⟩
theorem dX7_best_40 : zD cX7_best 40 (.iload_n 2) 1 41 := ⟨by decide +kernel, rfl⟩
theorem dX7_best_41 : zD cX7_best 41 (.invokevirtual 222) 3 44 := ⟨by decide +kernel, rfl⟩
theorem dX7_best_44 : zD cX7_best 44 .ireturn 1 45 := ⟨by decide +kernel, rfl⟩
theorem dX7_name_0 : zD cX7_name 0 (.iload_n 1) 1 1 := ⟨by decide +kernel, rfl⟩
theorem dX7_name_1 : zJ cX7_name 1 (.ifCond .lt) 4 30 := ⟨29, by decide +kernel, rfl, by decide⟩
theorem dX7_name_4 : zD cX7_name 4 (.iload_n 1) 1 5 := ⟨by decide +kernel, rfl⟩
theorem dX7_name_5 : zD cX7_name 5 (.iconst 1) 1 6 := ⟨by decide +kernel, rfl⟩
theorem dX7_name_6 : zJ cX7_name 6 (.if_icmp .gt) 9 30 := ⟨24, by decide +kernel, rfl, by decide⟩
theorem dX7_name_9 : zD cX7_name 9 (.iload_n 2) 1 10 := ⟨by decide +kernel, rfl⟩
theorem dX7_name_10 : zJ cX7_name 10 (.ifCond .lt) 13 30 := ⟨20, by decide +kernel, rfl, by decide⟩
theorem dX7_name_13 : zD cX7_name 13 (.iload_n 2) 1 14 := ⟨by decide +kernel, rfl⟩
theorem dX7_name_14 : zD cX7_name 14 (.bipush 10) 2 16 := ⟨by decide +kernel, rfl⟩
theorem dX7_name_16 : zJ cX7_name 16 (.if_icmp .gt) 19 30 := ⟨14, by decide +kernel, rfl, by decide⟩
theorem dX7_name_19 : zD cX7_name 19 (.iload_n 1) 1 20 := ⟨by decide +kernel, rfl⟩
theorem dX7_name_20 : zD cX7_name 20 (.iconst 1) 1 21 := ⟨by decide +kernel, rfl⟩
theorem dX7_name_21 : zJ cX7_name 21 (.if_icmp .ne) 24 32 := ⟨11, by decide +kernel, rfl, by decide⟩
theorem dX7_name_24 : zD cX7_name 24 (.iload_n 2) 1 25 := ⟨by decide +kernel, rfl⟩
theorem dX7_name_25 : zD cX7_name 25 (.bipush 10) 2 27 := ⟨by decide +kernel, rfl⟩
theorem dX7_name_27 : zJ cX7_name 27 (.if_icmp .ne) 30 32 := ⟨5, by decide +kernel, rfl, by decide⟩
theorem dX7_name_30 : zD cX7_name 30 (.iconst (-1)) 1 31 := ⟨by decide +kernel, rfl⟩
theorem dX7_name_31 : zD cX7_name 31 .ireturn 1 32 := ⟨by decide +kernel, rfl⟩
theorem dX7_name_32 : zD cX7_name 32 (.iload_n 2) 1 33 := ⟨by decide +kernel, rfl⟩
theorem dX7_name_33 : zD cX7_name 33 (.bipush 10) 2 35 := ⟨by decide +kernel, rfl⟩
theorem dX7_name_35 : zJ cX7_name 35 (.if_icmp .eq) 38 53 := ⟨18, by decide +kernel, rfl, by decide⟩
theorem dX7_name_38 : zD cX7_name 38 (.aload_n 0) 1 39 := ⟨by decide +kernel, rfl⟩
theorem dX7_name_39 : zD cX7_name 39 (.getfield 38) 3 42 := ⟨by decide +kernel, rfl⟩
theorem dX7_name_42 : zD cX7_name 42 (.iload_n 1) 1 43 := ⟨by decide +kernel, rfl⟩
theorem dX7_name_43 : zD cX7_name 43 (.iload_n 2) 1 44 := ⟨by decide +kernel, rfl⟩
theorem dX7_name_44 : zD cX7_name 44 (.invokevirtual 225) 3 47 := ⟨by decide +kernel, rfl⟩
theorem dX7_name_47 : zJ cX7_name 47 (.ifCond .eq) 50 53 := ⟨6, by decide +kernel, rfl, by decide⟩
theorem dX7_name_50 : zD cX7_name 50 (.bipush (-2)) 2 52 := ⟨by decide +kernel, rfl⟩
theorem dX7_name_52 : zD cX7_name 52 .ireturn 1 53 := ⟨by decide +kernel, rfl⟩
theorem dX7_name_53 : zD cX7_name 53 (.aload_n 0) 1 54 := ⟨by decide +kernel, rfl⟩
theorem dX7_name_54 : zD cX7_name 54 (.getfield 38) 3 57 := ⟨by decide +kernel, rfl⟩
theorem dX7_name_57 : zD cX7_name 57 (.iload_n 1) 1 58 := ⟨by decide +kernel, rfl⟩
theorem dX7_name_58 : zD cX7_name 58 (.invokevirtual 228) 3 61 := ⟨by decide +kernel, rfl⟩
theorem dX7_name_61 : zD cX7_name 61 (.bipush 9) 2 63 := ⟨by decide +kernel, rfl⟩
theorem dX7_name_63 : zJ cX7_name 63 (.if_icmp .lt) 66 69 := ⟨6, by decide +kernel, rfl, by decide⟩
theorem dX7_name_66 : zD cX7_name 66 (.bipush (-3)) 2 68 := ⟨by decide +kernel, rfl⟩
theorem dX7_name_68 : zD cX7_name 68 .ireturn 1 69 := ⟨by decide +kernel, rfl⟩
theorem dX7_name_69 : zD cX7_name 69 (.aload_n 0) 1 70 := ⟨by decide +kernel, rfl⟩
theorem dX7_name_70 : zD cX7_name 70 (.getfield 38) 3 73 := ⟨by decide +kernel, rfl⟩
theorem dX7_name_73 : zD cX7_name 73 (.iload_n 1) 1 74 := ⟨by decide +kernel, rfl⟩
theorem dX7_name_74 : zD cX7_name 74 (.iload_n 2) 1 75 := ⟨by decide +kernel, rfl⟩
theorem dX7_name_75 : zD cX7_name 75 (.invokevirtual 231) 3 78 := ⟨by decide +kernel, rfl⟩
theorem dX7_name_78 : zD cX7_name 78 (.aload_n 0) 1 79 := ⟨by decide +kernel, rfl⟩
theorem dX7_name_79 : zD cX7_name 79 (.getfield 38) 3 82 := ⟨by decide +kernel, rfl⟩
theorem dX7_name_82 : zD cX7_name 82 (.iload_n 1) 1 83 := ⟨by decide +kernel, rfl⟩
theorem dX7_name_83 : zD cX7_name 83 (.invokevirtual 228) 3 86 := ⟨by decide +kernel, rfl⟩
theorem dX7_name_86 : zD cX7_name 86 .ireturn 1 87 := ⟨by decide +kernel, rfl⟩
theorem dX7_noNames_0 : zD cX7_noNames 0 (.aload_n 0) 1 1 := ⟨by decide +kernel, rfl⟩
theorem dX7_noNames_1 : zD cX7_noNames 1 (.getfield 38) 3 4 := ⟨by decide +kernel, rfl⟩
theorem dX7_noNames_4 : zD cX7_noNames 4 (.getfield 235) 3 7 := ⟨by decide +kernel, rfl⟩
theorem dX7_noNames_7 : zD cX7_noNames 7 (.aload_n 0) 1 8 := ⟨by decide +kernel, rfl⟩
theorem dX7_noNames_8 : zD cX7_noNames 8 (.getfield 38) 3 11 := ⟨by decide +kernel, rfl⟩
theorem dX7_noNames_11 : zD cX7_noNames 11 (.getfield 238) 3 14 := ⟨by decide +kernel, rfl⟩
theorem dX7_noNames_14 : zD cX7_noNames 14 .iadd 1 15 := ⟨by decide +kernel, rfl⟩
theorem dX7_noNames_15 : zD cX7_noNames 15 (.istore_n 1) 1 16 := ⟨by decide +kernel, rfl⟩
theorem dX7_noNames_16 : zD cX7_noNames 16 (.aload_n 0) 1 17 := ⟨by decide +kernel, rfl⟩
theorem dX7_noNames_17 : zD cX7_noNames 17 (.getfield 38) 3 20 := ⟨by decide +kernel, rfl⟩
theorem dX7_noNames_20 : zD cX7_noNames 20 (.invokevirtual 95) 3 23 := ⟨by decide +kernel, rfl⟩
theorem dX7_noNames_23 : zD cX7_noNames 23 (.iload_n 1) 1 24 := ⟨by decide +kernel, rfl⟩
theorem dX7_noNames_24 : zD cX7_noNames 24 .ireturn 1 25 := ⟨by decide +kernel, rfl⟩
theorem dX7_fits_0 : zD cX7_fits 0 (.iload_n 1) 1 1 := ⟨by decide +kernel, rfl⟩
theorem dX7_fits_1 : zJ cX7_fits 1 (.ifCond .lt) 4 9 := ⟨8, by decide +kernel, rfl, by decide⟩
theorem dX7_fits_4 : zD cX7_fits 4 (.iload_n 1) 1 5 := ⟨by decide +kernel, rfl⟩
theorem dX7_fits_5 : zD cX7_fits 5 (.iconst 1) 1 6 := ⟨by decide +kernel, rfl⟩
theorem dX7_fits_6 : zJ cX7_fits 6 (.if_icmp .le) 9 11 := ⟨5, by decide +kernel, rfl, by decide⟩
theorem dX7_fits_9 : zD cX7_fits 9 (.iconst (-1)) 1 10 := ⟨by decide +kernel, rfl⟩
theorem dX7_fits_10 : zD cX7_fits 10 .ireturn 1 11 := ⟨by decide +kernel, rfl⟩
theorem dX7_fits_11 : zD cX7_fits 11 (.aload_n 0) 1 12 := ⟨by decide +kernel, rfl⟩
theorem dX7_fits_12 : zD cX7_fits 12 (.getfield 38) 3 15 := ⟨by decide +kernel, rfl⟩
theorem dX7_fits_15 : zD cX7_fits 15 (.getfield 238) 3 18 := ⟨by decide +kernel, rfl⟩
theorem dX7_fits_18 : zJ cX7_fits 18 (.ifCond .eq) 21 38 := ⟨20, by decide +kernel, rfl, by decide⟩
theorem dX7_fits_21 : zD cX7_fits 21 (.aload_n 0) 1 22 := ⟨by decide +kernel, rfl⟩
theorem dX7_fits_22 : zD cX7_fits 22 (.getfield 38) 3 25 := ⟨by decide +kernel, rfl⟩
theorem dX7_fits_25 : zD cX7_fits 25 (.getfield 235) 3 28 := ⟨by decide +kernel, rfl⟩
theorem dX7_fits_28 : zD cX7_fits 28 (.aload_n 0) 1 29 := ⟨by decide +kernel, rfl⟩
theorem dX7_fits_29 : zD cX7_fits 29 (.getfield 38) 3 32 := ⟨by decide +kernel, rfl⟩
theorem dX7_fits_32 : zD cX7_fits 32 (.getfield 238) 3 35 := ⟨by decide +kernel, rfl⟩
theorem dX7_fits_35 : zJ cX7_fits 35 (.if_icmp .le) 38 41 := ⟨6, by decide +kernel, rfl, by decide⟩
theorem dX7_fits_38 : zD cX7_fits 38 (.bipush (-2)) 2 40 := ⟨by decide +kernel, rfl⟩
theorem dX7_fits_40 : zD cX7_fits 40 .ireturn 1 41 := ⟨by decide +kernel, rfl⟩
theorem dX7_fits_41 : zD cX7_fits 41 (.aload_n 0) 1 42 := ⟨by decide +kernel, rfl⟩
theorem dX7_fits_42 : zD cX7_fits 42 (.getfield 38) 3 45 := ⟨by decide +kernel, rfl⟩
theorem dX7_fits_45 : zD cX7_fits 45 (.invokevirtual 241) 3 48 := ⟨by decide +kernel, rfl⟩
theorem dX7_fits_48 : zD cX7_fits 48 (.iload_n 1) 1 49 := ⟨by decide +kernel, rfl⟩
theorem dX7_fits_49 : zJ cX7_fits 49 (.ifCond .ne) 52 62 := ⟨13, by decide +kernel, rfl, by decide⟩
theorem dX7_fits_52 : zD cX7_fits 52 (.aload_n 0) 1 53 := ⟨by decide +kernel, rfl⟩
theorem dX7_fits_53 : zD cX7_fits 53 (.getfield 38) 3 56 := ⟨by decide +kernel, rfl⟩
theorem dX7_fits_56 : zD cX7_fits 56 (.getfield 244) 3 59 := ⟨by decide +kernel, rfl⟩
theorem dX7_fits_59 : zJ cX7_fits 59 .goto 62 69 := ⟨10, by decide +kernel, rfl, by decide⟩
theorem dX7_fits_62 : zD cX7_fits 62 (.aload_n 0) 1 63 := ⟨by decide +kernel, rfl⟩
theorem dX7_fits_63 : zD cX7_fits 63 (.getfield 38) 3 66 := ⟨by decide +kernel, rfl⟩
theorem dX7_fits_66 : zD cX7_fits 66 (.getfield 247) 3 69 := ⟨by decide +kernel, rfl⟩
theorem dX7_fits_69 : zD cX7_fits 69 .ireturn 1 70 := ⟨by decide +kernel, rfl⟩
theorem dX7_drawn_0 : zD cX7_drawn 0 (.iload_n 1) 1 1 := ⟨by decide +kernel, rfl⟩
theorem dX7_drawn_1 : zJ cX7_drawn 1 (.ifCond .lt) 4 20 := ⟨19, by decide +kernel, rfl, by decide⟩
theorem dX7_drawn_4 : zD cX7_drawn 4 (.iload_n 1) 1 5 := ⟨by decide +kernel, rfl⟩
theorem dX7_drawn_5 : zD cX7_drawn 5 (.sipush 9999) 3 8 := ⟨by decide +kernel, rfl⟩
theorem dX7_drawn_8 : zJ cX7_drawn 8 (.if_icmp .gt) 11 20 := ⟨12, by decide +kernel, rfl, by decide⟩
theorem dX7_drawn_11 : zD cX7_drawn 11 (.iload_n 2) 1 12 := ⟨by decide +kernel, rfl⟩
theorem dX7_drawn_12 : zJ cX7_drawn 12 (.ifCond .lt) 15 20 := ⟨8, by decide +kernel, rfl, by decide⟩
theorem dX7_drawn_15 : zD cX7_drawn 15 (.iload_n 2) 1 16 := ⟨by decide +kernel, rfl⟩
theorem dX7_drawn_16 : zD cX7_drawn 16 (.iconst 2) 1 17 := ⟨by decide +kernel, rfl⟩
theorem dX7_drawn_17 : zJ cX7_drawn 17 (.if_icmp .le) 20 22 := ⟨5, by decide +kernel, rfl, by decide⟩
theorem dX7_drawn_20 : zD cX7_drawn 20 (.iconst (-1)) 1 21 := ⟨by decide +kernel, rfl⟩
theorem dX7_drawn_21 : zD cX7_drawn 21 .ireturn 1 22 := ⟨by decide +kernel, rfl⟩
theorem dX7_drawn_22 : zD cX7_drawn 22 (.aload_n 0) 1 23 := ⟨by decide +kernel, rfl⟩
theorem dX7_drawn_23 : zD cX7_drawn 23 (.getfield 27) 3 26 := ⟨by decide +kernel, rfl⟩
theorem dX7_drawn_26 : zD cX7_drawn 26 (.aload_n 0) 1 27 := ⟨by decide +kernel, rfl⟩
theorem dX7_drawn_27 : zD cX7_drawn 27 (.getfield 56) 3 30 := ⟨by decide +kernel, rfl⟩
theorem dX7_drawn_30 : zD cX7_drawn 30 (.invokevirtual 126) 3 33 := ⟨by decide +kernel, rfl⟩
theorem dX7_drawn_33 : zD cX7_drawn 33 (.aload_n 0) 1 34 := ⟨by decide +kernel, rfl⟩
theorem dX7_drawn_34 : zD cX7_drawn 34 (.getfield 27) 3 37 := ⟨by decide +kernel, rfl⟩
theorem dX7_drawn_37 : zD cX7_drawn 37 (.iload_n 1) 1 38 := ⟨by decide +kernel, rfl⟩
theorem dX7_drawn_38 : zD cX7_drawn 38 (.putfield 250) 3 41 := ⟨by decide +kernel, rfl⟩
theorem dX7_drawn_41 : zD cX7_drawn 41 (.aload_n 0) 1 42 := ⟨by decide +kernel, rfl⟩
theorem dX7_drawn_42 : zD cX7_drawn 42 (.getfield 27) 3 45 := ⟨by decide +kernel, rfl⟩
theorem dX7_drawn_45 : zD cX7_drawn 45 (.sipush 199) 3 48 := ⟨by decide +kernel, rfl⟩
theorem dX7_drawn_48 : zD cX7_drawn 48 (.invokevirtual 130) 3 51 := ⟨by decide +kernel, rfl⟩
theorem dX7_drawn_51 : zD cX7_drawn 51 (.iload_n 2) 1 52 := ⟨by decide +kernel, rfl⟩
theorem dX7_drawn_52 : zJ cX7_drawn 52 (.ifCond .ne) 55 64 := ⟨12, by decide +kernel, rfl, by decide⟩
theorem dX7_drawn_55 : zD cX7_drawn 55 (.aload_n 0) 1 56 := ⟨by decide +kernel, rfl⟩
theorem dX7_drawn_56 : zD cX7_drawn 56 (.getfield 27) 3 59 := ⟨by decide +kernel, rfl⟩
theorem dX7_drawn_59 : zD cX7_drawn 59 (.iconst 0) 1 60 := ⟨by decide +kernel, rfl⟩
theorem dX7_drawn_60 : zD cX7_drawn 60 (.invokevirtual 146) 3 63 := ⟨by decide +kernel, rfl⟩
theorem dX7_drawn_63 : zD cX7_drawn 63 .ireturn 1 64 := ⟨by decide +kernel, rfl⟩
theorem dX7_drawn_64 : zD cX7_drawn 64 (.iload_n 2) 1 65 := ⟨by decide +kernel, rfl⟩
theorem dX7_drawn_65 : zD cX7_drawn 65 (.iconst 1) 1 66 := ⟨by decide +kernel, rfl⟩
theorem dX7_drawn_66 : zJ cX7_drawn 66 (.if_icmp .ne) 69 79 := ⟨13, by decide +kernel, rfl, by decide⟩
theorem dX7_drawn_69 : zD cX7_drawn 69 (.aload_n 0) 1 70 := ⟨by decide +kernel, rfl⟩
theorem dX7_drawn_70 : zD cX7_drawn 70 (.getfield 27) 3 73 := ⟨by decide +kernel, rfl⟩
theorem dX7_drawn_73 : zD cX7_drawn 73 (.getfield 139) 3 76 := ⟨by decide +kernel, rfl⟩
theorem dX7_drawn_76 : zJ cX7_drawn 76 .goto 79 86 := ⟨10, by decide +kernel, rfl, by decide⟩
theorem dX7_drawn_79 : zD cX7_drawn 79 (.aload_n 0) 1 80 := ⟨by decide +kernel, rfl⟩
theorem dX7_drawn_80 : zD cX7_drawn 80 (.getfield 27) 3 83 := ⟨by decide +kernel, rfl⟩
theorem dX7_drawn_83 : zD cX7_drawn 83 (.invokevirtual 142) 3 86 := ⟨by decide +kernel, rfl⟩
theorem dX7_drawn_86 : zD cX7_drawn 86 .ireturn 1 87 := ⟨by decide +kernel, rfl⟩
theorem dX7_keep_0 : zD cX7_keep 0 (.aload_n 0) 1 1 := ⟨by decide +kernel, rfl⟩
theorem dX7_keep_1 : zD cX7_keep 1 (.getfield 49) 3 4 := ⟨by decide +kernel, rfl⟩
theorem dX7_keep_4 : zD cX7_keep 4 (.iconst 2) 1 5 := ⟨by decide +kernel, rfl⟩
theorem dX7_keep_5 : zJ cX7_keep 5 (.if_icmp .lt) 8 11 := ⟨6, by decide +kernel, rfl, by decide⟩
theorem dX7_keep_8 : zD cX7_keep 8 (.bipush (-3)) 2 10 := ⟨by decide +kernel, rfl⟩
theorem dX7_keep_10 : zD cX7_keep 10 .ireturn 1 11 := ⟨by decide +kernel, rfl⟩
theorem dX7_keep_11 : zD cX7_keep 11 (.aload_n 0) 1 12 := ⟨by decide +kernel, rfl⟩
theorem dX7_keep_12 : zD cX7_keep 12 (.getfield 45) 3 15 := ⟨by decide +kernel, rfl⟩
theorem dX7_keep_15 : zD cX7_keep 15 (.aload_n 0) 1 16 := ⟨by decide +kernel, rfl⟩
theorem dX7_keep_16 : zD cX7_keep 16 (.getfield 49) 3 19 := ⟨by decide +kernel, rfl⟩
theorem dX7_keep_19 : zD cX7_keep 19 .aaload 1 20 := ⟨by decide +kernel, rfl⟩
theorem dX7_keep_20 : zD cX7_keep 20 (.aload_n 0) 1 21 := ⟨by decide +kernel, rfl⟩
theorem dX7_keep_21 : zD cX7_keep 21 (.getfield 56) 3 24 := ⟨by decide +kernel, rfl⟩
theorem dX7_keep_24 : zD cX7_keep 24 (.getfield 71) 3 27 := ⟨by decide +kernel, rfl⟩
theorem dX7_keep_27 : zD cX7_keep 27 (.invokevirtual 253) 3 30 := ⟨by decide +kernel, rfl⟩
theorem dX7_keep_30 : zD cX7_keep 30 (.aload_n 0) 1 31 := ⟨by decide +kernel, rfl⟩
theorem dX7_keep_31 : zD cX7_keep 31 .dup 1 32 := ⟨by decide +kernel, rfl⟩
theorem dX7_keep_32 : zD cX7_keep 32 (.getfield 49) 3 35 := ⟨by decide +kernel, rfl⟩
theorem dX7_keep_35 : zD cX7_keep 35 (.iconst 1) 1 36 := ⟨by decide +kernel, rfl⟩
theorem dX7_keep_36 : zD cX7_keep 36 .iadd 1 37 := ⟨by decide +kernel, rfl⟩
theorem dX7_keep_37 : zD cX7_keep 37 (.putfield 49) 3 40 := ⟨by decide +kernel, rfl⟩
theorem dX7_keep_40 : zD cX7_keep 40 (.aload_n 0) 1 41 := ⟨by decide +kernel, rfl⟩
theorem dX7_keep_41 : zD cX7_keep 41 (.getfield 49) 3 44 := ⟨by decide +kernel, rfl⟩
theorem dX7_keep_44 : zD cX7_keep 44 .ireturn 1 45 := ⟨by decide +kernel, rfl⟩
theorem dX7_back_0 : zD cX7_back 0 (.aload_n 0) 1 1 := ⟨by decide +kernel, rfl⟩
theorem dX7_back_1 : zD cX7_back 1 (.getfield 49) 3 4 := ⟨by decide +kernel, rfl⟩
theorem dX7_back_4 : zJ cX7_back 4 (.ifCond .gt) 7 10 := ⟨6, by decide +kernel, rfl, by decide⟩
theorem dX7_back_7 : zD cX7_back 7 (.bipush (-2)) 2 9 := ⟨by decide +kernel, rfl⟩
theorem dX7_back_9 : zD cX7_back 9 .ireturn 1 10 := ⟨by decide +kernel, rfl⟩
theorem dX7_back_10 : zD cX7_back 10 (.aload_n 0) 1 11 := ⟨by decide +kernel, rfl⟩
theorem dX7_back_11 : zD cX7_back 11 .dup 1 12 := ⟨by decide +kernel, rfl⟩
theorem dX7_back_12 : zD cX7_back 12 (.getfield 49) 3 15 := ⟨by decide +kernel, rfl⟩
theorem dX7_back_15 : zD cX7_back 15 (.iconst 1) 1 16 := ⟨by decide +kernel, rfl⟩
theorem dX7_back_16 : zD cX7_back 16 .isub 1 17 := ⟨by decide +kernel, rfl⟩
theorem dX7_back_17 : zD cX7_back 17 (.putfield 49) 3 20 := ⟨by decide +kernel, rfl⟩
theorem dX7_back_20 : zD cX7_back 20 (.aload_n 0) 1 21 := ⟨by decide +kernel, rfl⟩
theorem dX7_back_21 : zD cX7_back 21 (.getfield 56) 3 24 := ⟨by decide +kernel, rfl⟩
theorem dX7_back_24 : zD cX7_back 24 (.getfield 71) 3 27 := ⟨by decide +kernel, rfl⟩
theorem dX7_back_27 : zD cX7_back 27 (.aload_n 0) 1 28 := ⟨by decide +kernel, rfl⟩
theorem dX7_back_28 : zD cX7_back 28 (.getfield 45) 3 31 := ⟨by decide +kernel, rfl⟩
theorem dX7_back_31 : zD cX7_back 31 (.aload_n 0) 1 32 := ⟨by decide +kernel, rfl⟩
theorem dX7_back_32 : zD cX7_back 32 (.getfield 49) 3 35 := ⟨by decide +kernel, rfl⟩
theorem dX7_back_35 : zD cX7_back 35 .aaload 1 36 := ⟨by decide +kernel, rfl⟩
theorem dX7_back_36 : zD cX7_back 36 (.invokevirtual 253) 3 39 := ⟨by decide +kernel, rfl⟩
theorem dX7_back_39 : zD cX7_back 39 (.aload_n 0) 1 40 := ⟨by decide +kernel, rfl⟩
theorem dX7_back_40 : zD cX7_back 40 (.aload_n 0) 1 41 := ⟨by decide +kernel, rfl⟩
theorem dX7_back_41 : zD cX7_back 41 (.getfield 56) 3 44 := ⟨by decide +kernel, rfl⟩
theorem dX7_back_44 : zD cX7_back 44 (.getfield 71) 3 47 := ⟨by decide +kernel, rfl⟩
theorem dX7_back_47 : zD cX7_back 47 (.getfield 75) 3 50 := ⟨by decide +kernel, rfl⟩
theorem dX7_back_50 : zD cX7_back 50 (.putfield 78) 3 53 := ⟨by decide +kernel, rfl⟩
theorem dX7_back_53 : zD cX7_back 53 (.aload_n 0) 1 54 := ⟨by decide +kernel, rfl⟩
theorem dX7_back_54 : zD cX7_back 54 (.getfield 49) 3 57 := ⟨by decide +kernel, rfl⟩
theorem dX7_back_57 : zD cX7_back 57 .ireturn 1 58 := ⟨by decide +kernel, rfl⟩
theorem dX7_count_0 : zD cX7_count 0 (.iload_n 1) 1 1 := ⟨by decide +kernel, rfl⟩
theorem dX7_count_1 : zD cX7_count 1 (.tableswitch 119 0 7 #[47, 55, 66, 82, 87, 95, 103, 111]) 47 48 := ⟨by decide +kernel, rfl⟩
theorem dX7_count_48 : zD cX7_count 48 (.aload_n 0) 1 49 := ⟨by decide +kernel, rfl⟩
theorem dX7_count_49 : zD cX7_count 49 (.getfield 56) 3 52 := ⟨by decide +kernel, rfl⟩
theorem dX7_count_52 : zD cX7_count 52 (.getfield 92) 3 55 := ⟨by decide +kernel, rfl⟩
theorem dX7_count_55 : zD cX7_count 55 .ireturn 1 56 := ⟨by decide +kernel, rfl⟩
theorem dX7_count_56 : zD cX7_count 56 (.aload_n 0) 1 57 := ⟨by decide +kernel, rfl⟩
theorem dX7_count_57 : zD cX7_count 57 (.getfield 56) 3 60 := ⟨by decide +kernel, rfl⟩
theorem dX7_count_60 : zD cX7_count 60 (.getfield 71) 3 63 := ⟨by decide +kernel, rfl⟩
theorem dX7_count_63 : zD cX7_count 63 (.getfield 75) 3 66 := ⟨by decide +kernel, rfl⟩
theorem dX7_count_66 : zD cX7_count 66 .ireturn 1 67 := ⟨by decide +kernel, rfl⟩
theorem dX7_count_67 : zD cX7_count 67 (.aload_n 0) 1 68 := ⟨by decide +kernel, rfl⟩
theorem dX7_count_68 : zD cX7_count 68 (.getfield 56) 3 71 := ⟨by decide +kernel, rfl⟩
theorem dX7_count_71 : zD cX7_count 71 (.getfield 71) 3 74 := ⟨by decide +kernel, rfl⟩
theorem dX7_count_74 : zD cX7_count 74 (.getfield 75) 3 77 := ⟨by decide +kernel, rfl⟩
theorem dX7_count_77 : zD cX7_count 77 (.aload_n 0) 1 78 := ⟨by decide +kernel, rfl⟩
theorem dX7_count_78 : zD cX7_count 78 (.getfield 78) 3 81 := ⟨by decide +kernel, rfl⟩
theorem dX7_count_81 : zD cX7_count 81 .isub 1 82 := ⟨by decide +kernel, rfl⟩
theorem dX7_count_82 : zD cX7_count 82 .ireturn 1 83 := ⟨by decide +kernel, rfl⟩
theorem dX7_count_83 : zD cX7_count 83 (.aload_n 0) 1 84 := ⟨by decide +kernel, rfl⟩
theorem dX7_count_84 : zD cX7_count 84 (.getfield 49) 3 87 := ⟨by decide +kernel, rfl⟩
theorem dX7_count_87 : zD cX7_count 87 .ireturn 1 88 := ⟨by decide +kernel, rfl⟩
theorem dX7_count_88 : zD cX7_count 88 (.aload_n 0) 1 89 := ⟨by decide +kernel, rfl⟩
theorem dX7_count_89 : zD cX7_count 89 (.getfield 38) 3 92 := ⟨by decide +kernel, rfl⟩
theorem dX7_count_92 : zD cX7_count 92 (.getfield 235) 3 95 := ⟨by decide +kernel, rfl⟩
theorem dX7_count_95 : zD cX7_count 95 .ireturn 1 96 := ⟨by decide +kernel, rfl⟩
theorem dX7_count_96 : zD cX7_count 96 (.aload_n 0) 1 97 := ⟨by decide +kernel, rfl⟩
theorem dX7_count_97 : zD cX7_count 97 (.getfield 38) 3 100 := ⟨by decide +kernel, rfl⟩
theorem dX7_count_100 : zD cX7_count 100 (.getfield 238) 3 103 := ⟨by decide +kernel, rfl⟩
theorem dX7_count_103 : zD cX7_count 103 .ireturn 1 104 := ⟨by decide +kernel, rfl⟩
theorem dX7_count_104 : zD cX7_count 104 (.aload_n 0) 1 105 := ⟨by decide +kernel, rfl⟩
theorem dX7_count_105 : zD cX7_count 105 (.getfield 10) 3 108 := ⟨by decide +kernel, rfl⟩
theorem dX7_count_108 : zD cX7_count 108 (.getfield 81) 3 111 := ⟨by decide +kernel, rfl⟩
theorem dX7_count_111 : zD cX7_count 111 .ireturn 1 112 := ⟨by decide +kernel, rfl⟩
theorem dX7_count_112 : zD cX7_count 112 (.aload_n 0) 1 113 := ⟨by decide +kernel, rfl⟩
theorem dX7_count_113 : zD cX7_count 113 (.getfield 56) 3 116 := ⟨by decide +kernel, rfl⟩
theorem dX7_count_116 : zD cX7_count 116 (.getfield 257) 3 119 := ⟨by decide +kernel, rfl⟩
theorem dX7_count_119 : zD cX7_count 119 .ireturn 1 120 := ⟨by decide +kernel, rfl⟩
theorem dX7_count_120 : zD cX7_count 120 (.iconst (-1)) 1 121 := ⟨by decide +kernel, rfl⟩
theorem dX7_count_121 : zD cX7_count 121 .ireturn 1 122 := ⟨by decide +kernel, rfl⟩
theorem dX7_isPerson_0 : zD cX7_isPerson 0 (.aload_n 0) 1 1 := ⟨by decide +kernel, rfl⟩
theorem dX7_isPerson_1 : zD cX7_isPerson 1 (.getfield 56) 3 4 := ⟨by decide +kernel, rfl⟩
theorem dX7_isPerson_4 : zD cX7_isPerson 4 (.iload_n 1) 1 5 := ⟨by decide +kernel, rfl⟩
theorem dX7_isPerson_5 : zD cX7_isPerson 5 (.invokevirtual 260) 3 8 := ⟨by decide +kernel, rfl⟩
theorem dX7_isPerson_8 : zD cX7_isPerson 8 .ireturn 1 9 := ⟨by decide +kernel, rfl⟩
theorem dX7_isMinute_0 : zD cX7_isMinute 0 (.iload_n 0) 1 1 := ⟨by decide +kernel, rfl⟩
theorem dX7_isMinute_1 : zJ cX7_isMinute 1 (.ifCond .lt) 4 15 := ⟨14, by decide +kernel, rfl, by decide⟩
theorem dX7_isMinute_4 : zD cX7_isMinute 4 (.iload_n 0) 1 5 := ⟨by decide +kernel, rfl⟩
theorem dX7_isMinute_5 : zD cX7_isMinute 5 (.sipush 200) 3 8 := ⟨by decide +kernel, rfl⟩
theorem dX7_isMinute_8 : zJ cX7_isMinute 8 (.if_icmp .ge) 11 15 := ⟨7, by decide +kernel, rfl, by decide⟩
theorem dX7_isMinute_11 : zD cX7_isMinute 11 (.iconst 1) 1 12 := ⟨by decide +kernel, rfl⟩
theorem dX7_isMinute_12 : zJ cX7_isMinute 12 .goto 15 16 := ⟨4, by decide +kernel, rfl, by decide⟩
theorem dX7_isMinute_15 : zD cX7_isMinute 15 (.iconst 0) 1 16 := ⟨by decide +kernel, rfl⟩
theorem dX7_isMinute_16 : zD cX7_isMinute 16 .ireturn 1 17 := ⟨by decide +kernel, rfl⟩
theorem dX7_areOdds_0 : zD cX7_areOdds 0 (.iload_n 0) 1 1 := ⟨by decide +kernel, rfl⟩
theorem dX7_areOdds_1 : zD cX7_areOdds 1 (.iconst 1) 1 2 := ⟨by decide +kernel, rfl⟩
theorem dX7_areOdds_2 : zJ cX7_areOdds 2 (.if_icmp .lt) 5 25 := ⟨23, by decide +kernel, rfl, by decide⟩
theorem dX7_areOdds_5 : zD cX7_areOdds 5 (.iload_n 0) 1 6 := ⟨by decide +kernel, rfl⟩
theorem dX7_areOdds_6 : zD cX7_areOdds 6 (.bipush 9) 2 8 := ⟨by decide +kernel, rfl⟩
theorem dX7_areOdds_8 : zJ cX7_areOdds 8 (.if_icmp .gt) 11 25 := ⟨17, by decide +kernel, rfl, by decide⟩
theorem dX7_areOdds_11 : zD cX7_areOdds 11 (.iload_n 1) 1 12 := ⟨by decide +kernel, rfl⟩
theorem dX7_areOdds_12 : zJ cX7_areOdds 12 (.ifCond .lt) 15 25 := ⟨13, by decide +kernel, rfl, by decide⟩
theorem dX7_areOdds_15 : zD cX7_areOdds 15 (.iload_n 1) 1 16 := ⟨by decide +kernel, rfl⟩
theorem dX7_areOdds_16 : zD cX7_areOdds 16 (.bipush 10) 2 18 := ⟨by decide +kernel, rfl⟩
theorem dX7_areOdds_18 : zJ cX7_areOdds 18 (.if_icmp .gt) 21 25 := ⟨7, by decide +kernel, rfl, by decide⟩
theorem dX7_areOdds_21 : zD cX7_areOdds 21 (.iconst 1) 1 22 := ⟨by decide +kernel, rfl⟩
theorem dX7_areOdds_22 : zJ cX7_areOdds 22 .goto 25 26 := ⟨4, by decide +kernel, rfl, by decide⟩
theorem dX7_areOdds_25 : zD cX7_areOdds 25 (.iconst 0) 1 26 := ⟨by decide +kernel, rfl⟩
theorem dX7_areOdds_26 : zD cX7_areOdds 26 .ireturn 1 27 := ⟨by decide +kernel, rfl⟩
theorem dX7_runAsTold_0 : zD cX7_runAsTold 0 (.aload_n 0) 1 1 := ⟨by decide +kernel, rfl⟩
theorem dX7_runAsTold_1 : zD cX7_runAsTold 1 (.getfield 27) 3 4 := ⟨by decide +kernel, rfl⟩
theorem dX7_runAsTold_4 : zD cX7_runAsTold 4 (.aload_n 0) 1 5 := ⟨by decide +kernel, rfl⟩
theorem dX7_runAsTold_5 : zD cX7_runAsTold 5 (.getfield 56) 3 8 := ⟨by decide +kernel, rfl⟩
theorem dX7_runAsTold_8 : zD cX7_runAsTold 8 (.invokevirtual 126) 3 11 := ⟨by decide +kernel, rfl⟩
theorem dX7_runAsTold_11 : zD cX7_runAsTold 11 (.aload_n 0) 1 12 := ⟨by decide +kernel, rfl⟩
theorem dX7_runAsTold_12 : zD cX7_runAsTold 12 (.getfield 27) 3 15 := ⟨by decide +kernel, rfl⟩
theorem dX7_runAsTold_15 : zD cX7_runAsTold 15 (.sipush 199) 3 18 := ⟨by decide +kernel, rfl⟩
theorem dX7_runAsTold_18 : zD cX7_runAsTold 18 (.invokevirtual 130) 3 21 := ⟨by decide +kernel, rfl⟩
theorem dX7_runAsTold_21 : zD cX7_runAsTold 21 .return_ 1 22 := ⟨by decide +kernel, rfl⟩
theorem dJ6_bitCount_0f7a4_0 : zD cJ6_bitCount_0f7a4 0 (.iload_n 0) 1 1 := ⟨by decide +kernel, rfl⟩
theorem dJ6_bitCount_0f7a4_1 : zD cJ6_bitCount_0f7a4 1 (.iload_n 0) 1 2 := ⟨by decide +kernel, rfl⟩
theorem dJ6_bitCount_0f7a4_2 : zD cJ6_bitCount_0f7a4 2 (.iconst 1) 1 3 := ⟨by decide +kernel, rfl⟩
theorem dJ6_bitCount_0f7a4_3 : zD cJ6_bitCount_0f7a4 3 .iushr 1 4 := ⟨by decide +kernel, rfl⟩
theorem dJ6_bitCount_0f7a4_4 : zD cJ6_bitCount_0f7a4 4 (.ldc_w 265) 3 7 := ⟨by decide +kernel, rfl⟩
theorem dJ6_bitCount_0f7a4_7 : zD cJ6_bitCount_0f7a4 7 .iand 1 8 := ⟨by decide +kernel, rfl⟩
theorem dJ6_bitCount_0f7a4_8 : zD cJ6_bitCount_0f7a4 8 .isub 1 9 := ⟨by decide +kernel, rfl⟩
theorem dJ6_bitCount_0f7a4_9 : zD cJ6_bitCount_0f7a4 9 (.istore_n 0) 1 10 := ⟨by decide +kernel, rfl⟩
theorem dJ6_bitCount_0f7a4_10 : zD cJ6_bitCount_0f7a4 10 (.iload_n 0) 1 11 := ⟨by decide +kernel, rfl⟩
theorem dJ6_bitCount_0f7a4_11 : zD cJ6_bitCount_0f7a4 11 (.ldc_w 266) 3 14 := ⟨by decide +kernel, rfl⟩
theorem dJ6_bitCount_0f7a4_14 : zD cJ6_bitCount_0f7a4 14 .iand 1 15 := ⟨by decide +kernel, rfl⟩
theorem dJ6_bitCount_0f7a4_15 : zD cJ6_bitCount_0f7a4 15 (.iload_n 0) 1 16 := ⟨by decide +kernel, rfl⟩
theorem dJ6_bitCount_0f7a4_16 : zD cJ6_bitCount_0f7a4 16 (.iconst 2) 1 17 := ⟨by decide +kernel, rfl⟩
theorem dJ6_bitCount_0f7a4_17 : zD cJ6_bitCount_0f7a4 17 .iushr 1 18 := ⟨by decide +kernel, rfl⟩
theorem dJ6_bitCount_0f7a4_18 : zD cJ6_bitCount_0f7a4 18 (.ldc_w 266) 3 21 := ⟨by decide +kernel, rfl⟩
theorem dJ6_bitCount_0f7a4_21 : zD cJ6_bitCount_0f7a4 21 .iand 1 22 := ⟨by decide +kernel, rfl⟩
theorem dJ6_bitCount_0f7a4_22 : zD cJ6_bitCount_0f7a4 22 .iadd 1 23 := ⟨by decide +kernel, rfl⟩
theorem dJ6_bitCount_0f7a4_23 : zD cJ6_bitCount_0f7a4 23 (.istore_n 0) 1 24 := ⟨by decide +kernel, rfl⟩
theorem dJ6_bitCount_0f7a4_24 : zD cJ6_bitCount_0f7a4 24 (.iload_n 0) 1 25 := ⟨by decide +kernel, rfl⟩
theorem dJ6_bitCount_0f7a4_25 : zD cJ6_bitCount_0f7a4 25 (.iload_n 0) 1 26 := ⟨by decide +kernel, rfl⟩
theorem dJ6_bitCount_0f7a4_26 : zD cJ6_bitCount_0f7a4 26 (.iconst 4) 1 27 := ⟨by decide +kernel, rfl⟩
theorem dJ6_bitCount_0f7a4_27 : zD cJ6_bitCount_0f7a4 27 .iushr 1 28 := ⟨by decide +kernel, rfl⟩
theorem dJ6_bitCount_0f7a4_28 : zD cJ6_bitCount_0f7a4 28 .iadd 1 29 := ⟨by decide +kernel, rfl⟩
theorem dJ6_bitCount_0f7a4_29 : zD cJ6_bitCount_0f7a4 29 (.ldc_w 267) 3 32 := ⟨by decide +kernel, rfl⟩
theorem dJ6_bitCount_0f7a4_32 : zD cJ6_bitCount_0f7a4 32 .iand 1 33 := ⟨by decide +kernel, rfl⟩
theorem dJ6_bitCount_0f7a4_33 : zD cJ6_bitCount_0f7a4 33 (.istore_n 0) 1 34 := ⟨by decide +kernel, rfl⟩
theorem dJ6_bitCount_0f7a4_34 : zD cJ6_bitCount_0f7a4 34 (.iload_n 0) 1 35 := ⟨by decide +kernel, rfl⟩
theorem dJ6_bitCount_0f7a4_35 : zD cJ6_bitCount_0f7a4 35 (.iload_n 0) 1 36 := ⟨by decide +kernel, rfl⟩
theorem dJ6_bitCount_0f7a4_36 : zD cJ6_bitCount_0f7a4 36 (.bipush 8) 2 38 := ⟨by decide +kernel, rfl⟩
theorem dJ6_bitCount_0f7a4_38 : zD cJ6_bitCount_0f7a4 38 .iushr 1 39 := ⟨by decide +kernel, rfl⟩
theorem dJ6_bitCount_0f7a4_39 : zD cJ6_bitCount_0f7a4 39 .iadd 1 40 := ⟨by decide +kernel, rfl⟩
theorem dJ6_bitCount_0f7a4_40 : zD cJ6_bitCount_0f7a4 40 (.istore_n 0) 1 41 := ⟨by decide +kernel, rfl⟩
theorem dJ6_bitCount_0f7a4_41 : zD cJ6_bitCount_0f7a4 41 (.iload_n 0) 1 42 := ⟨by decide +kernel, rfl⟩
theorem dJ6_bitCount_0f7a4_42 : zD cJ6_bitCount_0f7a4 42 (.iload_n 0) 1 43 := ⟨by decide +kernel, rfl⟩
theorem dJ6_bitCount_0f7a4_43 : zD cJ6_bitCount_0f7a4 43 (.bipush 16) 2 45 := ⟨by decide +kernel, rfl⟩
theorem dJ6_bitCount_0f7a4_45 : zD cJ6_bitCount_0f7a4 45 .iushr 1 46 := ⟨by decide +kernel, rfl⟩
theorem dJ6_bitCount_0f7a4_46 : zD cJ6_bitCount_0f7a4 46 .iadd 1 47 := ⟨by decide +kernel, rfl⟩
theorem dJ6_bitCount_0f7a4_47 : zD cJ6_bitCount_0f7a4 47 (.istore_n 0) 1 48 := ⟨by decide +kernel, rfl⟩
theorem dJ6_bitCount_0f7a4_48 : zD cJ6_bitCount_0f7a4 48 (.iload_n 0) 1 49 := ⟨by decide +kernel, rfl⟩
theorem dJ6_bitCount_0f7a4_49 : zD cJ6_bitCount_0f7a4 49 (.bipush 63) 2 51 := ⟨by decide +kernel, rfl⟩
theorem dJ6_bitCount_0f7a4_51 : zD cJ6_bitCount_0f7a4 51 .iand 1 52 := ⟨by decide +kernel, rfl⟩
theorem dJ6_bitCount_0f7a4_52 : zD cJ6_bitCount_0f7a4 52 .ireturn 1 53 := ⟨by decide +kernel, rfl⟩
theorem dJ9_min_7cf53_0 : zD cJ9_min_7cf53 0 (.iload_n 0) 1 1 := ⟨by decide +kernel, rfl⟩
theorem dJ9_min_7cf53_1 : zD cJ9_min_7cf53 1 (.iload_n 1) 1 2 := ⟨by decide +kernel, rfl⟩
theorem dJ9_min_7cf53_2 : zJ cJ9_min_7cf53 2 (.if_icmp .gt) 5 9 := ⟨7, by decide +kernel, rfl, by decide⟩
theorem dJ9_min_7cf53_5 : zD cJ9_min_7cf53 5 (.iload_n 0) 1 6 := ⟨by decide +kernel, rfl⟩
theorem dJ9_min_7cf53_6 : zJ cJ9_min_7cf53 6 .goto 9 10 := ⟨4, by decide +kernel, rfl, by decide⟩
theorem dJ9_min_7cf53_9 : zD cJ9_min_7cf53 9 (.iload_n 1) 1 10 := ⟨by decide +kernel, rfl⟩
theorem dJ9_min_7cf53_10 : zD cJ9_min_7cf53 10 .ireturn 1 11 := ⟨by decide +kernel, rfl⟩
end
section
theorem dX8_init_0 : zD cX8_init 0 (.aload_n 0) 1 1 := ⟨by decide +kernel, rfl⟩
theorem dX8_init_1 : zD cX8_init 1 (.invokespecial 1) 3 4 := ⟨by decide +kernel, rfl⟩
theorem dX8_init_4 : zD cX8_init 4 (.aload_n 0) 1 5 := ⟨by decide +kernel, rfl⟩
theorem dX8_init_5 : zD cX8_init 5 (.sipush 300) 3 8 := ⟨by decide +kernel, rfl⟩
theorem dX8_init_8 : zD cX8_init 8 (.newarray .int) 2 10 := ⟨by decide +kernel, rfl⟩
theorem dX8_init_10 : zD cX8_init 10 (.putfield 7) 3 13 := ⟨by decide +kernel, rfl⟩
theorem dX8_init_13 : zD cX8_init 13 (.aload_n 0) 1 14 := ⟨by decide +kernel, rfl⟩
theorem dX8_init_14 : zD cX8_init 14 (.iconst 2) 1 15 := ⟨by decide +kernel, rfl⟩
theorem dX8_init_15 : zD cX8_init 15 (.newarray .int) 2 17 := ⟨by decide +kernel, rfl⟩
theorem dX8_init_17 : zD cX8_init 17 (.putfield 13) 3 20 := ⟨by decide +kernel, rfl⟩
theorem dX8_init_20 : zD cX8_init 20 (.aload_n 0) 1 21 := ⟨by decide +kernel, rfl⟩
theorem dX8_init_21 : zD cX8_init 21 (.bipush 20) 2 23 := ⟨by decide +kernel, rfl⟩
theorem dX8_init_23 : zD cX8_init 23 (.newarray .int) 2 25 := ⟨by decide +kernel, rfl⟩
theorem dX8_init_25 : zD cX8_init 25 (.putfield 16) 3 28 := ⟨by decide +kernel, rfl⟩
theorem dX8_init_28 : zD cX8_init 28 (.aload_n 0) 1 29 := ⟨by decide +kernel, rfl⟩
theorem dX8_init_29 : zD cX8_init 29 (.bipush 20) 2 31 := ⟨by decide +kernel, rfl⟩
theorem dX8_init_31 : zD cX8_init 31 (.newarray .int) 2 33 := ⟨by decide +kernel, rfl⟩
theorem dX8_init_33 : zD cX8_init 33 (.putfield 19) 3 36 := ⟨by decide +kernel, rfl⟩
theorem dX8_init_36 : zD cX8_init 36 (.aload_n 0) 1 37 := ⟨by decide +kernel, rfl⟩
theorem dX8_init_37 : zD cX8_init 37 (.bipush 20) 2 39 := ⟨by decide +kernel, rfl⟩
theorem dX8_init_39 : zD cX8_init 39 (.newarray .int) 2 41 := ⟨by decide +kernel, rfl⟩
theorem dX8_init_41 : zD cX8_init 41 (.putfield 22) 3 44 := ⟨by decide +kernel, rfl⟩
theorem dX8_init_44 : zD cX8_init 44 (.aload_n 0) 1 45 := ⟨by decide +kernel, rfl⟩
theorem dX8_init_45 : zD cX8_init 45 (.iconst 2) 1 46 := ⟨by decide +kernel, rfl⟩
theorem dX8_init_46 : zD cX8_init 46 (.newarray .int) 2 48 := ⟨by decide +kernel, rfl⟩
theorem dX8_init_48 : zD cX8_init 48 (.putfield 25) 3 51 := ⟨by decide +kernel, rfl⟩
theorem dX8_init_51 : zD cX8_init 51 (.aload_n 0) 1 52 := ⟨by decide +kernel, rfl⟩
theorem dX8_init_52 : zD cX8_init 52 (.iconst 2) 1 53 := ⟨by decide +kernel, rfl⟩
theorem dX8_init_53 : zD cX8_init 53 (.newarray .int) 2 55 := ⟨by decide +kernel, rfl⟩
theorem dX8_init_55 : zD cX8_init 55 (.putfield 28) 3 58 := ⟨by decide +kernel, rfl⟩
theorem dX8_init_58 : zD cX8_init 58 (.aload_n 0) 1 59 := ⟨by decide +kernel, rfl⟩
theorem dX8_init_59 : zD cX8_init 59 (.iconst 2) 1 60 := ⟨by decide +kernel, rfl⟩
theorem dX8_init_60 : zD cX8_init 60 (.newarray .int) 2 62 := ⟨by decide +kernel, rfl⟩
theorem dX8_init_62 : zD cX8_init 62 (.putfield 31) 3 65 := ⟨by decide +kernel, rfl⟩
theorem dX8_init_65 : zD cX8_init 65 (.aload_n 0) 1 66 := ⟨by decide +kernel, rfl⟩
theorem dX8_init_66 : zD cX8_init 66 (.iconst 2) 1 67 := ⟨by decide +kernel, rfl⟩
theorem dX8_init_67 : zD cX8_init 67 (.newarray .int) 2 69 := ⟨by decide +kernel, rfl⟩
theorem dX8_init_69 : zD cX8_init 69 (.putfield 34) 3 72 := ⟨by decide +kernel, rfl⟩
theorem dX8_init_72 : zD cX8_init 72 (.aload_n 0) 1 73 := ⟨by decide +kernel, rfl⟩
theorem dX8_init_73 : zD cX8_init 73 (.iconst 2) 1 74 := ⟨by decide +kernel, rfl⟩
theorem dX8_init_74 : zD cX8_init 74 (.newarray .int) 2 76 := ⟨by decide +kernel, rfl⟩
theorem dX8_init_76 : zD cX8_init 76 (.putfield 37) 3 79 := ⟨by decide +kernel, rfl⟩
theorem dX8_init_79 : zD cX8_init 79 (.aload_n 0) 1 80 := ⟨by decide +kernel, rfl⟩
theorem dX8_init_80 : zD cX8_init 80 (.iconst 4) 1 81 := ⟨by decide +kernel, rfl⟩
theorem dX8_init_81 : zD cX8_init 81 (.newarray .int) 2 83 := ⟨by decide +kernel, rfl⟩
theorem dX8_init_83 : zD cX8_init 83 (.putfield 40) 3 86 := ⟨by decide +kernel, rfl⟩
theorem dX8_init_86 : zD cX8_init 86 (.aload_n 0) 1 87 := ⟨by decide +kernel, rfl⟩
theorem dX8_init_87 : zD cX8_init 87 (.bipush 32) 2 89 := ⟨by decide +kernel, rfl⟩
theorem dX8_init_89 : zD cX8_init 89 (.newarray .int) 2 91 := ⟨by decide +kernel, rfl⟩
theorem dX8_init_91 : zD cX8_init 91 (.putfield 43) 3 94 := ⟨by decide +kernel, rfl⟩
theorem dX8_init_94 : zD cX8_init 94 (.aload_n 0) 1 95 := ⟨by decide +kernel, rfl⟩
theorem dX8_init_95 : zD cX8_init 95 (.bipush 32) 2 97 := ⟨by decide +kernel, rfl⟩
theorem dX8_init_97 : zD cX8_init 97 (.newarray .int) 2 99 := ⟨by decide +kernel, rfl⟩
theorem dX8_init_99 : zD cX8_init 99 (.putfield 46) 3 102 := ⟨by decide +kernel, rfl⟩
theorem dX8_init_102 : zD cX8_init 102 (.aload_n 0) 1 103 := ⟨by decide +kernel, rfl⟩
theorem dX8_init_103 : zD cX8_init 103 (.iconst 2) 1 104 := ⟨by decide +kernel, rfl⟩
theorem dX8_init_104 : zD cX8_init 104 (.newarray .int) 2 106 := ⟨by decide +kernel, rfl⟩
theorem dX8_init_106 : zD cX8_init 106 (.putfield 49) 3 109 := ⟨by decide +kernel, rfl⟩
theorem dX8_init_109 : zD cX8_init 109 (.aload_n 0) 1 110 := ⟨by decide +kernel, rfl⟩
theorem dX8_init_110 : zD cX8_init 110 (.bipush 18) 2 112 := ⟨by decide +kernel, rfl⟩
theorem dX8_init_112 : zD cX8_init 112 (.newarray .int) 2 114 := ⟨by decide +kernel, rfl⟩
theorem dX8_init_114 : zD cX8_init 114 (.putfield 52) 3 117 := ⟨by decide +kernel, rfl⟩
theorem dX8_init_117 : zD cX8_init 117 (.aload_n 0) 1 118 := ⟨by decide +kernel, rfl⟩
theorem dX8_init_118 : zD cX8_init 118 (.iconst 3) 1 119 := ⟨by decide +kernel, rfl⟩
theorem dX8_init_119 : zD cX8_init 119 (.newarray .int) 2 121 := ⟨by decide +kernel, rfl⟩
theorem dX8_init_121 : zD cX8_init 121 (.putfield 55) 3 124 := ⟨by decide +kernel, rfl⟩
theorem dX8_init_124 : zD cX8_init 124 (.aload_n 0) 1 125 := ⟨by decide +kernel, rfl⟩
theorem dX8_init_125 : zD cX8_init 125 (.bipush 10) 2 127 := ⟨by decide +kernel, rfl⟩
theorem dX8_init_127 : zD cX8_init 127 (.newarray .int) 2 129 := ⟨by decide +kernel, rfl⟩
theorem dX8_init_129 : zD cX8_init 129 (.putfield 58) 3 132 := ⟨by decide +kernel, rfl⟩
theorem dX8_init_132 : zD cX8_init 132 (.aload_n 0) 1 133 := ⟨by decide +kernel, rfl⟩
theorem dX8_init_133 : zD cX8_init 133 (.bipush 10) 2 135 := ⟨by decide +kernel, rfl⟩
theorem dX8_init_135 : zD cX8_init 135 (.newarray .int) 2 137 := ⟨by decide +kernel, rfl⟩
theorem dX8_init_137 : zD cX8_init 137 (.putfield 61) 3 140 := ⟨by decide +kernel, rfl⟩
theorem dX8_init_140 : zD cX8_init 140 (.aload_n 0) 1 141 := ⟨by decide +kernel, rfl⟩
theorem dX8_init_141 : zD cX8_init 141 (.bipush 10) 2 143 := ⟨by decide +kernel, rfl⟩
theorem dX8_init_143 : zD cX8_init 143 (.newarray .int) 2 145 := ⟨by decide +kernel, rfl⟩
theorem dX8_init_145 : zD cX8_init 145 (.putfield 64) 3 148 := ⟨by decide +kernel, rfl⟩
theorem dX8_init_148 : zD cX8_init 148 (.aload_n 0) 1 149 := ⟨by decide +kernel, rfl⟩
theorem dX8_init_149 : zD cX8_init 149 (.sipush 144) 3 152 := ⟨by decide +kernel, rfl⟩
theorem dX8_init_152 : zD cX8_init 152 (.newarray .int) 2 154 := ⟨by decide +kernel, rfl⟩
theorem dX8_init_154 : zD cX8_init 154 (.putfield 67) 3 157 := ⟨by decide +kernel, rfl⟩
theorem dX8_init_157 : zD cX8_init 157 (.aload_n 0) 1 158 := ⟨by decide +kernel, rfl⟩
theorem dX8_init_158 : zD cX8_init 158 (.sipush 144) 3 161 := ⟨by decide +kernel, rfl⟩
theorem dX8_init_161 : zD cX8_init 161 (.newarray .int) 2 163 := ⟨by decide +kernel, rfl⟩
theorem dX8_init_163 : zD cX8_init 163 (.putfield 70) 3 166 := ⟨by decide +kernel, rfl⟩
theorem dX8_init_166 : zD cX8_init 166 (.aload_n 0) 1 167 := ⟨by decide +kernel, rfl⟩
theorem dX8_init_167 : zD cX8_init 167 (.bipush 100) 2 169 := ⟨by decide +kernel, rfl⟩
theorem dX8_init_169 : zD cX8_init 169 (.newarray .long) 2 171 := ⟨by decide +kernel, rfl⟩
theorem dX8_init_171 : zD cX8_init 171 (.putfield 73) 3 174 := ⟨by decide +kernel, rfl⟩
theorem dX8_init_174 : zD cX8_init 174 (.aload_n 0) 1 175 := ⟨by decide +kernel, rfl⟩
theorem dX8_init_175 : zD cX8_init 175 (.iconst 0) 1 176 := ⟨by decide +kernel, rfl⟩
theorem dX8_init_176 : zD cX8_init 176 (.invokevirtual 77) 3 179 := ⟨by decide +kernel, rfl⟩
theorem dX8_init_179 : zD cX8_init 179 (.aload_n 0) 1 180 := ⟨by decide +kernel, rfl⟩
theorem dX8_init_180 : zD cX8_init 180 (.getfield 13) 3 183 := ⟨by decide +kernel, rfl⟩
theorem dX8_init_183 : zD cX8_init 183 (.iconst 0) 1 184 := ⟨by decide +kernel, rfl⟩
theorem dX8_init_184 : zD cX8_init 184 (.iconst 3) 1 185 := ⟨by decide +kernel, rfl⟩
theorem dX8_init_185 : zD cX8_init 185 .iastore 1 186 := ⟨by decide +kernel, rfl⟩
theorem dX8_init_186 : zD cX8_init 186 (.iconst 0) 1 187 := ⟨by decide +kernel, rfl⟩
theorem dX8_init_187 : zD cX8_init 187 (.istore_n 1) 1 188 := ⟨by decide +kernel, rfl⟩
theorem dX8_init_188 : zD cX8_init 188 (.iload_n 1) 1 189 := ⟨by decide +kernel, rfl⟩
theorem dX8_init_189 : zD cX8_init 189 (.iconst 3) 1 190 := ⟨by decide +kernel, rfl⟩
theorem dX8_init_190 : zJ cX8_init 190 (.if_icmp .ge) 193 207 := ⟨17, by decide +kernel, rfl, by decide⟩
theorem dX8_init_193 : zD cX8_init 193 (.aload_n 0) 1 194 := ⟨by decide +kernel, rfl⟩
theorem dX8_init_194 : zD cX8_init 194 (.getfield 22) 3 197 := ⟨by decide +kernel, rfl⟩
theorem dX8_init_197 : zD cX8_init 197 (.iload_n 1) 1 198 := ⟨by decide +kernel, rfl⟩
theorem dX8_init_198 : zD cX8_init 198 (.bipush 50) 2 200 := ⟨by decide +kernel, rfl⟩
theorem dX8_init_200 : zD cX8_init 200 .iastore 1 201 := ⟨by decide +kernel, rfl⟩
theorem dX8_init_201 : zD cX8_init 201 (.iinc 1 1) 3 204 := ⟨by decide +kernel, rfl⟩
theorem dX8_init_204 : zJ cX8_init 204 .goto 207 188 := ⟨-16, by decide +kernel, rfl, by decide⟩
theorem dX8_init_207 : zD cX8_init 207 (.aload_n 0) 1 208 := ⟨by decide +kernel, rfl⟩
theorem dX8_init_208 : zD cX8_init 208 (.getfield 19) 3 211 := ⟨by decide +kernel, rfl⟩
theorem dX8_init_211 : zD cX8_init 211 (.iconst 2) 1 212 := ⟨by decide +kernel, rfl⟩
theorem dX8_init_212 : zD cX8_init 212 (.iconst 1) 1 213 := ⟨by decide +kernel, rfl⟩
theorem dX8_init_213 : zD cX8_init 213 .iastore 1 214 := ⟨by decide +kernel, rfl⟩
theorem dX8_init_214 : zD cX8_init 214 (.aload_n 0) 1 215 := ⟨by decide +kernel, rfl⟩
theorem dX8_init_215 : zD cX8_init 215 (.getfield 40) 3 218 := ⟨by decide +kernel, rfl⟩
theorem dX8_init_218 : zD cX8_init 218 (.iconst 0) 1 219 := ⟨by decide +kernel, rfl⟩
theorem dX8_init_219 : zD cX8_init 219 (.iconst 1) 1 220 := ⟨by decide +kernel, rfl⟩
theorem dX8_init_220 : zD cX8_init 220 .iastore 1 221 := ⟨by decide +kernel, rfl⟩
theorem dX8_init_221 : zD cX8_init 221 (.aload_n 0) 1 222 := ⟨by decide +kernel, rfl⟩
theorem dX8_init_222 : zD cX8_init 222 (.getfield 43) 3 225 := ⟨by decide +kernel, rfl⟩
theorem dX8_init_225 : zD cX8_init 225 (.iconst 0) 1 226 := ⟨by decide +kernel, rfl⟩
theorem dX8_init_226 : zD cX8_init 226 (.iconst 2) 1 227 := ⟨by decide +kernel, rfl⟩
theorem dX8_init_227 : zD cX8_init 227 .iastore 1 228 := ⟨by decide +kernel, rfl⟩
theorem dX8_init_228 : zD cX8_init 228 (.aload_n 0) 1 229 := ⟨by decide +kernel, rfl⟩
theorem dX8_init_229 : zD cX8_init 229 (.getfield 46) 3 232 := ⟨by decide +kernel, rfl⟩
theorem dX8_init_232 : zD cX8_init 232 (.iconst 0) 1 233 := ⟨by decide +kernel, rfl⟩
theorem dX8_init_233 : zD cX8_init 233 (.iconst 1) 1 234 := ⟨by decide +kernel, rfl⟩
theorem dX8_init_234 : zD cX8_init 234 .iastore 1 235 := ⟨by decide +kernel, rfl⟩
theorem dX8_init_235 : zD cX8_init 235 .return_ 1 236 := ⟨by decide +kernel, rfl⟩
theorem dX8_in_0 : zD cX8_in 0 (.lload_n 0) 1 1 := ⟨by decide +kernel, rfl⟩
theorem dX8_in_1 : zD cX8_in 1 (.lload_n 2) 1 2 := ⟨by decide +kernel, rfl⟩
theorem dX8_in_2 : zD cX8_in 2 .lcmp 1 3 := ⟨by decide +kernel, rfl⟩
theorem dX8_in_3 : zJ cX8_in 3 (.ifCond .lt) 6 17 := ⟨14, by decide +kernel, rfl, by decide⟩
theorem dX8_in_6 : zD cX8_in 6 (.lload_n 0) 1 7 := ⟨by decide +kernel, rfl⟩
theorem dX8_in_7 : zD cX8_in 7 (.lload 4) 2 9 := ⟨by decide +kernel, rfl⟩
theorem dX8_in_9 : zD cX8_in 9 .lcmp 1 10 := ⟨by decide +kernel, rfl⟩
theorem dX8_in_10 : zJ cX8_in 10 (.ifCond .gt) 13 17 := ⟨7, by decide +kernel, rfl, by decide⟩
theorem dX8_in_13 : zD cX8_in 13 (.iconst 1) 1 14 := ⟨by decide +kernel, rfl⟩
theorem dX8_in_14 : zJ cX8_in 14 .goto 17 18 := ⟨4, by decide +kernel, rfl, by decide⟩
theorem dX8_in_17 : zD cX8_in 17 (.iconst 0) 1 18 := ⟨by decide +kernel, rfl⟩
theorem dX8_in_18 : zD cX8_in 18 .ireturn 1 19 := ⟨by decide +kernel, rfl⟩
theorem dX8_has_0 : zD cX8_has 0 (.iload_n 0) 1 1 := ⟨by decide +kernel, rfl⟩
theorem dX8_has_1 : zD cX8_has 1 (.iload_n 1) 1 2 := ⟨by decide +kernel, rfl⟩
theorem dX8_has_2 : zD cX8_has 2 .ishr 1 3 := ⟨by decide +kernel, rfl⟩
theorem dX8_has_3 : zD cX8_has 3 (.iconst 1) 1 4 := ⟨by decide +kernel, rfl⟩
theorem dX8_has_4 : zD cX8_has 4 .iand 1 5 := ⟨by decide +kernel, rfl⟩
theorem dX8_has_5 : zD cX8_has 5 (.iconst 1) 1 6 := ⟨by decide +kernel, rfl⟩
theorem dX8_has_6 : zJ cX8_has 6 (.if_icmp .ne) 9 13 := ⟨7, by decide +kernel, rfl, by decide⟩
theorem dX8_has_9 : zD cX8_has 9 (.iconst 1) 1 10 := ⟨by decide +kernel, rfl⟩
theorem dX8_has_10 : zJ cX8_has 10 .goto 13 14 := ⟨4, by decide +kernel, rfl, by decide⟩
theorem dX8_has_13 : zD cX8_has 13 (.iconst 0) 1 14 := ⟨by decide +kernel, rfl⟩
theorem dX8_has_14 : zD cX8_has 14 .ireturn 1 15 := ⟨by decide +kernel, rfl⟩
theorem dX8_noMorning_0 : zD cX8_noMorning 0 (.aload_n 0) 1 1 := ⟨by decide +kernel, rfl⟩
theorem dX8_noMorning_1 : zD cX8_noMorning 1 (.getfield 13) 3 4 := ⟨by decide +kernel, rfl⟩
theorem dX8_noMorning_4 : zD cX8_noMorning 4 (.iload_n 1) 1 5 := ⟨by decide +kernel, rfl⟩
theorem dX8_noMorning_5 : zD cX8_noMorning 5 (.iconst 0) 1 6 := ⟨by decide +kernel, rfl⟩
theorem dX8_noMorning_6 : zD cX8_noMorning 6 .iastore 1 7 := ⟨by decide +kernel, rfl⟩
theorem dX8_noMorning_7 : zD cX8_noMorning 7 (.aload_n 0) 1 8 := ⟨by decide +kernel, rfl⟩
theorem dX8_noMorning_8 : zD cX8_noMorning 8 (.getfield 25) 3 11 := ⟨by decide +kernel, rfl⟩
theorem dX8_noMorning_11 : zD cX8_noMorning 11 (.iload_n 1) 1 12 := ⟨by decide +kernel, rfl⟩
theorem dX8_noMorning_12 : zD cX8_noMorning 12 (.iconst 0) 1 13 := ⟨by decide +kernel, rfl⟩
theorem dX8_noMorning_13 : zD cX8_noMorning 13 .iastore 1 14 := ⟨by decide +kernel, rfl⟩
theorem dX8_noMorning_14 : zD cX8_noMorning 14 (.aload_n 0) 1 15 := ⟨by decide +kernel, rfl⟩
theorem dX8_noMorning_15 : zD cX8_noMorning 15 (.getfield 28) 3 18 := ⟨by decide +kernel, rfl⟩
theorem dX8_noMorning_18 : zD cX8_noMorning 18 (.iload_n 1) 1 19 := ⟨by decide +kernel, rfl⟩
theorem dX8_noMorning_19 : zD cX8_noMorning 19 (.iconst 1) 1 20 := ⟨by decide +kernel, rfl⟩
theorem dX8_noMorning_20 : zD cX8_noMorning 20 .iastore 1 21 := ⟨by decide +kernel, rfl⟩
theorem dX8_noMorning_21 : zD cX8_noMorning 21 (.aload_n 0) 1 22 := ⟨by decide +kernel, rfl⟩
theorem dX8_noMorning_22 : zD cX8_noMorning 22 (.getfield 31) 3 25 := ⟨by decide +kernel, rfl⟩
theorem dX8_noMorning_25 : zD cX8_noMorning 25 (.iload_n 1) 1 26 := ⟨by decide +kernel, rfl⟩
theorem dX8_noMorning_26 : zD cX8_noMorning 26 (.iconst 2) 1 27 := ⟨by decide +kernel, rfl⟩
theorem dX8_noMorning_27 : zD cX8_noMorning 27 .iastore 1 28 := ⟨by decide +kernel, rfl⟩
theorem dX8_noMorning_28 : zD cX8_noMorning 28 (.aload_n 0) 1 29 := ⟨by decide +kernel, rfl⟩
theorem dX8_noMorning_29 : zD cX8_noMorning 29 (.getfield 34) 3 32 := ⟨by decide +kernel, rfl⟩
theorem dX8_noMorning_32 : zD cX8_noMorning 32 (.iload_n 1) 1 33 := ⟨by decide +kernel, rfl⟩
theorem dX8_noMorning_33 : zD cX8_noMorning 33 (.bipush 99) 2 35 := ⟨by decide +kernel, rfl⟩
theorem dX8_noMorning_35 : zD cX8_noMorning 35 .iastore 1 36 := ⟨by decide +kernel, rfl⟩
theorem dX8_noMorning_36 : zD cX8_noMorning 36 (.aload_n 0) 1 37 := ⟨by decide +kernel, rfl⟩
theorem dX8_noMorning_37 : zD cX8_noMorning 37 (.getfield 37) 3 40 := ⟨by decide +kernel, rfl⟩
theorem dX8_noMorning_40 : zD cX8_noMorning 40 (.iload_n 1) 1 41 := ⟨by decide +kernel, rfl⟩
theorem dX8_noMorning_41 : zD cX8_noMorning 41 (.iconst 0) 1 42 := ⟨by decide +kernel, rfl⟩
theorem dX8_noMorning_42 : zD cX8_noMorning 42 .iastore 1 43 := ⟨by decide +kernel, rfl⟩
theorem dX8_noMorning_43 : zD cX8_noMorning 43 (.aload_n 0) 1 44 := ⟨by decide +kernel, rfl⟩
theorem dX8_noMorning_44 : zD cX8_noMorning 44 (.getfield 40) 3 47 := ⟨by decide +kernel, rfl⟩
theorem dX8_noMorning_47 : zD cX8_noMorning 47 (.iload_n 1) 1 48 := ⟨by decide +kernel, rfl⟩
theorem dX8_noMorning_48 : zD cX8_noMorning 48 (.iconst 0) 1 49 := ⟨by decide +kernel, rfl⟩
theorem dX8_noMorning_49 : zD cX8_noMorning 49 .iastore 1 50 := ⟨by decide +kernel, rfl⟩
theorem dX8_noMorning_50 : zD cX8_noMorning 50 .return_ 1 51 := ⟨by decide +kernel, rfl⟩
theorem dX8_write_0 : zD cX8_write 0 (.iload_n 1) 1 1 := ⟨by decide +kernel, rfl⟩
theorem dX8_write_1 : zD cX8_write 1 .i2l 1 2 := ⟨by decide +kernel, rfl⟩
theorem dX8_write_2 : zD cX8_write 2 (.lconst 1) 1 3 := ⟨by decide +kernel, rfl⟩
theorem dX8_write_3 : zD cX8_write 3 (.ldc2_w 81) 3 6 := ⟨by decide +kernel, rfl⟩
theorem dX8_write_6 : zD cX8_write 6 (.invokestatic 83) 3 9 := ⟨by decide +kernel, rfl⟩
theorem dX8_write_9 : zJ cX8_write 9 (.ifCond .ne) 12 14 := ⟨5, by decide +kernel, rfl, by decide⟩
theorem dX8_write_12 : zD cX8_write 12 (.iconst (-1)) 1 13 := ⟨by decide +kernel, rfl⟩
theorem dX8_write_13 : zD cX8_write 13 .ireturn 1 14 := ⟨by decide +kernel, rfl⟩
theorem dX8_write_14 : zD cX8_write 14 (.aload_n 0) 1 15 := ⟨by decide +kernel, rfl⟩
theorem dX8_write_15 : zD cX8_write 15 (.getfield 87) 3 18 := ⟨by decide +kernel, rfl⟩
theorem dX8_write_18 : zD cX8_write 18 (.iload_n 1) 1 19 := ⟨by decide +kernel, rfl⟩
theorem dX8_write_19 : zD cX8_write 19 .iadd 1 20 := ⟨by decide +kernel, rfl⟩
theorem dX8_write_20 : zD cX8_write 20 (.sipush 300) 3 23 := ⟨by decide +kernel, rfl⟩
theorem dX8_write_23 : zJ cX8_write 23 (.if_icmp .le) 26 29 := ⟨6, by decide +kernel, rfl, by decide⟩
theorem dX8_write_26 : zD cX8_write 26 (.bipush (-3)) 2 28 := ⟨by decide +kernel, rfl⟩
theorem dX8_write_28 : zD cX8_write 28 .ireturn 1 29 := ⟨by decide +kernel, rfl⟩
theorem dX8_write_29 : zD cX8_write 29 (.iload_n 1) 1 30 := ⟨by decide +kernel, rfl⟩
theorem dX8_write_30 : zD cX8_write 30 (.iconst 1) 1 31 := ⟨by decide +kernel, rfl⟩
theorem dX8_write_31 : zD cX8_write 31 .isub 1 32 := ⟨by decide +kernel, rfl⟩
theorem dX8_write_32 : zD cX8_write 32 (.istore 4) 2 34 := ⟨by decide +kernel, rfl⟩
theorem dX8_write_34 : zD cX8_write 34 (.iload 4) 2 36 := ⟨by decide +kernel, rfl⟩
theorem dX8_write_36 : zJ cX8_write 36 (.ifCond .lt) 39 76 := ⟨40, by decide +kernel, rfl, by decide⟩
theorem dX8_write_39 : zD cX8_write 39 (.aload_n 0) 1 40 := ⟨by decide +kernel, rfl⟩
theorem dX8_write_40 : zD cX8_write 40 (.getfield 7) 3 43 := ⟨by decide +kernel, rfl⟩
theorem dX8_write_43 : zD cX8_write 43 (.aload_n 0) 1 44 := ⟨by decide +kernel, rfl⟩
theorem dX8_write_44 : zD cX8_write 44 (.getfield 87) 3 47 := ⟨by decide +kernel, rfl⟩
theorem dX8_write_47 : zD cX8_write 47 (.lload_n 2) 1 48 := ⟨by decide +kernel, rfl⟩
theorem dX8_write_48 : zD cX8_write 48 (.bipush 8) 2 50 := ⟨by decide +kernel, rfl⟩
theorem dX8_write_50 : zD cX8_write 50 (.iload 4) 2 52 := ⟨by decide +kernel, rfl⟩
theorem dX8_write_52 : zD cX8_write 52 .imul 1 53 := ⟨by decide +kernel, rfl⟩
theorem dX8_write_53 : zD cX8_write 53 .lshr 1 54 := ⟨by decide +kernel, rfl⟩
theorem dX8_write_54 : zD cX8_write 54 (.ldc2_w 91) 3 57 := ⟨by decide +kernel, rfl⟩
theorem dX8_write_57 : zD cX8_write 57 .land 1 58 := ⟨by decide +kernel, rfl⟩
theorem dX8_write_58 : zD cX8_write 58 .l2i 1 59 := ⟨by decide +kernel, rfl⟩
theorem dX8_write_59 : zD cX8_write 59 .iastore 1 60 := ⟨by decide +kernel, rfl⟩
theorem dX8_write_60 : zD cX8_write 60 (.aload_n 0) 1 61 := ⟨by decide +kernel, rfl⟩
theorem dX8_write_61 : zD cX8_write 61 .dup 1 62 := ⟨by decide +kernel, rfl⟩
theorem dX8_write_62 : zD cX8_write 62 (.getfield 87) 3 65 := ⟨by decide +kernel, rfl⟩
theorem dX8_write_65 : zD cX8_write 65 (.iconst 1) 1 66 := ⟨by decide +kernel, rfl⟩
theorem dX8_write_66 : zD cX8_write 66 .iadd 1 67 := ⟨by decide +kernel, rfl⟩
theorem dX8_write_67 : zD cX8_write 67 (.putfield 87) 3 70 := ⟨by decide +kernel, rfl⟩
theorem dX8_write_70 : zD cX8_write 70 (.iinc 4 (-1)) 3 73 := ⟨by decide +kernel, rfl⟩
theorem dX8_write_73 : zJ cX8_write 73 .goto 76 34 := ⟨-39, by decide +kernel, rfl, by decide⟩
theorem dX8_write_76 : zD cX8_write 76 (.aload_n 0) 1 77 := ⟨by decide +kernel, rfl⟩
theorem dX8_write_77 : zD cX8_write 77 (.getfield 87) 3 80 := ⟨by decide +kernel, rfl⟩
theorem dX8_write_80 : zD cX8_write 80 .ireturn 1 81 := ⟨by decide +kernel, rfl⟩
theorem dX8_wipe_0 : zD cX8_wipe 0 (.aload_n 0) 1 1 := ⟨by decide +kernel, rfl⟩
theorem dX8_wipe_1 : zD cX8_wipe 1 (.getfield 87) 3 4 := ⟨by decide +kernel, rfl⟩
theorem dX8_wipe_4 : zD cX8_wipe 4 (.istore_n 1) 1 5 := ⟨by decide +kernel, rfl⟩
theorem dX8_wipe_5 : zD cX8_wipe 5 (.aload_n 0) 1 6 := ⟨by decide +kernel, rfl⟩
theorem dX8_wipe_6 : zD cX8_wipe 6 (.iconst 0) 1 7 := ⟨by decide +kernel, rfl⟩
theorem dX8_wipe_7 : zD cX8_wipe 7 (.putfield 87) 3 10 := ⟨by decide +kernel, rfl⟩
theorem dX8_wipe_10 : zD cX8_wipe 10 (.iload_n 1) 1 11 := ⟨by decide +kernel, rfl⟩
theorem dX8_wipe_11 : zD cX8_wipe 11 .ireturn 1 12 := ⟨by decide +kernel, rfl⟩
theorem dX8_byteAt_0 : zD cX8_byteAt 0 (.iload_n 1) 1 1 := ⟨by decide +kernel, rfl⟩
theorem dX8_byteAt_1 : zD cX8_byteAt 1 (.aload_n 0) 1 2 := ⟨by decide +kernel, rfl⟩
theorem dX8_byteAt_2 : zD cX8_byteAt 2 (.getfield 87) 3 5 := ⟨by decide +kernel, rfl⟩
theorem dX8_byteAt_5 : zJ cX8_byteAt 5 (.if_icmp .ge) 8 17 := ⟨12, by decide +kernel, rfl, by decide⟩
theorem dX8_byteAt_8 : zD cX8_byteAt 8 (.aload_n 0) 1 9 := ⟨by decide +kernel, rfl⟩
theorem dX8_byteAt_9 : zD cX8_byteAt 9 (.getfield 7) 3 12 := ⟨by decide +kernel, rfl⟩
theorem dX8_byteAt_12 : zD cX8_byteAt 12 (.iload_n 1) 1 13 := ⟨by decide +kernel, rfl⟩
theorem dX8_byteAt_13 : zD cX8_byteAt 13 .iaload 1 14 := ⟨by decide +kernel, rfl⟩
theorem dX8_byteAt_14 : zJ cX8_byteAt 14 .goto 17 18 := ⟨4, by decide +kernel, rfl, by decide⟩
theorem dX8_byteAt_17 : zD cX8_byteAt 17 (.iconst 0) 1 18 := ⟨by decide +kernel, rfl⟩
theorem dX8_byteAt_18 : zD cX8_byteAt 18 .ireturn 1 19 := ⟨by decide +kernel, rfl⟩
theorem dX8_figures_0 : zD cX8_figures 0 (.iconst 0) 1 1 := ⟨by decide +kernel, rfl⟩
theorem dX8_figures_1 : zD cX8_figures 1 (.istore_n 2) 1 2 := ⟨by decide +kernel, rfl⟩
theorem dX8_figures_2 : zD cX8_figures 2 (.iload_n 2) 1 3 := ⟨by decide +kernel, rfl⟩
theorem dX8_figures_3 : zD cX8_figures 3 (.iload_n 1) 1 4 := ⟨by decide +kernel, rfl⟩
theorem dX8_figures_4 : zJ cX8_figures 4 (.if_icmp .ge) 7 136 := ⟨132, by decide +kernel, rfl, by decide⟩
theorem dX8_figures_7 : zD cX8_figures 7 (.iconst 0) 1 8 := ⟨by decide +kernel, rfl⟩
theorem dX8_figures_8 : zD cX8_figures 8 (.istore_n 3) 1 9 := ⟨by decide +kernel, rfl⟩
theorem dX8_figures_9 : zD cX8_figures 9 (.iconst 0) 1 10 := ⟨by decide +kernel, rfl⟩
theorem dX8_figures_10 : zD cX8_figures 10 (.istore 4) 2 12 := ⟨by decide +kernel, rfl⟩
theorem dX8_figures_12 : zD cX8_figures 12 (.aload_n 0) 1 13 := ⟨by decide +kernel, rfl⟩
theorem dX8_figures_13 : zD cX8_figures 13 (.aload_n 0) 1 14 := ⟨by decide +kernel, rfl⟩
theorem dX8_figures_14 : zD cX8_figures 14 (.getfield 93) 3 17 := ⟨by decide +kernel, rfl⟩
theorem dX8_figures_17 : zD cX8_figures 17 (.invokevirtual 96) 3 20 := ⟨by decide +kernel, rfl⟩
theorem dX8_figures_20 : zD cX8_figures 20 .i2l 1 21 := ⟨by decide +kernel, rfl⟩
theorem dX8_figures_21 : zD cX8_figures 21 (.ldc2_w 100) 3 24 := ⟨by decide +kernel, rfl⟩
theorem dX8_figures_24 : zD cX8_figures 24 (.ldc2_w 102) 3 27 := ⟨by decide +kernel, rfl⟩
theorem dX8_figures_27 : zD cX8_figures 27 (.invokestatic 83) 3 30 := ⟨by decide +kernel, rfl⟩
theorem dX8_figures_30 : zJ cX8_figures 30 (.ifCond .eq) 33 73 := ⟨43, by decide +kernel, rfl, by decide⟩
theorem dX8_figures_33 : zD cX8_figures 33 (.iload_n 3) 1 34 := ⟨by decide +kernel, rfl⟩
theorem dX8_figures_34 : zD cX8_figures 34 (.iconst 3) 1 35 := ⟨by decide +kernel, rfl⟩
theorem dX8_figures_35 : zJ cX8_figures 35 (.if_icmp .ge) 38 73 := ⟨38, by decide +kernel, rfl, by decide⟩
theorem dX8_figures_38 : zD cX8_figures 38 (.bipush 10) 2 40 := ⟨by decide +kernel, rfl⟩
theorem dX8_figures_40 : zD cX8_figures 40 (.iload 4) 2 42 := ⟨by decide +kernel, rfl⟩
theorem dX8_figures_42 : zD cX8_figures 42 .imul 1 43 := ⟨by decide +kernel, rfl⟩
theorem dX8_figures_43 : zD cX8_figures 43 (.aload_n 0) 1 44 := ⟨by decide +kernel, rfl⟩
theorem dX8_figures_44 : zD cX8_figures 44 (.aload_n 0) 1 45 := ⟨by decide +kernel, rfl⟩
theorem dX8_figures_45 : zD cX8_figures 45 (.getfield 93) 3 48 := ⟨by decide +kernel, rfl⟩
theorem dX8_figures_48 : zD cX8_figures 48 (.invokevirtual 96) 3 51 := ⟨by decide +kernel, rfl⟩
theorem dX8_figures_51 : zD cX8_figures 51 .iadd 1 52 := ⟨by decide +kernel, rfl⟩
theorem dX8_figures_52 : zD cX8_figures 52 (.bipush 48) 2 54 := ⟨by decide +kernel, rfl⟩
theorem dX8_figures_54 : zD cX8_figures 54 .isub 1 55 := ⟨by decide +kernel, rfl⟩
theorem dX8_figures_55 : zD cX8_figures 55 (.istore 4) 2 57 := ⟨by decide +kernel, rfl⟩
theorem dX8_figures_57 : zD cX8_figures 57 (.iinc 3 1) 3 60 := ⟨by decide +kernel, rfl⟩
theorem dX8_figures_60 : zD cX8_figures 60 (.aload_n 0) 1 61 := ⟨by decide +kernel, rfl⟩
theorem dX8_figures_61 : zD cX8_figures 61 .dup 1 62 := ⟨by decide +kernel, rfl⟩
theorem dX8_figures_62 : zD cX8_figures 62 (.getfield 93) 3 65 := ⟨by decide +kernel, rfl⟩
theorem dX8_figures_65 : zD cX8_figures 65 (.iconst 1) 1 66 := ⟨by decide +kernel, rfl⟩
theorem dX8_figures_66 : zD cX8_figures 66 .iadd 1 67 := ⟨by decide +kernel, rfl⟩
theorem dX8_figures_67 : zD cX8_figures 67 (.putfield 93) 3 70 := ⟨by decide +kernel, rfl⟩
theorem dX8_figures_70 : zJ cX8_figures 70 .goto 73 12 := ⟨-58, by decide +kernel, rfl, by decide⟩
theorem dX8_figures_73 : zD cX8_figures 73 (.iload_n 3) 1 74 := ⟨by decide +kernel, rfl⟩
theorem dX8_figures_74 : zD cX8_figures 74 .i2l 1 75 := ⟨by decide +kernel, rfl⟩
theorem dX8_figures_75 : zD cX8_figures 75 (.lconst 1) 1 76 := ⟨by decide +kernel, rfl⟩
theorem dX8_figures_76 : zD cX8_figures 76 (.ldc2_w 104) 3 79 := ⟨by decide +kernel, rfl⟩
theorem dX8_figures_79 : zD cX8_figures 79 (.invokestatic 83) 3 82 := ⟨by decide +kernel, rfl⟩
theorem dX8_figures_82 : zJ cX8_figures 82 (.ifCond .eq) 85 110 := ⟨28, by decide +kernel, rfl, by decide⟩
theorem dX8_figures_85 : zD cX8_figures 85 (.aload_n 0) 1 86 := ⟨by decide +kernel, rfl⟩
theorem dX8_figures_86 : zD cX8_figures 86 (.aload_n 0) 1 87 := ⟨by decide +kernel, rfl⟩
theorem dX8_figures_87 : zD cX8_figures 87 (.getfield 93) 3 90 := ⟨by decide +kernel, rfl⟩
theorem dX8_figures_90 : zD cX8_figures 90 (.invokevirtual 96) 3 93 := ⟨by decide +kernel, rfl⟩
theorem dX8_figures_93 : zD cX8_figures 93 (.iload_n 2) 1 94 := ⟨by decide +kernel, rfl⟩
theorem dX8_figures_94 : zD cX8_figures 94 (.iload_n 1) 1 95 := ⟨by decide +kernel, rfl⟩
theorem dX8_figures_95 : zD cX8_figures 95 (.iconst 1) 1 96 := ⟨by decide +kernel, rfl⟩
theorem dX8_figures_96 : zD cX8_figures 96 .isub 1 97 := ⟨by decide +kernel, rfl⟩
theorem dX8_figures_97 : zJ cX8_figures 97 (.if_icmp .ge) 100 105 := ⟨8, by decide +kernel, rfl, by decide⟩
theorem dX8_figures_100 : zD cX8_figures 100 (.bipush 44) 2 102 := ⟨by decide +kernel, rfl⟩
theorem dX8_figures_102 : zJ cX8_figures 102 .goto 105 107 := ⟨5, by decide +kernel, rfl, by decide⟩
theorem dX8_figures_105 : zD cX8_figures 105 (.bipush 59) 2 107 := ⟨by decide +kernel, rfl⟩
theorem dX8_figures_107 : zJ cX8_figures 107 (.if_icmp .eq) 110 112 := ⟨5, by decide +kernel, rfl, by decide⟩
theorem dX8_figures_110 : zD cX8_figures 110 (.iconst 0) 1 111 := ⟨by decide +kernel, rfl⟩
theorem dX8_figures_111 : zD cX8_figures 111 .ireturn 1 112 := ⟨by decide +kernel, rfl⟩
theorem dX8_figures_112 : zD cX8_figures 112 (.aload_n 0) 1 113 := ⟨by decide +kernel, rfl⟩
theorem dX8_figures_113 : zD cX8_figures 113 (.getfield 55) 3 116 := ⟨by decide +kernel, rfl⟩
theorem dX8_figures_116 : zD cX8_figures 116 (.iload_n 2) 1 117 := ⟨by decide +kernel, rfl⟩
theorem dX8_figures_117 : zD cX8_figures 117 (.iload 4) 2 119 := ⟨by decide +kernel, rfl⟩
theorem dX8_figures_119 : zD cX8_figures 119 .iastore 1 120 := ⟨by decide +kernel, rfl⟩
theorem dX8_figures_120 : zD cX8_figures 120 (.aload_n 0) 1 121 := ⟨by decide +kernel, rfl⟩
theorem dX8_figures_121 : zD cX8_figures 121 .dup 1 122 := ⟨by decide +kernel, rfl⟩
theorem dX8_figures_122 : zD cX8_figures 122 (.getfield 93) 3 125 := ⟨by decide +kernel, rfl⟩
theorem dX8_figures_125 : zD cX8_figures 125 (.iconst 1) 1 126 := ⟨by decide +kernel, rfl⟩
theorem dX8_figures_126 : zD cX8_figures 126 .iadd 1 127 := ⟨by decide +kernel, rfl⟩
theorem dX8_figures_127 : zD cX8_figures 127 (.putfield 93) 3 130 := ⟨by decide +kernel, rfl⟩
theorem dX8_figures_130 : zD cX8_figures 130 (.iinc 2 1) 3 133 := ⟨by decide +kernel, rfl⟩
theorem dX8_figures_133 : zJ cX8_figures 133 .goto 136 2 := ⟨-131, by decide +kernel, rfl, by decide⟩
theorem dX8_figures_136 : zD cX8_figures 136 (.iconst 1) 1 137 := ⟨by decide +kernel, rfl⟩
theorem dX8_figures_137 : zD cX8_figures 137 .ireturn 1 138 := ⟨by decide +kernel, rfl⟩
theorem dX8_item_0 : zD cX8_item 0 (.aload_n 0) 1 1 := ⟨by decide +kernel, rfl⟩
theorem dX8_item_1 : zD cX8_item 1 (.aload_n 0) 1 2 := ⟨by decide +kernel, rfl⟩
theorem dX8_item_2 : zD cX8_item 2 (.getfield 93) 3 5 := ⟨by decide +kernel, rfl⟩
theorem dX8_item_5 : zD cX8_item 5 (.invokevirtual 96) 3 8 := ⟨by decide +kernel, rfl⟩
theorem dX8_item_8 : zD cX8_item 8 (.istore_n 1) 1 9 := ⟨by decide +kernel, rfl⟩
theorem dX8_item_9 : zD cX8_item 9 (.aload_n 0) 1 10 := ⟨by decide +kernel, rfl⟩
theorem dX8_item_10 : zD cX8_item 10 .dup 1 11 := ⟨by decide +kernel, rfl⟩
theorem dX8_item_11 : zD cX8_item 11 (.getfield 93) 3 14 := ⟨by decide +kernel, rfl⟩
theorem dX8_item_14 : zD cX8_item 14 (.iconst 1) 1 15 := ⟨by decide +kernel, rfl⟩
theorem dX8_item_15 : zD cX8_item 15 .iadd 1 16 := ⟨by decide +kernel, rfl⟩
theorem dX8_item_16 : zD cX8_item 16 (.putfield 93) 3 19 := ⟨by decide +kernel, rfl⟩
theorem dX8_item_19 : zD cX8_item 19 (.iload_n 1) 1 20 := ⟨by decide +kernel, rfl⟩
theorem dX8_item_20 : zD cX8_item 20 (.tableswitch 468 98 115 #[410, 200, 468, 468, 468, 468, 468, 468, 468, 468, 434, 468, 468, 468, 88, 305, 468, 340]) 88 108 := ⟨by decide +kernel, rfl⟩
theorem dX8_item_108 : zD cX8_item 108 (.aload_n 0) 1 109 := ⟨by decide +kernel, rfl⟩
theorem dX8_item_109 : zD cX8_item 109 (.iconst 3) 1 110 := ⟨by decide +kernel, rfl⟩
theorem dX8_item_110 : zD cX8_item 110 (.invokevirtual 106) 3 113 := ⟨by decide +kernel, rfl⟩
theorem dX8_item_113 : zJ cX8_item 113 (.ifCond .eq) 116 146 := ⟨33, by decide +kernel, rfl, by decide⟩
theorem dX8_item_116 : zD cX8_item 116 (.aload_n 0) 1 117 := ⟨by decide +kernel, rfl⟩
theorem dX8_item_117 : zD cX8_item 117 (.getfield 13) 3 120 := ⟨by decide +kernel, rfl⟩
theorem dX8_item_120 : zD cX8_item 120 (.iconst 1) 1 121 := ⟨by decide +kernel, rfl⟩
theorem dX8_item_121 : zD cX8_item 121 .iaload 1 122 := ⟨by decide +kernel, rfl⟩
theorem dX8_item_122 : zD cX8_item 122 (.bipush 10) 2 124 := ⟨by decide +kernel, rfl⟩
theorem dX8_item_124 : zJ cX8_item 124 (.if_icmp .eq) 127 146 := ⟨22, by decide +kernel, rfl, by decide⟩
theorem dX8_item_127 : zD cX8_item 127 (.aload_n 0) 1 128 := ⟨by decide +kernel, rfl⟩
theorem dX8_item_128 : zD cX8_item 128 (.getfield 55) 3 131 := ⟨by decide +kernel, rfl⟩
theorem dX8_item_131 : zD cX8_item 131 (.iconst 1) 1 132 := ⟨by decide +kernel, rfl⟩
theorem dX8_item_132 : zD cX8_item 132 .iaload 1 133 := ⟨by decide +kernel, rfl⟩
theorem dX8_item_133 : zD cX8_item 133 (.iconst 1) 1 134 := ⟨by decide +kernel, rfl⟩
theorem dX8_item_134 : zJ cX8_item 134 (.if_icmp .gt) 137 146 := ⟨12, by decide +kernel, rfl, by decide⟩
theorem dX8_item_137 : zD cX8_item 137 (.aload_n 0) 1 138 := ⟨by decide +kernel, rfl⟩
theorem dX8_item_138 : zD cX8_item 138 (.getfield 55) 3 141 := ⟨by decide +kernel, rfl⟩
theorem dX8_item_141 : zD cX8_item 141 (.iconst 2) 1 142 := ⟨by decide +kernel, rfl⟩
theorem dX8_item_142 : zD cX8_item 142 .iaload 1 143 := ⟨by decide +kernel, rfl⟩
theorem dX8_item_143 : zJ cX8_item 143 (.ifCond .ne) 146 148 := ⟨5, by decide +kernel, rfl, by decide⟩
theorem dX8_item_146 : zD cX8_item 146 (.iconst 0) 1 147 := ⟨by decide +kernel, rfl⟩
theorem dX8_item_147 : zD cX8_item 147 .ireturn 1 148 := ⟨by decide +kernel, rfl⟩
theorem dX8_item_148 : zD cX8_item 148 (.aload_n 0) 1 149 := ⟨by decide +kernel, rfl⟩
theorem dX8_item_149 : zD cX8_item 149 (.getfield 16) 3 152 := ⟨by decide +kernel, rfl⟩
theorem dX8_item_152 : zD cX8_item 152 (.bipush 10) 2 154 := ⟨by decide +kernel, rfl⟩
theorem dX8_item_154 : zD cX8_item 154 (.aload_n 0) 1 155 := ⟨by decide +kernel, rfl⟩
theorem dX8_item_155 : zD cX8_item 155 (.getfield 13) 3 158 := ⟨by decide +kernel, rfl⟩
theorem dX8_item_158 : zD cX8_item 158 (.iconst 1) 1 159 := ⟨by decide +kernel, rfl⟩
theorem dX8_item_159 : zD cX8_item 159 .iaload 1 160 := ⟨by decide +kernel, rfl⟩
theorem dX8_item_160 : zD cX8_item 160 .iadd 1 161 := ⟨by decide +kernel, rfl⟩
theorem dX8_item_161 : zD cX8_item 161 (.aload_n 0) 1 162 := ⟨by decide +kernel, rfl⟩
theorem dX8_item_162 : zD cX8_item 162 (.getfield 55) 3 165 := ⟨by decide +kernel, rfl⟩
theorem dX8_item_165 : zD cX8_item 165 (.iconst 0) 1 166 := ⟨by decide +kernel, rfl⟩
theorem dX8_item_166 : zD cX8_item 166 .iaload 1 167 := ⟨by decide +kernel, rfl⟩
theorem dX8_item_167 : zD cX8_item 167 .iastore 1 168 := ⟨by decide +kernel, rfl⟩
theorem dX8_item_168 : zD cX8_item 168 (.aload_n 0) 1 169 := ⟨by decide +kernel, rfl⟩
theorem dX8_item_169 : zD cX8_item 169 (.getfield 19) 3 172 := ⟨by decide +kernel, rfl⟩
theorem dX8_item_172 : zD cX8_item 172 (.bipush 10) 2 174 := ⟨by decide +kernel, rfl⟩
theorem dX8_item_174 : zD cX8_item 174 (.aload_n 0) 1 175 := ⟨by decide +kernel, rfl⟩
theorem dX8_item_175 : zD cX8_item 175 (.getfield 13) 3 178 := ⟨by decide +kernel, rfl⟩
theorem dX8_item_178 : zD cX8_item 178 (.iconst 1) 1 179 := ⟨by decide +kernel, rfl⟩
theorem dX8_item_179 : zD cX8_item 179 .iaload 1 180 := ⟨by decide +kernel, rfl⟩
theorem dX8_item_180 : zD cX8_item 180 .iadd 1 181 := ⟨by decide +kernel, rfl⟩
theorem dX8_item_181 : zD cX8_item 181 (.aload_n 0) 1 182 := ⟨by decide +kernel, rfl⟩
theorem dX8_item_182 : zD cX8_item 182 (.getfield 55) 3 185 := ⟨by decide +kernel, rfl⟩
theorem dX8_item_185 : zD cX8_item 185 (.iconst 1) 1 186 := ⟨by decide +kernel, rfl⟩
theorem dX8_item_186 : zD cX8_item 186 .iaload 1 187 := ⟨by decide +kernel, rfl⟩
theorem dX8_item_187 : zD cX8_item 187 .iastore 1 188 := ⟨by decide +kernel, rfl⟩
theorem dX8_item_188 : zD cX8_item 188 (.aload_n 0) 1 189 := ⟨by decide +kernel, rfl⟩
theorem dX8_item_189 : zD cX8_item 189 (.getfield 22) 3 192 := ⟨by decide +kernel, rfl⟩
theorem dX8_item_192 : zD cX8_item 192 (.bipush 10) 2 194 := ⟨by decide +kernel, rfl⟩
theorem dX8_item_194 : zD cX8_item 194 (.aload_n 0) 1 195 := ⟨by decide +kernel, rfl⟩
theorem dX8_item_195 : zD cX8_item 195 (.getfield 13) 3 198 := ⟨by decide +kernel, rfl⟩
theorem dX8_item_198 : zD cX8_item 198 (.iconst 1) 1 199 := ⟨by decide +kernel, rfl⟩
theorem dX8_item_199 : zD cX8_item 199 .iaload 1 200 := ⟨by decide +kernel, rfl⟩
theorem dX8_item_200 : zD cX8_item 200 .iadd 1 201 := ⟨by decide +kernel, rfl⟩
theorem dX8_item_201 : zD cX8_item 201 (.aload_n 0) 1 202 := ⟨by decide +kernel, rfl⟩
theorem dX8_item_202 : zD cX8_item 202 (.getfield 55) 3 205 := ⟨by decide +kernel, rfl⟩
theorem dX8_item_205 : zD cX8_item 205 (.iconst 2) 1 206 := ⟨by decide +kernel, rfl⟩
theorem dX8_item_206 : zD cX8_item 206 .iaload 1 207 := ⟨by decide +kernel, rfl⟩
theorem dX8_item_207 : zD cX8_item 207 .iastore 1 208 := ⟨by decide +kernel, rfl⟩
theorem dX8_item_208 : zD cX8_item 208 (.aload_n 0) 1 209 := ⟨by decide +kernel, rfl⟩
theorem dX8_item_209 : zD cX8_item 209 (.getfield 13) 3 212 := ⟨by decide +kernel, rfl⟩
theorem dX8_item_212 : zD cX8_item 212 (.iconst 1) 1 213 := ⟨by decide +kernel, rfl⟩
theorem dX8_item_213 : zD cX8_item 213 .dup2 1 214 := ⟨by decide +kernel, rfl⟩
theorem dX8_item_214 : zD cX8_item 214 .iaload 1 215 := ⟨by decide +kernel, rfl⟩
theorem dX8_item_215 : zD cX8_item 215 (.iconst 1) 1 216 := ⟨by decide +kernel, rfl⟩
theorem dX8_item_216 : zD cX8_item 216 .iadd 1 217 := ⟨by decide +kernel, rfl⟩
theorem dX8_item_217 : zD cX8_item 217 .iastore 1 218 := ⟨by decide +kernel, rfl⟩
theorem dX8_item_218 : zD cX8_item 218 (.iconst 1) 1 219 := ⟨by decide +kernel, rfl⟩
theorem dX8_item_219 : zD cX8_item 219 .ireturn 1 220 := ⟨by decide +kernel, rfl⟩
theorem dX8_item_220 : zD cX8_item 220 (.aload_n 0) 1 221 := ⟨by decide +kernel, rfl⟩
theorem dX8_item_221 : zD cX8_item 221 (.iconst 2) 1 222 := ⟨by decide +kernel, rfl⟩
theorem dX8_item_222 : zD cX8_item 222 (.invokevirtual 106) 3 225 := ⟨by decide +kernel, rfl⟩
theorem dX8_item_225 : zJ cX8_item 225 (.ifCond .eq) 228 271 := ⟨46, by decide +kernel, rfl, by decide⟩
theorem dX8_item_228 : zD cX8_item 228 (.aload_n 0) 1 229 := ⟨by decide +kernel, rfl⟩
theorem dX8_item_229 : zD cX8_item 229 (.getfield 40) 3 232 := ⟨by decide +kernel, rfl⟩
theorem dX8_item_232 : zD cX8_item 232 (.iconst 1) 1 233 := ⟨by decide +kernel, rfl⟩
theorem dX8_item_233 : zD cX8_item 233 .iaload 1 234 := ⟨by decide +kernel, rfl⟩
theorem dX8_item_234 : zD cX8_item 234 (.bipush 8) 2 236 := ⟨by decide +kernel, rfl⟩
theorem dX8_item_236 : zJ cX8_item 236 (.if_icmp .eq) 239 271 := ⟨35, by decide +kernel, rfl, by decide⟩
theorem dX8_item_239 : zD cX8_item 239 (.aload_n 0) 1 240 := ⟨by decide +kernel, rfl⟩
theorem dX8_item_240 : zD cX8_item 240 (.getfield 55) 3 243 := ⟨by decide +kernel, rfl⟩
theorem dX8_item_243 : zD cX8_item 243 (.iconst 0) 1 244 := ⟨by decide +kernel, rfl⟩
theorem dX8_item_244 : zD cX8_item 244 .iaload 1 245 := ⟨by decide +kernel, rfl⟩
theorem dX8_item_245 : zD cX8_item 245 (.aload_n 0) 1 246 := ⟨by decide +kernel, rfl⟩
theorem dX8_item_246 : zD cX8_item 246 (.getfield 13) 3 249 := ⟨by decide +kernel, rfl⟩
theorem dX8_item_249 : zD cX8_item 249 (.iconst 1) 1 250 := ⟨by decide +kernel, rfl⟩
theorem dX8_item_250 : zD cX8_item 250 .iaload 1 251 := ⟨by decide +kernel, rfl⟩
theorem dX8_item_251 : zJ cX8_item 251 (.if_icmp .ge) 254 271 := ⟨20, by decide +kernel, rfl, by decide⟩
theorem dX8_item_254 : zD cX8_item 254 (.aload_n 0) 1 255 := ⟨by decide +kernel, rfl⟩
theorem dX8_item_255 : zD cX8_item 255 (.getfield 19) 3 258 := ⟨by decide +kernel, rfl⟩
theorem dX8_item_258 : zD cX8_item 258 (.bipush 10) 2 260 := ⟨by decide +kernel, rfl⟩
theorem dX8_item_260 : zD cX8_item 260 (.aload_n 0) 1 261 := ⟨by decide +kernel, rfl⟩
theorem dX8_item_261 : zD cX8_item 261 (.getfield 55) 3 264 := ⟨by decide +kernel, rfl⟩
theorem dX8_item_264 : zD cX8_item 264 (.iconst 0) 1 265 := ⟨by decide +kernel, rfl⟩
theorem dX8_item_265 : zD cX8_item 265 .iaload 1 266 := ⟨by decide +kernel, rfl⟩
theorem dX8_item_266 : zD cX8_item 266 .iadd 1 267 := ⟨by decide +kernel, rfl⟩
theorem dX8_item_267 : zD cX8_item 267 .iaload 1 268 := ⟨by decide +kernel, rfl⟩
theorem dX8_item_268 : zJ cX8_item 268 (.ifCond .ne) 271 273 := ⟨5, by decide +kernel, rfl, by decide⟩
theorem dX8_item_271 : zD cX8_item 271 (.iconst 0) 1 272 := ⟨by decide +kernel, rfl⟩
theorem dX8_item_272 : zD cX8_item 272 .ireturn 1 273 := ⟨by decide +kernel, rfl⟩
theorem dX8_item_273 : zD cX8_item 273 (.aload_n 0) 1 274 := ⟨by decide +kernel, rfl⟩
theorem dX8_item_274 : zD cX8_item 274 (.getfield 43) 3 277 := ⟨by decide +kernel, rfl⟩
theorem dX8_item_277 : zD cX8_item 277 (.bipush 8) 2 279 := ⟨by decide +kernel, rfl⟩
theorem dX8_item_279 : zD cX8_item 279 (.aload_n 0) 1 280 := ⟨by decide +kernel, rfl⟩
theorem dX8_item_280 : zD cX8_item 280 (.getfield 40) 3 283 := ⟨by decide +kernel, rfl⟩
theorem dX8_item_283 : zD cX8_item 283 (.iconst 1) 1 284 := ⟨by decide +kernel, rfl⟩
theorem dX8_item_284 : zD cX8_item 284 .iaload 1 285 := ⟨by decide +kernel, rfl⟩
theorem dX8_item_285 : zD cX8_item 285 .iadd 1 286 := ⟨by decide +kernel, rfl⟩
theorem dX8_item_286 : zD cX8_item 286 (.aload_n 0) 1 287 := ⟨by decide +kernel, rfl⟩
theorem dX8_item_287 : zD cX8_item 287 (.getfield 55) 3 290 := ⟨by decide +kernel, rfl⟩
theorem dX8_item_290 : zD cX8_item 290 (.iconst 0) 1 291 := ⟨by decide +kernel, rfl⟩
theorem dX8_item_291 : zD cX8_item 291 .iaload 1 292 := ⟨by decide +kernel, rfl⟩
theorem dX8_item_292 : zD cX8_item 292 .iastore 1 293 := ⟨by decide +kernel, rfl⟩
theorem dX8_item_293 : zD cX8_item 293 (.aload_n 0) 1 294 := ⟨by decide +kernel, rfl⟩
theorem dX8_item_294 : zD cX8_item 294 (.getfield 46) 3 297 := ⟨by decide +kernel, rfl⟩
theorem dX8_item_297 : zD cX8_item 297 (.bipush 8) 2 299 := ⟨by decide +kernel, rfl⟩
theorem dX8_item_299 : zD cX8_item 299 (.aload_n 0) 1 300 := ⟨by decide +kernel, rfl⟩
theorem dX8_item_300 : zD cX8_item 300 (.getfield 40) 3 303 := ⟨by decide +kernel, rfl⟩
theorem dX8_item_303 : zD cX8_item 303 (.iconst 1) 1 304 := ⟨by decide +kernel, rfl⟩
theorem dX8_item_304 : zD cX8_item 304 .iaload 1 305 := ⟨by decide +kernel, rfl⟩
theorem dX8_item_305 : zD cX8_item 305 .iadd 1 306 := ⟨by decide +kernel, rfl⟩
theorem dX8_item_306 : zD cX8_item 306 (.aload_n 0) 1 307 := ⟨by decide +kernel, rfl⟩
theorem dX8_item_307 : zD cX8_item 307 (.getfield 55) 3 310 := ⟨by decide +kernel, rfl⟩
theorem dX8_item_310 : zD cX8_item 310 (.iconst 1) 1 311 := ⟨by decide +kernel, rfl⟩
theorem dX8_item_311 : zD cX8_item 311 .iaload 1 312 := ⟨by decide +kernel, rfl⟩
theorem dX8_item_312 : zD cX8_item 312 .iastore 1 313 := ⟨by decide +kernel, rfl⟩
theorem dX8_item_313 : zD cX8_item 313 (.aload_n 0) 1 314 := ⟨by decide +kernel, rfl⟩
theorem dX8_item_314 : zD cX8_item 314 (.getfield 40) 3 317 := ⟨by decide +kernel, rfl⟩
theorem dX8_item_317 : zD cX8_item 317 (.iconst 1) 1 318 := ⟨by decide +kernel, rfl⟩
theorem dX8_item_318 : zD cX8_item 318 .dup2 1 319 := ⟨by decide +kernel, rfl⟩
theorem dX8_item_319 : zD cX8_item 319 .iaload 1 320 := ⟨by decide +kernel, rfl⟩
theorem dX8_item_320 : zD cX8_item 320 (.iconst 1) 1 321 := ⟨by decide +kernel, rfl⟩
theorem dX8_item_321 : zD cX8_item 321 .iadd 1 322 := ⟨by decide +kernel, rfl⟩
theorem dX8_item_322 : zD cX8_item 322 .iastore 1 323 := ⟨by decide +kernel, rfl⟩
theorem dX8_item_323 : zD cX8_item 323 (.iconst 1) 1 324 := ⟨by decide +kernel, rfl⟩
theorem dX8_item_324 : zD cX8_item 324 .ireturn 1 325 := ⟨by decide +kernel, rfl⟩
theorem dX8_item_325 : zD cX8_item 325 (.aload_n 0) 1 326 := ⟨by decide +kernel, rfl⟩
theorem dX8_item_326 : zD cX8_item 326 (.iconst 1) 1 327 := ⟨by decide +kernel, rfl⟩
theorem dX8_item_327 : zD cX8_item 327 (.invokevirtual 106) 3 330 := ⟨by decide +kernel, rfl⟩
theorem dX8_item_330 : zJ cX8_item 330 (.ifCond .eq) 333 344 := ⟨14, by decide +kernel, rfl, by decide⟩
theorem dX8_item_333 : zD cX8_item 333 (.aload_n 0) 1 334 := ⟨by decide +kernel, rfl⟩
theorem dX8_item_334 : zD cX8_item 334 (.getfield 55) 3 337 := ⟨by decide +kernel, rfl⟩
theorem dX8_item_337 : zD cX8_item 337 (.iconst 0) 1 338 := ⟨by decide +kernel, rfl⟩
theorem dX8_item_338 : zD cX8_item 338 .iaload 1 339 := ⟨by decide +kernel, rfl⟩
theorem dX8_item_339 : zD cX8_item 339 (.bipush 30) 2 341 := ⟨by decide +kernel, rfl⟩
theorem dX8_item_341 : zJ cX8_item 341 (.if_icmp .le) 344 346 := ⟨5, by decide +kernel, rfl, by decide⟩
theorem dX8_item_344 : zD cX8_item 344 (.iconst 0) 1 345 := ⟨by decide +kernel, rfl⟩
theorem dX8_item_345 : zD cX8_item 345 .ireturn 1 346 := ⟨by decide +kernel, rfl⟩
theorem dX8_item_346 : zD cX8_item 346 (.aload_n 0) 1 347 := ⟨by decide +kernel, rfl⟩
theorem dX8_item_347 : zD cX8_item 347 (.getfield 25) 3 350 := ⟨by decide +kernel, rfl⟩
theorem dX8_item_350 : zD cX8_item 350 (.iconst 1) 1 351 := ⟨by decide +kernel, rfl⟩
theorem dX8_item_351 : zD cX8_item 351 (.aload_n 0) 1 352 := ⟨by decide +kernel, rfl⟩
theorem dX8_item_352 : zD cX8_item 352 (.getfield 55) 3 355 := ⟨by decide +kernel, rfl⟩
theorem dX8_item_355 : zD cX8_item 355 (.iconst 0) 1 356 := ⟨by decide +kernel, rfl⟩
theorem dX8_item_356 : zD cX8_item 356 .iaload 1 357 := ⟨by decide +kernel, rfl⟩
theorem dX8_item_357 : zD cX8_item 357 .iastore 1 358 := ⟨by decide +kernel, rfl⟩
theorem dX8_item_358 : zD cX8_item 358 (.iconst 1) 1 359 := ⟨by decide +kernel, rfl⟩
theorem dX8_item_359 : zD cX8_item 359 .ireturn 1 360 := ⟨by decide +kernel, rfl⟩
theorem dX8_item_360 : zD cX8_item 360 (.aload_n 0) 1 361 := ⟨by decide +kernel, rfl⟩
theorem dX8_item_361 : zD cX8_item 361 (.iconst 2) 1 362 := ⟨by decide +kernel, rfl⟩
theorem dX8_item_362 : zD cX8_item 362 (.invokevirtual 106) 3 365 := ⟨by decide +kernel, rfl⟩
theorem dX8_item_365 : zJ cX8_item 365 (.ifCond .eq) 368 402 := ⟨37, by decide +kernel, rfl, by decide⟩
theorem dX8_item_368 : zD cX8_item 368 (.aload_n 0) 1 369 := ⟨by decide +kernel, rfl⟩
theorem dX8_item_369 : zD cX8_item 369 (.getfield 55) 3 372 := ⟨by decide +kernel, rfl⟩
theorem dX8_item_372 : zD cX8_item 372 (.iconst 0) 1 373 := ⟨by decide +kernel, rfl⟩
theorem dX8_item_373 : zD cX8_item 373 .iaload 1 374 := ⟨by decide +kernel, rfl⟩
theorem dX8_item_374 : zD cX8_item 374 .i2l 1 375 := ⟨by decide +kernel, rfl⟩
theorem dX8_item_375 : zD cX8_item 375 (.lconst 1) 1 376 := ⟨by decide +kernel, rfl⟩
theorem dX8_item_376 : zD cX8_item 376 (.ldc2_w 110) 3 379 := ⟨by decide +kernel, rfl⟩
theorem dX8_item_379 : zD cX8_item 379 (.invokestatic 83) 3 382 := ⟨by decide +kernel, rfl⟩
theorem dX8_item_382 : zJ cX8_item 382 (.ifCond .eq) 385 402 := ⟨20, by decide +kernel, rfl, by decide⟩
theorem dX8_item_385 : zD cX8_item 385 (.aload_n 0) 1 386 := ⟨by decide +kernel, rfl⟩
theorem dX8_item_386 : zD cX8_item 386 (.getfield 55) 3 389 := ⟨by decide +kernel, rfl⟩
theorem dX8_item_389 : zD cX8_item 389 (.iconst 1) 1 390 := ⟨by decide +kernel, rfl⟩
theorem dX8_item_390 : zD cX8_item 390 .iaload 1 391 := ⟨by decide +kernel, rfl⟩
theorem dX8_item_391 : zD cX8_item 391 .i2l 1 392 := ⟨by decide +kernel, rfl⟩
theorem dX8_item_392 : zD cX8_item 392 (.lconst 1) 1 393 := ⟨by decide +kernel, rfl⟩
theorem dX8_item_393 : zD cX8_item 393 (.ldc2_w 110) 3 396 := ⟨by decide +kernel, rfl⟩
theorem dX8_item_396 : zD cX8_item 396 (.invokestatic 83) 3 399 := ⟨by decide +kernel, rfl⟩
theorem dX8_item_399 : zJ cX8_item 399 (.ifCond .ne) 402 404 := ⟨5, by decide +kernel, rfl, by decide⟩
theorem dX8_item_402 : zD cX8_item 402 (.iconst 0) 1 403 := ⟨by decide +kernel, rfl⟩
theorem dX8_item_403 : zD cX8_item 403 .ireturn 1 404 := ⟨by decide +kernel, rfl⟩
theorem dX8_item_404 : zD cX8_item 404 (.aload_n 0) 1 405 := ⟨by decide +kernel, rfl⟩
theorem dX8_item_405 : zD cX8_item 405 (.getfield 28) 3 408 := ⟨by decide +kernel, rfl⟩
theorem dX8_item_408 : zD cX8_item 408 (.iconst 1) 1 409 := ⟨by decide +kernel, rfl⟩
theorem dX8_item_409 : zD cX8_item 409 (.aload_n 0) 1 410 := ⟨by decide +kernel, rfl⟩
theorem dX8_item_410 : zD cX8_item 410 (.getfield 55) 3 413 := ⟨by decide +kernel, rfl⟩
theorem dX8_item_413 : zD cX8_item 413 (.iconst 0) 1 414 := ⟨by decide +kernel, rfl⟩
theorem dX8_item_414 : zD cX8_item 414 .iaload 1 415 := ⟨by decide +kernel, rfl⟩
theorem dX8_item_415 : zD cX8_item 415 .iastore 1 416 := ⟨by decide +kernel, rfl⟩
theorem dX8_item_416 : zD cX8_item 416 (.aload_n 0) 1 417 := ⟨by decide +kernel, rfl⟩
theorem dX8_item_417 : zD cX8_item 417 (.getfield 31) 3 420 := ⟨by decide +kernel, rfl⟩
theorem dX8_item_420 : zD cX8_item 420 (.iconst 1) 1 421 := ⟨by decide +kernel, rfl⟩
theorem dX8_item_421 : zD cX8_item 421 (.aload_n 0) 1 422 := ⟨by decide +kernel, rfl⟩
theorem dX8_item_422 : zD cX8_item 422 (.getfield 55) 3 425 := ⟨by decide +kernel, rfl⟩
theorem dX8_item_425 : zD cX8_item 425 (.iconst 1) 1 426 := ⟨by decide +kernel, rfl⟩
theorem dX8_item_426 : zD cX8_item 426 .iaload 1 427 := ⟨by decide +kernel, rfl⟩
theorem dX8_item_427 : zD cX8_item 427 .iastore 1 428 := ⟨by decide +kernel, rfl⟩
theorem dX8_item_428 : zD cX8_item 428 (.iconst 1) 1 429 := ⟨by decide +kernel, rfl⟩
theorem dX8_item_429 : zD cX8_item 429 .ireturn 1 430 := ⟨by decide +kernel, rfl⟩
theorem dX8_item_430 : zD cX8_item 430 (.aload_n 0) 1 431 := ⟨by decide +kernel, rfl⟩
theorem dX8_item_431 : zD cX8_item 431 (.iconst 1) 1 432 := ⟨by decide +kernel, rfl⟩
theorem dX8_item_432 : zD cX8_item 432 (.invokevirtual 106) 3 435 := ⟨by decide +kernel, rfl⟩
theorem dX8_item_435 : zJ cX8_item 435 (.ifCond .ne) 438 440 := ⟨5, by decide +kernel, rfl, by decide⟩
theorem dX8_item_438 : zD cX8_item 438 (.iconst 0) 1 439 := ⟨by decide +kernel, rfl⟩
theorem dX8_item_439 : zD cX8_item 439 .ireturn 1 440 := ⟨by decide +kernel, rfl⟩
theorem dX8_item_440 : zD cX8_item 440 (.aload_n 0) 1 441 := ⟨by decide +kernel, rfl⟩
theorem dX8_item_441 : zD cX8_item 441 (.getfield 34) 3 444 := ⟨by decide +kernel, rfl⟩
theorem dX8_item_444 : zD cX8_item 444 (.iconst 1) 1 445 := ⟨by decide +kernel, rfl⟩
theorem dX8_item_445 : zD cX8_item 445 (.aload_n 0) 1 446 := ⟨by decide +kernel, rfl⟩
theorem dX8_item_446 : zD cX8_item 446 (.getfield 55) 3 449 := ⟨by decide +kernel, rfl⟩
theorem dX8_item_449 : zD cX8_item 449 (.iconst 0) 1 450 := ⟨by decide +kernel, rfl⟩
theorem dX8_item_450 : zD cX8_item 450 .iaload 1 451 := ⟨by decide +kernel, rfl⟩
theorem dX8_item_451 : zD cX8_item 451 .iastore 1 452 := ⟨by decide +kernel, rfl⟩
theorem dX8_item_452 : zD cX8_item 452 (.iconst 1) 1 453 := ⟨by decide +kernel, rfl⟩
theorem dX8_item_453 : zD cX8_item 453 .ireturn 1 454 := ⟨by decide +kernel, rfl⟩
theorem dX8_item_454 : zD cX8_item 454 (.aload_n 0) 1 455 := ⟨by decide +kernel, rfl⟩
theorem dX8_item_455 : zD cX8_item 455 (.iconst 1) 1 456 := ⟨by decide +kernel, rfl⟩
theorem dX8_item_456 : zD cX8_item 456 (.invokevirtual 106) 3 459 := ⟨by decide +kernel, rfl⟩
theorem dX8_item_459 : zJ cX8_item 459 (.ifCond .eq) 462 472 := ⟨13, by decide +kernel, rfl, by decide⟩
theorem dX8_item_462 : zD cX8_item 462 (.aload_n 0) 1 463 := ⟨by decide +kernel, rfl⟩
theorem dX8_item_463 : zD cX8_item 463 (.getfield 55) 3 466 := ⟨by decide +kernel, rfl⟩
theorem dX8_item_466 : zD cX8_item 466 (.iconst 0) 1 467 := ⟨by decide +kernel, rfl⟩
theorem dX8_item_467 : zD cX8_item 467 .iaload 1 468 := ⟨by decide +kernel, rfl⟩
theorem dX8_item_468 : zD cX8_item 468 (.iconst 3) 1 469 := ⟨by decide +kernel, rfl⟩
theorem dX8_item_469 : zJ cX8_item 469 (.if_icmp .le) 472 474 := ⟨5, by decide +kernel, rfl, by decide⟩
theorem dX8_item_472 : zD cX8_item 472 (.iconst 0) 1 473 := ⟨by decide +kernel, rfl⟩
theorem dX8_item_473 : zD cX8_item 473 .ireturn 1 474 := ⟨by decide +kernel, rfl⟩
theorem dX8_item_474 : zD cX8_item 474 (.aload_n 0) 1 475 := ⟨by decide +kernel, rfl⟩
theorem dX8_item_475 : zD cX8_item 475 (.getfield 37) 3 478 := ⟨by decide +kernel, rfl⟩
theorem dX8_item_478 : zD cX8_item 478 (.iconst 1) 1 479 := ⟨by decide +kernel, rfl⟩
theorem dX8_item_479 : zD cX8_item 479 (.aload_n 0) 1 480 := ⟨by decide +kernel, rfl⟩
theorem dX8_item_480 : zD cX8_item 480 (.getfield 55) 3 483 := ⟨by decide +kernel, rfl⟩
theorem dX8_item_483 : zD cX8_item 483 (.iconst 0) 1 484 := ⟨by decide +kernel, rfl⟩
theorem dX8_item_484 : zD cX8_item 484 .iaload 1 485 := ⟨by decide +kernel, rfl⟩
theorem dX8_item_485 : zD cX8_item 485 .iastore 1 486 := ⟨by decide +kernel, rfl⟩
theorem dX8_item_486 : zD cX8_item 486 (.iconst 1) 1 487 := ⟨by decide +kernel, rfl⟩
theorem dX8_item_487 : zD cX8_item 487 .ireturn 1 488 := ⟨by decide +kernel, rfl⟩
theorem dX8_item_488 : zD cX8_item 488 (.iconst 0) 1 489 := ⟨by decide +kernel, rfl⟩
theorem dX8_item_489 : zD cX8_item 489 .ireturn 1 490 := ⟨by decide +kernel, rfl⟩
theorem dX8_readAll_0 : zD cX8_readAll 0 (.aload_n 0) 1 1 := ⟨by decide +kernel, rfl⟩
theorem dX8_readAll_1 : zD cX8_readAll 1 (.iconst 1) 1 2 := ⟨by decide +kernel, rfl⟩
theorem dX8_readAll_2 : zD cX8_readAll 2 (.invokevirtual 77) 3 5 := ⟨by decide +kernel, rfl⟩
theorem dX8_readAll_5 : zD cX8_readAll 5 (.aload_n 0) 1 6 := ⟨by decide +kernel, rfl⟩
theorem dX8_readAll_6 : zD cX8_readAll 6 (.iconst 0) 1 7 := ⟨by decide +kernel, rfl⟩
theorem dX8_readAll_7 : zD cX8_readAll 7 (.putfield 93) 3 10 := ⟨by decide +kernel, rfl⟩
theorem dX8_readAll_10 : zD cX8_readAll 10 (.aload_n 0) 1 11 := ⟨by decide +kernel, rfl⟩
theorem dX8_readAll_11 : zD cX8_readAll 11 (.getfield 93) 3 14 := ⟨by decide +kernel, rfl⟩
theorem dX8_readAll_14 : zD cX8_readAll 14 (.aload_n 0) 1 15 := ⟨by decide +kernel, rfl⟩
theorem dX8_readAll_15 : zD cX8_readAll 15 (.getfield 87) 3 18 := ⟨by decide +kernel, rfl⟩
theorem dX8_readAll_18 : zJ cX8_readAll 18 (.if_icmp .ge) 21 38 := ⟨20, by decide +kernel, rfl, by decide⟩
theorem dX8_readAll_21 : zD cX8_readAll 21 (.aload_n 0) 1 22 := ⟨by decide +kernel, rfl⟩
theorem dX8_readAll_22 : zD cX8_readAll 22 (.getfield 93) 3 25 := ⟨by decide +kernel, rfl⟩
theorem dX8_readAll_25 : zD cX8_readAll 25 (.istore_n 1) 1 26 := ⟨by decide +kernel, rfl⟩
theorem dX8_readAll_26 : zD cX8_readAll 26 (.aload_n 0) 1 27 := ⟨by decide +kernel, rfl⟩
theorem dX8_readAll_27 : zD cX8_readAll 27 (.invokevirtual 112) 3 30 := ⟨by decide +kernel, rfl⟩
theorem dX8_readAll_30 : zJ cX8_readAll 30 (.ifCond .ne) 33 35 := ⟨5, by decide +kernel, rfl, by decide⟩
theorem dX8_readAll_33 : zD cX8_readAll 33 (.iload_n 1) 1 34 := ⟨by decide +kernel, rfl⟩
theorem dX8_readAll_34 : zD cX8_readAll 34 .ireturn 1 35 := ⟨by decide +kernel, rfl⟩
theorem dX8_readAll_35 : zJ cX8_readAll 35 .goto 38 10 := ⟨-25, by decide +kernel, rfl, by decide⟩
theorem dX8_readAll_38 : zD cX8_readAll 38 (.bipush (-4)) 2 40 := ⟨by decide +kernel, rfl⟩
theorem dX8_readAll_40 : zD cX8_readAll 40 .ireturn 1 41 := ⟨by decide +kernel, rfl⟩
theorem dX8_fault_0 : zD cX8_fault 0 (.aload_n 0) 1 1 := ⟨by decide +kernel, rfl⟩
theorem dX8_fault_1 : zD cX8_fault 1 (.invokevirtual 116) 3 4 := ⟨by decide +kernel, rfl⟩
theorem dX8_fault_4 : zD cX8_fault 4 .ireturn 1 5 := ⟨by decide +kernel, rfl⟩
theorem dX8_copyCries_0 : zD cX8_copyCries 0 (.aload_n 0) 1 1 := ⟨by decide +kernel, rfl⟩
theorem dX8_copyCries_1 : zD cX8_copyCries 1 (.getfield 40) 3 4 := ⟨by decide +kernel, rfl⟩
theorem dX8_copyCries_4 : zD cX8_copyCries 4 (.iload_n 2) 1 5 := ⟨by decide +kernel, rfl⟩
theorem dX8_copyCries_5 : zD cX8_copyCries 5 (.aload_n 0) 1 6 := ⟨by decide +kernel, rfl⟩
theorem dX8_copyCries_6 : zD cX8_copyCries 6 (.getfield 40) 3 9 := ⟨by decide +kernel, rfl⟩
theorem dX8_copyCries_9 : zD cX8_copyCries 9 (.iload_n 1) 1 10 := ⟨by decide +kernel, rfl⟩
theorem dX8_copyCries_10 : zD cX8_copyCries 10 .iaload 1 11 := ⟨by decide +kernel, rfl⟩
theorem dX8_copyCries_11 : zD cX8_copyCries 11 .iastore 1 12 := ⟨by decide +kernel, rfl⟩
theorem dX8_copyCries_12 : zD cX8_copyCries 12 (.iconst 0) 1 13 := ⟨by decide +kernel, rfl⟩
theorem dX8_copyCries_13 : zD cX8_copyCries 13 (.istore_n 3) 1 14 := ⟨by decide +kernel, rfl⟩
theorem dX8_copyCries_14 : zD cX8_copyCries 14 (.iload_n 3) 1 15 := ⟨by decide +kernel, rfl⟩
theorem dX8_copyCries_15 : zD cX8_copyCries 15 (.bipush 8) 2 17 := ⟨by decide +kernel, rfl⟩
theorem dX8_copyCries_17 : zJ cX8_copyCries 17 (.if_icmp .ge) 20 70 := ⟨53, by decide +kernel, rfl, by decide⟩
theorem dX8_copyCries_20 : zD cX8_copyCries 20 (.aload_n 0) 1 21 := ⟨by decide +kernel, rfl⟩
theorem dX8_copyCries_21 : zD cX8_copyCries 21 (.getfield 43) 3 24 := ⟨by decide +kernel, rfl⟩
theorem dX8_copyCries_24 : zD cX8_copyCries 24 (.bipush 8) 2 26 := ⟨by decide +kernel, rfl⟩
theorem dX8_copyCries_26 : zD cX8_copyCries 26 (.iload_n 2) 1 27 := ⟨by decide +kernel, rfl⟩
theorem dX8_copyCries_27 : zD cX8_copyCries 27 .imul 1 28 := ⟨by decide +kernel, rfl⟩
theorem dX8_copyCries_28 : zD cX8_copyCries 28 (.iload_n 3) 1 29 := ⟨by decide +kernel, rfl⟩
theorem dX8_copyCries_29 : zD cX8_copyCries 29 .iadd 1 30 := ⟨by decide +kernel, rfl⟩
theorem dX8_copyCries_30 : zD cX8_copyCries 30 (.aload_n 0) 1 31 := ⟨by decide +kernel, rfl⟩
theorem dX8_copyCries_31 : zD cX8_copyCries 31 (.getfield 43) 3 34 := ⟨by decide +kernel, rfl⟩
theorem dX8_copyCries_34 : zD cX8_copyCries 34 (.bipush 8) 2 36 := ⟨by decide +kernel, rfl⟩
theorem dX8_copyCries_36 : zD cX8_copyCries 36 (.iload_n 1) 1 37 := ⟨by decide +kernel, rfl⟩
theorem dX8_copyCries_37 : zD cX8_copyCries 37 .imul 1 38 := ⟨by decide +kernel, rfl⟩
theorem dX8_copyCries_38 : zD cX8_copyCries 38 (.iload_n 3) 1 39 := ⟨by decide +kernel, rfl⟩
theorem dX8_copyCries_39 : zD cX8_copyCries 39 .iadd 1 40 := ⟨by decide +kernel, rfl⟩
theorem dX8_copyCries_40 : zD cX8_copyCries 40 .iaload 1 41 := ⟨by decide +kernel, rfl⟩
theorem dX8_copyCries_41 : zD cX8_copyCries 41 .iastore 1 42 := ⟨by decide +kernel, rfl⟩
theorem dX8_copyCries_42 : zD cX8_copyCries 42 (.aload_n 0) 1 43 := ⟨by decide +kernel, rfl⟩
theorem dX8_copyCries_43 : zD cX8_copyCries 43 (.getfield 46) 3 46 := ⟨by decide +kernel, rfl⟩
theorem dX8_copyCries_46 : zD cX8_copyCries 46 (.bipush 8) 2 48 := ⟨by decide +kernel, rfl⟩
theorem dX8_copyCries_48 : zD cX8_copyCries 48 (.iload_n 2) 1 49 := ⟨by decide +kernel, rfl⟩
theorem dX8_copyCries_49 : zD cX8_copyCries 49 .imul 1 50 := ⟨by decide +kernel, rfl⟩
theorem dX8_copyCries_50 : zD cX8_copyCries 50 (.iload_n 3) 1 51 := ⟨by decide +kernel, rfl⟩
theorem dX8_copyCries_51 : zD cX8_copyCries 51 .iadd 1 52 := ⟨by decide +kernel, rfl⟩
theorem dX8_copyCries_52 : zD cX8_copyCries 52 (.aload_n 0) 1 53 := ⟨by decide +kernel, rfl⟩
theorem dX8_copyCries_53 : zD cX8_copyCries 53 (.getfield 46) 3 56 := ⟨by decide +kernel, rfl⟩
theorem dX8_copyCries_56 : zD cX8_copyCries 56 (.bipush 8) 2 58 := ⟨by decide +kernel, rfl⟩
theorem dX8_copyCries_58 : zD cX8_copyCries 58 (.iload_n 1) 1 59 := ⟨by decide +kernel, rfl⟩
theorem dX8_copyCries_59 : zD cX8_copyCries 59 .imul 1 60 := ⟨by decide +kernel, rfl⟩
theorem dX8_copyCries_60 : zD cX8_copyCries 60 (.iload_n 3) 1 61 := ⟨by decide +kernel, rfl⟩
theorem dX8_copyCries_61 : zD cX8_copyCries 61 .iadd 1 62 := ⟨by decide +kernel, rfl⟩
theorem dX8_copyCries_62 : zD cX8_copyCries 62 .iaload 1 63 := ⟨by decide +kernel, rfl⟩
theorem dX8_copyCries_63 : zD cX8_copyCries 63 .iastore 1 64 := ⟨by decide +kernel, rfl⟩
theorem dX8_copyCries_64 : zD cX8_copyCries 64 (.iinc 3 1) 3 67 := ⟨by decide +kernel, rfl⟩
theorem dX8_copyCries_67 : zJ cX8_copyCries 67 .goto 70 14 := ⟨-53, by decide +kernel, rfl, by decide⟩
theorem dX8_copyCries_70 : zD cX8_copyCries 70 .return_ 1 71 := ⟨by decide +kernel, rfl⟩
theorem dX8_lay_0 : zD cX8_lay 0 (.aload_n 0) 1 1 := ⟨by decide +kernel, rfl⟩
theorem dX8_lay_1 : zD cX8_lay 1 (.invokevirtual 116) 3 4 := ⟨by decide +kernel, rfl⟩
theorem dX8_lay_4 : zD cX8_lay 4 (.bipush (-4)) 2 6 := ⟨by decide +kernel, rfl⟩
theorem dX8_lay_6 : zJ cX8_lay 6 (.if_icmp .ne) 9 18 := ⟨12, by decide +kernel, rfl, by decide⟩
theorem dX8_lay_9 : zD cX8_lay 9 (.aload_n 0) 1 10 := ⟨by decide +kernel, rfl⟩
theorem dX8_lay_10 : zD cX8_lay 10 (.getfield 13) 3 13 := ⟨by decide +kernel, rfl⟩
theorem dX8_lay_13 : zD cX8_lay 13 (.iconst 1) 1 14 := ⟨by decide +kernel, rfl⟩
theorem dX8_lay_14 : zD cX8_lay 14 .iaload 1 15 := ⟨by decide +kernel, rfl⟩
theorem dX8_lay_15 : zJ cX8_lay 15 (.ifCond .ne) 18 21 := ⟨6, by decide +kernel, rfl, by decide⟩
theorem dX8_lay_18 : zD cX8_lay 18 (.bipush (-2)) 2 20 := ⟨by decide +kernel, rfl⟩
theorem dX8_lay_20 : zD cX8_lay 20 .ireturn 1 21 := ⟨by decide +kernel, rfl⟩
theorem dX8_lay_21 : zD cX8_lay 21 (.aload_n 0) 1 22 := ⟨by decide +kernel, rfl⟩
theorem dX8_lay_22 : zD cX8_lay 22 (.getfield 13) 3 25 := ⟨by decide +kernel, rfl⟩
theorem dX8_lay_25 : zD cX8_lay 25 (.iconst 0) 1 26 := ⟨by decide +kernel, rfl⟩
theorem dX8_lay_26 : zD cX8_lay 26 (.aload_n 0) 1 27 := ⟨by decide +kernel, rfl⟩
theorem dX8_lay_27 : zD cX8_lay 27 (.getfield 13) 3 30 := ⟨by decide +kernel, rfl⟩
theorem dX8_lay_30 : zD cX8_lay 30 (.iconst 1) 1 31 := ⟨by decide +kernel, rfl⟩
theorem dX8_lay_31 : zD cX8_lay 31 .iaload 1 32 := ⟨by decide +kernel, rfl⟩
theorem dX8_lay_32 : zD cX8_lay 32 .iastore 1 33 := ⟨by decide +kernel, rfl⟩
theorem dX8_lay_33 : zD cX8_lay 33 (.aload_n 0) 1 34 := ⟨by decide +kernel, rfl⟩
theorem dX8_lay_34 : zD cX8_lay 34 (.getfield 25) 3 37 := ⟨by decide +kernel, rfl⟩
theorem dX8_lay_37 : zD cX8_lay 37 (.iconst 0) 1 38 := ⟨by decide +kernel, rfl⟩
theorem dX8_lay_38 : zD cX8_lay 38 (.aload_n 0) 1 39 := ⟨by decide +kernel, rfl⟩
theorem dX8_lay_39 : zD cX8_lay 39 (.getfield 25) 3 42 := ⟨by decide +kernel, rfl⟩
theorem dX8_lay_42 : zD cX8_lay 42 (.iconst 1) 1 43 := ⟨by decide +kernel, rfl⟩
theorem dX8_lay_43 : zD cX8_lay 43 .iaload 1 44 := ⟨by decide +kernel, rfl⟩
theorem dX8_lay_44 : zD cX8_lay 44 .iastore 1 45 := ⟨by decide +kernel, rfl⟩
theorem dX8_lay_45 : zD cX8_lay 45 (.aload_n 0) 1 46 := ⟨by decide +kernel, rfl⟩
theorem dX8_lay_46 : zD cX8_lay 46 (.getfield 28) 3 49 := ⟨by decide +kernel, rfl⟩
theorem dX8_lay_49 : zD cX8_lay 49 (.iconst 0) 1 50 := ⟨by decide +kernel, rfl⟩
theorem dX8_lay_50 : zD cX8_lay 50 (.aload_n 0) 1 51 := ⟨by decide +kernel, rfl⟩
theorem dX8_lay_51 : zD cX8_lay 51 (.getfield 28) 3 54 := ⟨by decide +kernel, rfl⟩
theorem dX8_lay_54 : zD cX8_lay 54 (.iconst 1) 1 55 := ⟨by decide +kernel, rfl⟩
theorem dX8_lay_55 : zD cX8_lay 55 .iaload 1 56 := ⟨by decide +kernel, rfl⟩
theorem dX8_lay_56 : zD cX8_lay 56 .iastore 1 57 := ⟨by decide +kernel, rfl⟩
theorem dX8_lay_57 : zD cX8_lay 57 (.aload_n 0) 1 58 := ⟨by decide +kernel, rfl⟩
theorem dX8_lay_58 : zD cX8_lay 58 (.getfield 31) 3 61 := ⟨by decide +kernel, rfl⟩
theorem dX8_lay_61 : zD cX8_lay 61 (.iconst 0) 1 62 := ⟨by decide +kernel, rfl⟩
theorem dX8_lay_62 : zD cX8_lay 62 (.aload_n 0) 1 63 := ⟨by decide +kernel, rfl⟩
theorem dX8_lay_63 : zD cX8_lay 63 (.getfield 31) 3 66 := ⟨by decide +kernel, rfl⟩
theorem dX8_lay_66 : zD cX8_lay 66 (.iconst 1) 1 67 := ⟨by decide +kernel, rfl⟩
theorem dX8_lay_67 : zD cX8_lay 67 .iaload 1 68 := ⟨by decide +kernel, rfl⟩
theorem dX8_lay_68 : zD cX8_lay 68 .iastore 1 69 := ⟨by decide +kernel, rfl⟩
theorem dX8_lay_69 : zD cX8_lay 69 (.aload_n 0) 1 70 := ⟨by decide +kernel, rfl⟩
theorem dX8_lay_70 : zD cX8_lay 70 (.getfield 34) 3 73 := ⟨by decide +kernel, rfl⟩
theorem dX8_lay_73 : zD cX8_lay 73 (.iconst 0) 1 74 := ⟨by decide +kernel, rfl⟩
theorem dX8_lay_74 : zD cX8_lay 74 (.aload_n 0) 1 75 := ⟨by decide +kernel, rfl⟩
theorem dX8_lay_75 : zD cX8_lay 75 (.getfield 34) 3 78 := ⟨by decide +kernel, rfl⟩
theorem dX8_lay_78 : zD cX8_lay 78 (.iconst 1) 1 79 := ⟨by decide +kernel, rfl⟩
theorem dX8_lay_79 : zD cX8_lay 79 .iaload 1 80 := ⟨by decide +kernel, rfl⟩
theorem dX8_lay_80 : zD cX8_lay 80 .iastore 1 81 := ⟨by decide +kernel, rfl⟩
theorem dX8_lay_81 : zD cX8_lay 81 (.aload_n 0) 1 82 := ⟨by decide +kernel, rfl⟩
theorem dX8_lay_82 : zD cX8_lay 82 (.getfield 37) 3 85 := ⟨by decide +kernel, rfl⟩
theorem dX8_lay_85 : zD cX8_lay 85 (.iconst 0) 1 86 := ⟨by decide +kernel, rfl⟩
theorem dX8_lay_86 : zD cX8_lay 86 (.aload_n 0) 1 87 := ⟨by decide +kernel, rfl⟩
theorem dX8_lay_87 : zD cX8_lay 87 (.getfield 37) 3 90 := ⟨by decide +kernel, rfl⟩
theorem dX8_lay_90 : zD cX8_lay 90 (.iconst 1) 1 91 := ⟨by decide +kernel, rfl⟩
theorem dX8_lay_91 : zD cX8_lay 91 .iaload 1 92 := ⟨by decide +kernel, rfl⟩
theorem dX8_lay_92 : zD cX8_lay 92 .iastore 1 93 := ⟨by decide +kernel, rfl⟩
theorem dX8_lay_93 : zD cX8_lay 93 (.iconst 0) 1 94 := ⟨by decide +kernel, rfl⟩
theorem dX8_lay_94 : zD cX8_lay 94 (.istore_n 1) 1 95 := ⟨by decide +kernel, rfl⟩
theorem dX8_lay_95 : zD cX8_lay 95 (.iload_n 1) 1 96 := ⟨by decide +kernel, rfl⟩
theorem dX8_lay_96 : zD cX8_lay 96 (.bipush 10) 2 98 := ⟨by decide +kernel, rfl⟩
theorem dX8_lay_98 : zJ cX8_lay 98 (.if_icmp .ge) 101 152 := ⟨54, by decide +kernel, rfl, by decide⟩
theorem dX8_lay_101 : zD cX8_lay 101 (.aload_n 0) 1 102 := ⟨by decide +kernel, rfl⟩
theorem dX8_lay_102 : zD cX8_lay 102 (.getfield 16) 3 105 := ⟨by decide +kernel, rfl⟩
theorem dX8_lay_105 : zD cX8_lay 105 (.iload_n 1) 1 106 := ⟨by decide +kernel, rfl⟩
theorem dX8_lay_106 : zD cX8_lay 106 (.aload_n 0) 1 107 := ⟨by decide +kernel, rfl⟩
theorem dX8_lay_107 : zD cX8_lay 107 (.getfield 16) 3 110 := ⟨by decide +kernel, rfl⟩
theorem dX8_lay_110 : zD cX8_lay 110 (.bipush 10) 2 112 := ⟨by decide +kernel, rfl⟩
theorem dX8_lay_112 : zD cX8_lay 112 (.iload_n 1) 1 113 := ⟨by decide +kernel, rfl⟩
theorem dX8_lay_113 : zD cX8_lay 113 .iadd 1 114 := ⟨by decide +kernel, rfl⟩
theorem dX8_lay_114 : zD cX8_lay 114 .iaload 1 115 := ⟨by decide +kernel, rfl⟩
theorem dX8_lay_115 : zD cX8_lay 115 .iastore 1 116 := ⟨by decide +kernel, rfl⟩
theorem dX8_lay_116 : zD cX8_lay 116 (.aload_n 0) 1 117 := ⟨by decide +kernel, rfl⟩
theorem dX8_lay_117 : zD cX8_lay 117 (.getfield 19) 3 120 := ⟨by decide +kernel, rfl⟩
theorem dX8_lay_120 : zD cX8_lay 120 (.iload_n 1) 1 121 := ⟨by decide +kernel, rfl⟩
theorem dX8_lay_121 : zD cX8_lay 121 (.aload_n 0) 1 122 := ⟨by decide +kernel, rfl⟩
theorem dX8_lay_122 : zD cX8_lay 122 (.getfield 19) 3 125 := ⟨by decide +kernel, rfl⟩
theorem dX8_lay_125 : zD cX8_lay 125 (.bipush 10) 2 127 := ⟨by decide +kernel, rfl⟩
theorem dX8_lay_127 : zD cX8_lay 127 (.iload_n 1) 1 128 := ⟨by decide +kernel, rfl⟩
theorem dX8_lay_128 : zD cX8_lay 128 .iadd 1 129 := ⟨by decide +kernel, rfl⟩
theorem dX8_lay_129 : zD cX8_lay 129 .iaload 1 130 := ⟨by decide +kernel, rfl⟩
theorem dX8_lay_130 : zD cX8_lay 130 .iastore 1 131 := ⟨by decide +kernel, rfl⟩
theorem dX8_lay_131 : zD cX8_lay 131 (.aload_n 0) 1 132 := ⟨by decide +kernel, rfl⟩
theorem dX8_lay_132 : zD cX8_lay 132 (.getfield 22) 3 135 := ⟨by decide +kernel, rfl⟩
theorem dX8_lay_135 : zD cX8_lay 135 (.iload_n 1) 1 136 := ⟨by decide +kernel, rfl⟩
theorem dX8_lay_136 : zD cX8_lay 136 (.aload_n 0) 1 137 := ⟨by decide +kernel, rfl⟩
theorem dX8_lay_137 : zD cX8_lay 137 (.getfield 22) 3 140 := ⟨by decide +kernel, rfl⟩
theorem dX8_lay_140 : zD cX8_lay 140 (.bipush 10) 2 142 := ⟨by decide +kernel, rfl⟩
theorem dX8_lay_142 : zD cX8_lay 142 (.iload_n 1) 1 143 := ⟨by decide +kernel, rfl⟩
theorem dX8_lay_143 : zD cX8_lay 143 .iadd 1 144 := ⟨by decide +kernel, rfl⟩
theorem dX8_lay_144 : zD cX8_lay 144 .iaload 1 145 := ⟨by decide +kernel, rfl⟩
theorem dX8_lay_145 : zD cX8_lay 145 .iastore 1 146 := ⟨by decide +kernel, rfl⟩
theorem dX8_lay_146 : zD cX8_lay 146 (.iinc 1 1) 3 149 := ⟨by decide +kernel, rfl⟩
theorem dX8_lay_149 : zJ cX8_lay 149 .goto 152 95 := ⟨-54, by decide +kernel, rfl, by decide⟩
theorem dX8_lay_152 : zD cX8_lay 152 (.aload_n 0) 1 153 := ⟨by decide +kernel, rfl⟩
theorem dX8_lay_153 : zD cX8_lay 153 (.iconst 1) 1 154 := ⟨by decide +kernel, rfl⟩
theorem dX8_lay_154 : zD cX8_lay 154 (.iconst 0) 1 155 := ⟨by decide +kernel, rfl⟩
theorem dX8_lay_155 : zD cX8_lay 155 (.invokevirtual 120) 3 158 := ⟨by decide +kernel, rfl⟩
theorem dX8_lay_158 : zD cX8_lay 158 (.aload_n 0) 1 159 := ⟨by decide +kernel, rfl⟩
theorem dX8_lay_159 : zD cX8_lay 159 (.iconst 0) 1 160 := ⟨by decide +kernel, rfl⟩
theorem dX8_lay_160 : zD cX8_lay 160 (.putfield 124) 3 163 := ⟨by decide +kernel, rfl⟩
theorem dX8_lay_163 : zD cX8_lay 163 (.aload_n 0) 1 164 := ⟨by decide +kernel, rfl⟩
theorem dX8_lay_164 : zD cX8_lay 164 (.iconst 0) 1 165 := ⟨by decide +kernel, rfl⟩
theorem dX8_lay_165 : zD cX8_lay 165 (.putfield 127) 3 168 := ⟨by decide +kernel, rfl⟩
theorem dX8_lay_168 : zD cX8_lay 168 (.aload_n 0) 1 169 := ⟨by decide +kernel, rfl⟩
theorem dX8_lay_169 : zD cX8_lay 169 (.getfield 49) 3 172 := ⟨by decide +kernel, rfl⟩
theorem dX8_lay_172 : zD cX8_lay 172 (.iconst 0) 1 173 := ⟨by decide +kernel, rfl⟩
theorem dX8_lay_173 : zD cX8_lay 173 (.iconst 0) 1 174 := ⟨by decide +kernel, rfl⟩
theorem dX8_lay_174 : zD cX8_lay 174 .iastore 1 175 := ⟨by decide +kernel, rfl⟩
theorem dX8_lay_175 : zD cX8_lay 175 (.aload_n 0) 1 176 := ⟨by decide +kernel, rfl⟩
theorem dX8_lay_176 : zD cX8_lay 176 (.getfield 49) 3 179 := ⟨by decide +kernel, rfl⟩
theorem dX8_lay_179 : zD cX8_lay 179 (.iconst 1) 1 180 := ⟨by decide +kernel, rfl⟩
theorem dX8_lay_180 : zD cX8_lay 180 (.iconst 0) 1 181 := ⟨by decide +kernel, rfl⟩
theorem dX8_lay_181 : zD cX8_lay 181 .iastore 1 182 := ⟨by decide +kernel, rfl⟩
theorem dX8_lay_182 : zD cX8_lay 182 (.aload_n 0) 1 183 := ⟨by decide +kernel, rfl⟩
theorem dX8_lay_183 : zD cX8_lay 183 (.getfield 13) 3 186 := ⟨by decide +kernel, rfl⟩
theorem dX8_lay_186 : zD cX8_lay 186 (.iconst 0) 1 187 := ⟨by decide +kernel, rfl⟩
theorem dX8_lay_187 : zD cX8_lay 187 .iaload 1 188 := ⟨by decide +kernel, rfl⟩
theorem dX8_lay_188 : zD cX8_lay 188 .ireturn 1 189 := ⟨by decide +kernel, rfl⟩
theorem dX8_isPerson_0 : zD cX8_isPerson 0 (.iload_n 1) 1 1 := ⟨by decide +kernel, rfl⟩
theorem dX8_isPerson_1 : zD cX8_isPerson 1 .i2l 1 2 := ⟨by decide +kernel, rfl⟩
theorem dX8_isPerson_2 : zD cX8_isPerson 2 (.lconst 0) 1 3 := ⟨by decide +kernel, rfl⟩
theorem dX8_isPerson_3 : zD cX8_isPerson 3 (.aload_n 0) 1 4 := ⟨by decide +kernel, rfl⟩
theorem dX8_isPerson_4 : zD cX8_isPerson 4 (.getfield 13) 3 7 := ⟨by decide +kernel, rfl⟩
theorem dX8_isPerson_7 : zD cX8_isPerson 7 (.iconst 0) 1 8 := ⟨by decide +kernel, rfl⟩
theorem dX8_isPerson_8 : zD cX8_isPerson 8 .iaload 1 9 := ⟨by decide +kernel, rfl⟩
theorem dX8_isPerson_9 : zD cX8_isPerson 9 (.iconst 1) 1 10 := ⟨by decide +kernel, rfl⟩
theorem dX8_isPerson_10 : zD cX8_isPerson 10 .isub 1 11 := ⟨by decide +kernel, rfl⟩
theorem dX8_isPerson_11 : zD cX8_isPerson 11 .i2l 1 12 := ⟨by decide +kernel, rfl⟩
theorem dX8_isPerson_12 : zD cX8_isPerson 12 (.invokestatic 83) 3 15 := ⟨by decide +kernel, rfl⟩
theorem dX8_isPerson_15 : zD cX8_isPerson 15 .ireturn 1 16 := ⟨by decide +kernel, rfl⟩
theorem dX8_asItIs_0 : zD cX8_asItIs 0 (.aload_n 0) 1 1 := ⟨by decide +kernel, rfl⟩
theorem dX8_asItIs_1 : zD cX8_asItIs 1 (.sipush 255) 3 4 := ⟨by decide +kernel, rfl⟩
theorem dX8_asItIs_4 : zD cX8_asItIs 4 (.putfield 130) 3 7 := ⟨by decide +kernel, rfl⟩
theorem dX8_asItIs_7 : zD cX8_asItIs 7 (.aload_n 0) 1 8 := ⟨by decide +kernel, rfl⟩
theorem dX8_asItIs_8 : zD cX8_asItIs 8 (.bipush (-4)) 2 10 := ⟨by decide +kernel, rfl⟩
theorem dX8_asItIs_10 : zD cX8_asItIs 10 (.putfield 133) 3 13 := ⟨by decide +kernel, rfl⟩
theorem dX8_asItIs_13 : zD cX8_asItIs 13 (.aload_n 0) 1 14 := ⟨by decide +kernel, rfl⟩
theorem dX8_asItIs_14 : zD cX8_asItIs 14 (.bipush (-4)) 2 16 := ⟨by decide +kernel, rfl⟩
theorem dX8_asItIs_16 : zD cX8_asItIs 16 (.putfield 136) 3 19 := ⟨by decide +kernel, rfl⟩
theorem dX8_asItIs_19 : zD cX8_asItIs 19 (.aload_n 0) 1 20 := ⟨by decide +kernel, rfl⟩
theorem dX8_asItIs_20 : zD cX8_asItIs 20 (.aload_n 0) 1 21 := ⟨by decide +kernel, rfl⟩
theorem dX8_asItIs_21 : zD cX8_asItIs 21 (.getfield 37) 3 24 := ⟨by decide +kernel, rfl⟩
theorem dX8_asItIs_24 : zD cX8_asItIs 24 (.iconst 0) 1 25 := ⟨by decide +kernel, rfl⟩
theorem dX8_asItIs_25 : zD cX8_asItIs 25 .iaload 1 26 := ⟨by decide +kernel, rfl⟩
theorem dX8_asItIs_26 : zD cX8_asItIs 26 (.putfield 139) 3 29 := ⟨by decide +kernel, rfl⟩
theorem dX8_asItIs_29 : zD cX8_asItIs 29 (.aload_n 0) 1 30 := ⟨by decide +kernel, rfl⟩
theorem dX8_asItIs_30 : zD cX8_asItIs 30 (.bipush (-4)) 2 32 := ⟨by decide +kernel, rfl⟩
theorem dX8_asItIs_32 : zD cX8_asItIs 32 (.putfield 142) 3 35 := ⟨by decide +kernel, rfl⟩
theorem dX8_asItIs_35 : zD cX8_asItIs 35 .return_ 1 36 := ⟨by decide +kernel, rfl⟩
theorem dX8_isInLine_0 : zD cX8_isInLine 0 (.iconst 0) 1 1 := ⟨by decide +kernel, rfl⟩
theorem dX8_isInLine_1 : zD cX8_isInLine 1 (.istore_n 2) 1 2 := ⟨by decide +kernel, rfl⟩
theorem dX8_isInLine_2 : zD cX8_isInLine 2 (.iconst 0) 1 3 := ⟨by decide +kernel, rfl⟩
theorem dX8_isInLine_3 : zD cX8_isInLine 3 (.istore_n 3) 1 4 := ⟨by decide +kernel, rfl⟩
theorem dX8_isInLine_4 : zD cX8_isInLine 4 (.iload_n 3) 1 5 := ⟨by decide +kernel, rfl⟩
theorem dX8_isInLine_5 : zD cX8_isInLine 5 (.aload_n 0) 1 6 := ⟨by decide +kernel, rfl⟩
theorem dX8_isInLine_6 : zD cX8_isInLine 6 (.getfield 145) 3 9 := ⟨by decide +kernel, rfl⟩
theorem dX8_isInLine_9 : zJ cX8_isInLine 9 (.if_icmp .ge) 12 38 := ⟨29, by decide +kernel, rfl, by decide⟩
theorem dX8_isInLine_12 : zD cX8_isInLine 12 (.iload_n 2) 1 13 := ⟨by decide +kernel, rfl⟩
theorem dX8_isInLine_13 : zJ cX8_isInLine 13 (.ifCond .ne) 16 26 := ⟨13, by decide +kernel, rfl, by decide⟩
theorem dX8_isInLine_16 : zD cX8_isInLine 16 (.aload_n 0) 1 17 := ⟨by decide +kernel, rfl⟩
theorem dX8_isInLine_17 : zD cX8_isInLine 17 (.getfield 58) 3 20 := ⟨by decide +kernel, rfl⟩
theorem dX8_isInLine_20 : zD cX8_isInLine 20 (.iload_n 3) 1 21 := ⟨by decide +kernel, rfl⟩
theorem dX8_isInLine_21 : zD cX8_isInLine 21 .iaload 1 22 := ⟨by decide +kernel, rfl⟩
theorem dX8_isInLine_22 : zD cX8_isInLine 22 (.iload_n 1) 1 23 := ⟨by decide +kernel, rfl⟩
theorem dX8_isInLine_23 : zJ cX8_isInLine 23 (.if_icmp .ne) 26 30 := ⟨7, by decide +kernel, rfl, by decide⟩
theorem dX8_isInLine_26 : zD cX8_isInLine 26 (.iconst 1) 1 27 := ⟨by decide +kernel, rfl⟩
theorem dX8_isInLine_27 : zJ cX8_isInLine 27 .goto 30 31 := ⟨4, by decide +kernel, rfl, by decide⟩
theorem dX8_isInLine_30 : zD cX8_isInLine 30 (.iconst 0) 1 31 := ⟨by decide +kernel, rfl⟩
theorem dX8_isInLine_31 : zD cX8_isInLine 31 (.istore_n 2) 1 32 := ⟨by decide +kernel, rfl⟩
theorem dX8_isInLine_32 : zD cX8_isInLine 32 (.iinc 3 1) 3 35 := ⟨by decide +kernel, rfl⟩
theorem dX8_isInLine_35 : zJ cX8_isInLine 35 .goto 38 4 := ⟨-31, by decide +kernel, rfl, by decide⟩
theorem dX8_isInLine_38 : zD cX8_isInLine 38 (.iload_n 2) 1 39 := ⟨by decide +kernel, rfl⟩
theorem dX8_isInLine_39 : zD cX8_isInLine 39 .ireturn 1 40 := ⟨by decide +kernel, rfl⟩
theorem dX8_takeOut_0 : zD cX8_takeOut 0 (.aload_n 0) 1 1 := ⟨by decide +kernel, rfl⟩
theorem dX8_takeOut_1 : zD cX8_takeOut 1 .dup 1 2 := ⟨by decide +kernel, rfl⟩
theorem dX8_takeOut_2 : zD cX8_takeOut 2 (.getfield 145) 3 5 := ⟨by decide +kernel, rfl⟩
theorem dX8_takeOut_5 : zD cX8_takeOut 5 (.iconst 1) 1 6 := ⟨by decide +kernel, rfl⟩
theorem dX8_takeOut_6 : zD cX8_takeOut 6 .isub 1 7 := ⟨by decide +kernel, rfl⟩
theorem dX8_takeOut_7 : zD cX8_takeOut 7 (.putfield 145) 3 10 := ⟨by decide +kernel, rfl⟩
theorem dX8_takeOut_10 : zD cX8_takeOut 10 (.iload_n 1) 1 11 := ⟨by decide +kernel, rfl⟩
theorem dX8_takeOut_11 : zD cX8_takeOut 11 (.istore_n 2) 1 12 := ⟨by decide +kernel, rfl⟩
theorem dX8_takeOut_12 : zD cX8_takeOut 12 (.iload_n 2) 1 13 := ⟨by decide +kernel, rfl⟩
theorem dX8_takeOut_13 : zD cX8_takeOut 13 (.aload_n 0) 1 14 := ⟨by decide +kernel, rfl⟩
theorem dX8_takeOut_14 : zD cX8_takeOut 14 (.getfield 145) 3 17 := ⟨by decide +kernel, rfl⟩
theorem dX8_takeOut_17 : zJ cX8_takeOut 17 (.if_icmp .ge) 20 40 := ⟨23, by decide +kernel, rfl, by decide⟩
theorem dX8_takeOut_20 : zD cX8_takeOut 20 (.aload_n 0) 1 21 := ⟨by decide +kernel, rfl⟩
theorem dX8_takeOut_21 : zD cX8_takeOut 21 (.getfield 58) 3 24 := ⟨by decide +kernel, rfl⟩
theorem dX8_takeOut_24 : zD cX8_takeOut 24 (.iload_n 2) 1 25 := ⟨by decide +kernel, rfl⟩
theorem dX8_takeOut_25 : zD cX8_takeOut 25 (.aload_n 0) 1 26 := ⟨by decide +kernel, rfl⟩
theorem dX8_takeOut_26 : zD cX8_takeOut 26 (.getfield 58) 3 29 := ⟨by decide +kernel, rfl⟩
theorem dX8_takeOut_29 : zD cX8_takeOut 29 (.iload_n 2) 1 30 := ⟨by decide +kernel, rfl⟩
theorem dX8_takeOut_30 : zD cX8_takeOut 30 (.iconst 1) 1 31 := ⟨by decide +kernel, rfl⟩
theorem dX8_takeOut_31 : zD cX8_takeOut 31 .iadd 1 32 := ⟨by decide +kernel, rfl⟩
theorem dX8_takeOut_32 : zD cX8_takeOut 32 .iaload 1 33 := ⟨by decide +kernel, rfl⟩
theorem dX8_takeOut_33 : zD cX8_takeOut 33 .iastore 1 34 := ⟨by decide +kernel, rfl⟩
theorem dX8_takeOut_34 : zD cX8_takeOut 34 (.iinc 2 1) 3 37 := ⟨by decide +kernel, rfl⟩
theorem dX8_takeOut_37 : zJ cX8_takeOut 37 .goto 40 12 := ⟨-25, by decide +kernel, rfl, by decide⟩
theorem dX8_takeOut_40 : zD cX8_takeOut 40 .return_ 1 41 := ⟨by decide +kernel, rfl⟩
theorem dX8_putIn_0 : zD cX8_putIn 0 (.aload_n 0) 1 1 := ⟨by decide +kernel, rfl⟩
theorem dX8_putIn_1 : zD cX8_putIn 1 (.getfield 145) 3 4 := ⟨by decide +kernel, rfl⟩
theorem dX8_putIn_4 : zD cX8_putIn 4 (.istore_n 3) 1 5 := ⟨by decide +kernel, rfl⟩
theorem dX8_putIn_5 : zD cX8_putIn 5 (.iload_n 3) 1 6 := ⟨by decide +kernel, rfl⟩
theorem dX8_putIn_6 : zD cX8_putIn 6 (.iload_n 2) 1 7 := ⟨by decide +kernel, rfl⟩
theorem dX8_putIn_7 : zJ cX8_putIn 7 (.if_icmp .le) 10 30 := ⟨23, by decide +kernel, rfl, by decide⟩
theorem dX8_putIn_10 : zD cX8_putIn 10 (.aload_n 0) 1 11 := ⟨by decide +kernel, rfl⟩
theorem dX8_putIn_11 : zD cX8_putIn 11 (.getfield 58) 3 14 := ⟨by decide +kernel, rfl⟩
theorem dX8_putIn_14 : zD cX8_putIn 14 (.iload_n 3) 1 15 := ⟨by decide +kernel, rfl⟩
theorem dX8_putIn_15 : zD cX8_putIn 15 (.aload_n 0) 1 16 := ⟨by decide +kernel, rfl⟩
theorem dX8_putIn_16 : zD cX8_putIn 16 (.getfield 58) 3 19 := ⟨by decide +kernel, rfl⟩
theorem dX8_putIn_19 : zD cX8_putIn 19 (.iload_n 3) 1 20 := ⟨by decide +kernel, rfl⟩
theorem dX8_putIn_20 : zD cX8_putIn 20 (.iconst 1) 1 21 := ⟨by decide +kernel, rfl⟩
theorem dX8_putIn_21 : zD cX8_putIn 21 .isub 1 22 := ⟨by decide +kernel, rfl⟩
theorem dX8_putIn_22 : zD cX8_putIn 22 .iaload 1 23 := ⟨by decide +kernel, rfl⟩
theorem dX8_putIn_23 : zD cX8_putIn 23 .iastore 1 24 := ⟨by decide +kernel, rfl⟩
theorem dX8_putIn_24 : zD cX8_putIn 24 (.iinc 3 (-1)) 3 27 := ⟨by decide +kernel, rfl⟩
theorem dX8_putIn_27 : zJ cX8_putIn 27 .goto 30 5 := ⟨-22, by decide +kernel, rfl, by decide⟩
theorem dX8_putIn_30 : zD cX8_putIn 30 (.aload_n 0) 1 31 := ⟨by decide +kernel, rfl⟩
theorem dX8_putIn_31 : zD cX8_putIn 31 (.getfield 58) 3 34 := ⟨by decide +kernel, rfl⟩
theorem dX8_putIn_34 : zD cX8_putIn 34 (.iload_n 2) 1 35 := ⟨by decide +kernel, rfl⟩
theorem dX8_putIn_35 : zD cX8_putIn 35 (.iload_n 1) 1 36 := ⟨by decide +kernel, rfl⟩
theorem dX8_putIn_36 : zD cX8_putIn 36 .iastore 1 37 := ⟨by decide +kernel, rfl⟩
theorem dX8_putIn_37 : zD cX8_putIn 37 (.aload_n 0) 1 38 := ⟨by decide +kernel, rfl⟩
theorem dX8_putIn_38 : zD cX8_putIn 38 .dup 1 39 := ⟨by decide +kernel, rfl⟩
theorem dX8_putIn_39 : zD cX8_putIn 39 (.getfield 145) 3 42 := ⟨by decide +kernel, rfl⟩
theorem dX8_putIn_42 : zD cX8_putIn 42 (.iconst 1) 1 43 := ⟨by decide +kernel, rfl⟩
theorem dX8_putIn_43 : zD cX8_putIn 43 .iadd 1 44 := ⟨by decide +kernel, rfl⟩
theorem dX8_putIn_44 : zD cX8_putIn 44 (.putfield 145) 3 47 := ⟨by decide +kernel, rfl⟩
theorem dX8_putIn_47 : zD cX8_putIn 47 .return_ 1 48 := ⟨by decide +kernel, rfl⟩
theorem dX8_doesCry_0 : zD cX8_doesCry 0 (.aload_n 0) 1 1 := ⟨by decide +kernel, rfl⟩
theorem dX8_doesCry_1 : zD cX8_doesCry 1 (.getfield 142) 3 4 := ⟨by decide +kernel, rfl⟩
theorem dX8_doesCry_4 : zJ cX8_doesCry 4 (.ifCond .lt) 7 111 := ⟨107, by decide +kernel, rfl, by decide⟩
theorem dX8_doesCry_7 : zD cX8_doesCry 7 (.iconst 0) 1 8 := ⟨by decide +kernel, rfl⟩
theorem dX8_doesCry_8 : zD cX8_doesCry 8 (.istore_n 2) 1 9 := ⟨by decide +kernel, rfl⟩
theorem dX8_doesCry_9 : zD cX8_doesCry 9 (.iconst 0) 1 10 := ⟨by decide +kernel, rfl⟩
theorem dX8_doesCry_10 : zD cX8_doesCry 10 (.istore_n 3) 1 11 := ⟨by decide +kernel, rfl⟩
theorem dX8_doesCry_11 : zD cX8_doesCry 11 (.iconst 0) 1 12 := ⟨by decide +kernel, rfl⟩
theorem dX8_doesCry_12 : zD cX8_doesCry 12 (.istore 4) 2 14 := ⟨by decide +kernel, rfl⟩
theorem dX8_doesCry_14 : zD cX8_doesCry 14 (.iload 4) 2 16 := ⟨by decide +kernel, rfl⟩
theorem dX8_doesCry_16 : zD cX8_doesCry 16 (.aload_n 0) 1 17 := ⟨by decide +kernel, rfl⟩
theorem dX8_doesCry_17 : zD cX8_doesCry 17 (.getfield 13) 3 20 := ⟨by decide +kernel, rfl⟩
theorem dX8_doesCry_20 : zD cX8_doesCry 20 (.iconst 0) 1 21 := ⟨by decide +kernel, rfl⟩
theorem dX8_doesCry_21 : zD cX8_doesCry 21 .iaload 1 22 := ⟨by decide +kernel, rfl⟩
theorem dX8_doesCry_22 : zJ cX8_doesCry 22 (.if_icmp .ge) 25 109 := ⟨87, by decide +kernel, rfl, by decide⟩
theorem dX8_doesCry_25 : zD cX8_doesCry 25 (.aload_n 0) 1 26 := ⟨by decide +kernel, rfl⟩
theorem dX8_doesCry_26 : zD cX8_doesCry 26 (.getfield 19) 3 29 := ⟨by decide +kernel, rfl⟩
theorem dX8_doesCry_29 : zD cX8_doesCry 29 (.iload 4) 2 31 := ⟨by decide +kernel, rfl⟩
theorem dX8_doesCry_31 : zD cX8_doesCry 31 .iaload 1 32 := ⟨by decide +kernel, rfl⟩
theorem dX8_doesCry_32 : zD cX8_doesCry 32 (.iconst 1) 1 33 := ⟨by decide +kernel, rfl⟩
theorem dX8_doesCry_33 : zJ cX8_doesCry 33 (.if_icmp .ne) 36 103 := ⟨70, by decide +kernel, rfl, by decide⟩
theorem dX8_doesCry_36 : zD cX8_doesCry 36 (.ldc2_w 148) 3 39 := ⟨by decide +kernel, rfl⟩
theorem dX8_doesCry_39 : zD cX8_doesCry 39 (.aload_n 0) 1 40 := ⟨by decide +kernel, rfl⟩
theorem dX8_doesCry_40 : zD cX8_doesCry 40 (.getfield 142) 3 43 := ⟨by decide +kernel, rfl⟩
theorem dX8_doesCry_43 : zD cX8_doesCry 43 .i2l 1 44 := ⟨by decide +kernel, rfl⟩
theorem dX8_doesCry_44 : zD cX8_doesCry 44 .lmul 1 45 := ⟨by decide +kernel, rfl⟩
theorem dX8_doesCry_45 : zD cX8_doesCry 45 (.ldc2_w 150) 3 48 := ⟨by decide +kernel, rfl⟩
theorem dX8_doesCry_48 : zD cX8_doesCry 48 (.iload_n 2) 1 49 := ⟨by decide +kernel, rfl⟩
theorem dX8_doesCry_49 : zD cX8_doesCry 49 .i2l 1 50 := ⟨by decide +kernel, rfl⟩
theorem dX8_doesCry_50 : zD cX8_doesCry 50 .lmul 1 51 := ⟨by decide +kernel, rfl⟩
theorem dX8_doesCry_51 : zD cX8_doesCry 51 .ladd 1 52 := ⟨by decide +kernel, rfl⟩
theorem dX8_doesCry_52 : zD cX8_doesCry 52 (.ldc2_w 152) 3 55 := ⟨by decide +kernel, rfl⟩
theorem dX8_doesCry_55 : zD cX8_doesCry 55 (.iload_n 1) 1 56 := ⟨by decide +kernel, rfl⟩
theorem dX8_doesCry_56 : zD cX8_doesCry 56 .i2l 1 57 := ⟨by decide +kernel, rfl⟩
theorem dX8_doesCry_57 : zD cX8_doesCry 57 .lmul 1 58 := ⟨by decide +kernel, rfl⟩
theorem dX8_doesCry_58 : zD cX8_doesCry 58 .ladd 1 59 := ⟨by decide +kernel, rfl⟩
theorem dX8_doesCry_59 : zD cX8_doesCry 59 (.lconst 1) 1 60 := ⟨by decide +kernel, rfl⟩
theorem dX8_doesCry_60 : zD cX8_doesCry 60 .ladd 1 61 := ⟨by decide +kernel, rfl⟩
theorem dX8_doesCry_61 : zD cX8_doesCry 61 (.lstore 5) 2 63 := ⟨by decide +kernel, rfl⟩
theorem dX8_doesCry_63 : zD cX8_doesCry 63 (.iload_n 3) 1 64 := ⟨by decide +kernel, rfl⟩
theorem dX8_doesCry_64 : zJ cX8_doesCry 64 (.ifCond .ne) 67 94 := ⟨30, by decide +kernel, rfl, by decide⟩
theorem dX8_doesCry_67 : zD cX8_doesCry 67 (.lload 5) 2 69 := ⟨by decide +kernel, rfl⟩
theorem dX8_doesCry_69 : zD cX8_doesCry 69 (.lload 5) 2 71 := ⟨by decide +kernel, rfl⟩
theorem dX8_doesCry_71 : zD cX8_doesCry 71 .lmul 1 72 := ⟨by decide +kernel, rfl⟩
theorem dX8_doesCry_72 : zD cX8_doesCry 72 (.ldc2_w 154) 3 75 := ⟨by decide +kernel, rfl⟩
theorem dX8_doesCry_75 : zD cX8_doesCry 75 .lrem 1 76 := ⟨by decide +kernel, rfl⟩
theorem dX8_doesCry_76 : zD cX8_doesCry 76 (.ldc2_w 156) 3 79 := ⟨by decide +kernel, rfl⟩
theorem dX8_doesCry_79 : zD cX8_doesCry 79 .lrem 1 80 := ⟨by decide +kernel, rfl⟩
theorem dX8_doesCry_80 : zD cX8_doesCry 80 (.lconst 0) 1 81 := ⟨by decide +kernel, rfl⟩
theorem dX8_doesCry_81 : zD cX8_doesCry 81 .lcmp 1 82 := ⟨by decide +kernel, rfl⟩
theorem dX8_doesCry_82 : zJ cX8_doesCry 82 (.ifCond .ne) 85 98 := ⟨16, by decide +kernel, rfl, by decide⟩
theorem dX8_doesCry_85 : zD cX8_doesCry 85 (.aload_n 0) 1 86 := ⟨by decide +kernel, rfl⟩
theorem dX8_doesCry_86 : zD cX8_doesCry 86 (.iload 4) 2 88 := ⟨by decide +kernel, rfl⟩
theorem dX8_doesCry_88 : zD cX8_doesCry 88 (.invokevirtual 158) 3 91 := ⟨by decide +kernel, rfl⟩
theorem dX8_doesCry_91 : zJ cX8_doesCry 91 (.ifCond .eq) 94 98 := ⟨7, by decide +kernel, rfl, by decide⟩
theorem dX8_doesCry_94 : zD cX8_doesCry 94 (.iconst 1) 1 95 := ⟨by decide +kernel, rfl⟩
theorem dX8_doesCry_95 : zJ cX8_doesCry 95 .goto 98 99 := ⟨4, by decide +kernel, rfl, by decide⟩
theorem dX8_doesCry_98 : zD cX8_doesCry 98 (.iconst 0) 1 99 := ⟨by decide +kernel, rfl⟩
theorem dX8_doesCry_99 : zD cX8_doesCry 99 (.istore_n 3) 1 100 := ⟨by decide +kernel, rfl⟩
theorem dX8_doesCry_100 : zD cX8_doesCry 100 (.iinc 2 1) 3 103 := ⟨by decide +kernel, rfl⟩
theorem dX8_doesCry_103 : zD cX8_doesCry 103 (.iinc 4 1) 3 106 := ⟨by decide +kernel, rfl⟩
theorem dX8_doesCry_106 : zJ cX8_doesCry 106 .goto 109 14 := ⟨-92, by decide +kernel, rfl, by decide⟩
theorem dX8_doesCry_109 : zD cX8_doesCry 109 (.iload_n 3) 1 110 := ⟨by decide +kernel, rfl⟩
theorem dX8_doesCry_110 : zD cX8_doesCry 110 .ireturn 1 111 := ⟨by decide +kernel, rfl⟩
theorem dX8_doesCry_111 : zD cX8_doesCry 111 (.aload_n 0) 1 112 := ⟨by decide +kernel, rfl⟩
theorem dX8_doesCry_112 : zD cX8_doesCry 112 (.getfield 133) 3 115 := ⟨by decide +kernel, rfl⟩
theorem dX8_doesCry_115 : zJ cX8_doesCry 115 (.ifCond .lt) 118 137 := ⟨22, by decide +kernel, rfl, by decide⟩
theorem dX8_doesCry_118 : zD cX8_doesCry 118 (.aload_n 0) 1 119 := ⟨by decide +kernel, rfl⟩
theorem dX8_doesCry_119 : zD cX8_doesCry 119 (.getfield 161) 3 122 := ⟨by decide +kernel, rfl⟩
theorem dX8_doesCry_122 : zD cX8_doesCry 122 (.iload_n 1) 1 123 := ⟨by decide +kernel, rfl⟩
theorem dX8_doesCry_123 : zJ cX8_doesCry 123 (.if_icmp .ne) 126 137 := ⟨14, by decide +kernel, rfl, by decide⟩
theorem dX8_doesCry_126 : zD cX8_doesCry 126 (.aload_n 0) 1 127 := ⟨by decide +kernel, rfl⟩
theorem dX8_doesCry_127 : zD cX8_doesCry 127 (.aload_n 0) 1 128 := ⟨by decide +kernel, rfl⟩
theorem dX8_doesCry_128 : zD cX8_doesCry 128 (.getfield 133) 3 131 := ⟨by decide +kernel, rfl⟩
theorem dX8_doesCry_131 : zD cX8_doesCry 131 (.invokevirtual 158) 3 134 := ⟨by decide +kernel, rfl⟩
theorem dX8_doesCry_134 : zJ cX8_doesCry 134 (.ifCond .ne) 137 163 := ⟨29, by decide +kernel, rfl, by decide⟩
theorem dX8_doesCry_137 : zD cX8_doesCry 137 (.aload_n 0) 1 138 := ⟨by decide +kernel, rfl⟩
theorem dX8_doesCry_138 : zD cX8_doesCry 138 (.getfield 136) 3 141 := ⟨by decide +kernel, rfl⟩
theorem dX8_doesCry_141 : zJ cX8_doesCry 141 (.ifCond .lt) 144 167 := ⟨26, by decide +kernel, rfl, by decide⟩
theorem dX8_doesCry_144 : zD cX8_doesCry 144 (.aload_n 0) 1 145 := ⟨by decide +kernel, rfl⟩
theorem dX8_doesCry_145 : zD cX8_doesCry 145 (.getfield 164) 3 148 := ⟨by decide +kernel, rfl⟩
theorem dX8_doesCry_148 : zD cX8_doesCry 148 (.iload_n 1) 1 149 := ⟨by decide +kernel, rfl⟩
theorem dX8_doesCry_149 : zJ cX8_doesCry 149 (.if_icmp .ne) 152 167 := ⟨18, by decide +kernel, rfl, by decide⟩
theorem dX8_doesCry_152 : zD cX8_doesCry 152 (.aload_n 0) 1 153 := ⟨by decide +kernel, rfl⟩
theorem dX8_doesCry_153 : zD cX8_doesCry 153 (.aload_n 0) 1 154 := ⟨by decide +kernel, rfl⟩
theorem dX8_doesCry_154 : zD cX8_doesCry 154 (.getfield 136) 3 157 := ⟨by decide +kernel, rfl⟩
theorem dX8_doesCry_157 : zD cX8_doesCry 157 (.invokevirtual 158) 3 160 := ⟨by decide +kernel, rfl⟩
theorem dX8_doesCry_160 : zJ cX8_doesCry 160 (.ifCond .eq) 163 167 := ⟨7, by decide +kernel, rfl, by decide⟩
theorem dX8_doesCry_163 : zD cX8_doesCry 163 (.iconst 1) 1 164 := ⟨by decide +kernel, rfl⟩
theorem dX8_doesCry_164 : zJ cX8_doesCry 164 .goto 167 168 := ⟨4, by decide +kernel, rfl, by decide⟩
theorem dX8_doesCry_167 : zD cX8_doesCry 167 (.iconst 0) 1 168 := ⟨by decide +kernel, rfl⟩
theorem dX8_doesCry_168 : zD cX8_doesCry 168 (.istore_n 2) 1 169 := ⟨by decide +kernel, rfl⟩
theorem dX8_doesCry_169 : zD cX8_doesCry 169 (.iconst 0) 1 170 := ⟨by decide +kernel, rfl⟩
theorem dX8_doesCry_170 : zD cX8_doesCry 170 (.istore_n 3) 1 171 := ⟨by decide +kernel, rfl⟩
theorem dX8_doesCry_171 : zD cX8_doesCry 171 (.iload_n 3) 1 172 := ⟨by decide +kernel, rfl⟩
theorem dX8_doesCry_172 : zD cX8_doesCry 172 (.aload_n 0) 1 173 := ⟨by decide +kernel, rfl⟩
theorem dX8_doesCry_173 : zD cX8_doesCry 173 (.getfield 40) 3 176 := ⟨by decide +kernel, rfl⟩
theorem dX8_doesCry_176 : zD cX8_doesCry 176 (.iconst 0) 1 177 := ⟨by decide +kernel, rfl⟩
theorem dX8_doesCry_177 : zD cX8_doesCry 177 .iaload 1 178 := ⟨by decide +kernel, rfl⟩
theorem dX8_doesCry_178 : zJ cX8_doesCry 178 (.if_icmp .ge) 181 231 := ⟨53, by decide +kernel, rfl, by decide⟩
theorem dX8_doesCry_181 : zD cX8_doesCry 181 (.iload_n 2) 1 182 := ⟨by decide +kernel, rfl⟩
theorem dX8_doesCry_182 : zJ cX8_doesCry 182 (.ifCond .ne) 185 219 := ⟨37, by decide +kernel, rfl, by decide⟩
theorem dX8_doesCry_185 : zD cX8_doesCry 185 (.aload_n 0) 1 186 := ⟨by decide +kernel, rfl⟩
theorem dX8_doesCry_186 : zD cX8_doesCry 186 (.getfield 130) 3 189 := ⟨by decide +kernel, rfl⟩
theorem dX8_doesCry_189 : zD cX8_doesCry 189 (.iload_n 3) 1 190 := ⟨by decide +kernel, rfl⟩
theorem dX8_doesCry_190 : zD cX8_doesCry 190 (.invokestatic 167) 3 193 := ⟨by decide +kernel, rfl⟩
theorem dX8_doesCry_193 : zJ cX8_doesCry 193 (.ifCond .eq) 196 223 := ⟨30, by decide +kernel, rfl, by decide⟩
theorem dX8_doesCry_196 : zD cX8_doesCry 196 (.aload_n 0) 1 197 := ⟨by decide +kernel, rfl⟩
theorem dX8_doesCry_197 : zD cX8_doesCry 197 (.getfield 46) 3 200 := ⟨by decide +kernel, rfl⟩
theorem dX8_doesCry_200 : zD cX8_doesCry 200 (.iload_n 3) 1 201 := ⟨by decide +kernel, rfl⟩
theorem dX8_doesCry_201 : zD cX8_doesCry 201 .iaload 1 202 := ⟨by decide +kernel, rfl⟩
theorem dX8_doesCry_202 : zD cX8_doesCry 202 (.iload_n 1) 1 203 := ⟨by decide +kernel, rfl⟩
theorem dX8_doesCry_203 : zJ cX8_doesCry 203 (.if_icmp .ne) 206 223 := ⟨20, by decide +kernel, rfl, by decide⟩
theorem dX8_doesCry_206 : zD cX8_doesCry 206 (.aload_n 0) 1 207 := ⟨by decide +kernel, rfl⟩
theorem dX8_doesCry_207 : zD cX8_doesCry 207 (.aload_n 0) 1 208 := ⟨by decide +kernel, rfl⟩
theorem dX8_doesCry_208 : zD cX8_doesCry 208 (.getfield 43) 3 211 := ⟨by decide +kernel, rfl⟩
theorem dX8_doesCry_211 : zD cX8_doesCry 211 (.iload_n 3) 1 212 := ⟨by decide +kernel, rfl⟩
theorem dX8_doesCry_212 : zD cX8_doesCry 212 .iaload 1 213 := ⟨by decide +kernel, rfl⟩
theorem dX8_doesCry_213 : zD cX8_doesCry 213 (.invokevirtual 158) 3 216 := ⟨by decide +kernel, rfl⟩
theorem dX8_doesCry_216 : zJ cX8_doesCry 216 (.ifCond .eq) 219 223 := ⟨7, by decide +kernel, rfl, by decide⟩
theorem dX8_doesCry_219 : zD cX8_doesCry 219 (.iconst 1) 1 220 := ⟨by decide +kernel, rfl⟩
theorem dX8_doesCry_220 : zJ cX8_doesCry 220 .goto 223 224 := ⟨4, by decide +kernel, rfl, by decide⟩
theorem dX8_doesCry_223 : zD cX8_doesCry 223 (.iconst 0) 1 224 := ⟨by decide +kernel, rfl⟩
theorem dX8_doesCry_224 : zD cX8_doesCry 224 (.istore_n 2) 1 225 := ⟨by decide +kernel, rfl⟩
theorem dX8_doesCry_225 : zD cX8_doesCry 225 (.iinc 3 1) 3 228 := ⟨by decide +kernel, rfl⟩
theorem dX8_doesCry_228 : zJ cX8_doesCry 228 .goto 231 171 := ⟨-57, by decide +kernel, rfl, by decide⟩
theorem dX8_doesCry_231 : zD cX8_doesCry 231 (.iload_n 2) 1 232 := ⟨by decide +kernel, rfl⟩
theorem dX8_doesCry_232 : zD cX8_doesCry 232 .ireturn 1 233 := ⟨by decide +kernel, rfl⟩
theorem dX8_turnLine_0 : zD cX8_turnLine 0 (.aload_n 0) 1 1 := ⟨by decide +kernel, rfl⟩
theorem dX8_turnLine_1 : zD cX8_turnLine 1 (.getfield 139) 3 4 := ⟨by decide +kernel, rfl⟩
theorem dX8_turnLine_4 : zD cX8_turnLine 4 (.iconst 2) 1 5 := ⟨by decide +kernel, rfl⟩
theorem dX8_turnLine_5 : zJ cX8_turnLine 5 (.if_icmp .ne) 8 12 := ⟨7, by decide +kernel, rfl, by decide⟩
theorem dX8_turnLine_8 : zD cX8_turnLine 8 (.iconst 3) 1 9 := ⟨by decide +kernel, rfl⟩
theorem dX8_turnLine_9 : zJ cX8_turnLine 9 .goto 12 13 := ⟨4, by decide +kernel, rfl, by decide⟩
theorem dX8_turnLine_12 : zD cX8_turnLine 12 (.iconst 0) 1 13 := ⟨by decide +kernel, rfl⟩
theorem dX8_turnLine_13 : zD cX8_turnLine 13 (.istore_n 1) 1 14 := ⟨by decide +kernel, rfl⟩
theorem dX8_turnLine_14 : zD cX8_turnLine 14 (.aload_n 0) 1 15 := ⟨by decide +kernel, rfl⟩
theorem dX8_turnLine_15 : zD cX8_turnLine 15 (.getfield 145) 3 18 := ⟨by decide +kernel, rfl⟩
theorem dX8_turnLine_18 : zD cX8_turnLine 18 (.iconst 1) 1 19 := ⟨by decide +kernel, rfl⟩
theorem dX8_turnLine_19 : zD cX8_turnLine 19 .isub 1 20 := ⟨by decide +kernel, rfl⟩
theorem dX8_turnLine_20 : zD cX8_turnLine 20 (.istore_n 2) 1 21 := ⟨by decide +kernel, rfl⟩
theorem dX8_turnLine_21 : zD cX8_turnLine 21 (.iload_n 1) 1 22 := ⟨by decide +kernel, rfl⟩
theorem dX8_turnLine_22 : zD cX8_turnLine 22 (.iload_n 2) 1 23 := ⟨by decide +kernel, rfl⟩
theorem dX8_turnLine_23 : zJ cX8_turnLine 23 (.if_icmp .ge) 26 61 := ⟨38, by decide +kernel, rfl, by decide⟩
theorem dX8_turnLine_26 : zD cX8_turnLine 26 (.aload_n 0) 1 27 := ⟨by decide +kernel, rfl⟩
theorem dX8_turnLine_27 : zD cX8_turnLine 27 (.getfield 58) 3 30 := ⟨by decide +kernel, rfl⟩
theorem dX8_turnLine_30 : zD cX8_turnLine 30 (.iload_n 1) 1 31 := ⟨by decide +kernel, rfl⟩
theorem dX8_turnLine_31 : zD cX8_turnLine 31 .iaload 1 32 := ⟨by decide +kernel, rfl⟩
theorem dX8_turnLine_32 : zD cX8_turnLine 32 (.istore_n 3) 1 33 := ⟨by decide +kernel, rfl⟩
theorem dX8_turnLine_33 : zD cX8_turnLine 33 (.aload_n 0) 1 34 := ⟨by decide +kernel, rfl⟩
theorem dX8_turnLine_34 : zD cX8_turnLine 34 (.getfield 58) 3 37 := ⟨by decide +kernel, rfl⟩
theorem dX8_turnLine_37 : zD cX8_turnLine 37 (.iload_n 1) 1 38 := ⟨by decide +kernel, rfl⟩
theorem dX8_turnLine_38 : zD cX8_turnLine 38 (.aload_n 0) 1 39 := ⟨by decide +kernel, rfl⟩
theorem dX8_turnLine_39 : zD cX8_turnLine 39 (.getfield 58) 3 42 := ⟨by decide +kernel, rfl⟩
theorem dX8_turnLine_42 : zD cX8_turnLine 42 (.iload_n 2) 1 43 := ⟨by decide +kernel, rfl⟩
theorem dX8_turnLine_43 : zD cX8_turnLine 43 .iaload 1 44 := ⟨by decide +kernel, rfl⟩
theorem dX8_turnLine_44 : zD cX8_turnLine 44 .iastore 1 45 := ⟨by decide +kernel, rfl⟩
theorem dX8_turnLine_45 : zD cX8_turnLine 45 (.aload_n 0) 1 46 := ⟨by decide +kernel, rfl⟩
theorem dX8_turnLine_46 : zD cX8_turnLine 46 (.getfield 58) 3 49 := ⟨by decide +kernel, rfl⟩
theorem dX8_turnLine_49 : zD cX8_turnLine 49 (.iload_n 2) 1 50 := ⟨by decide +kernel, rfl⟩
theorem dX8_turnLine_50 : zD cX8_turnLine 50 (.iload_n 3) 1 51 := ⟨by decide +kernel, rfl⟩
theorem dX8_turnLine_51 : zD cX8_turnLine 51 .iastore 1 52 := ⟨by decide +kernel, rfl⟩
theorem dX8_turnLine_52 : zD cX8_turnLine 52 (.iinc 1 1) 3 55 := ⟨by decide +kernel, rfl⟩
theorem dX8_turnLine_55 : zD cX8_turnLine 55 (.iinc 2 (-1)) 3 58 := ⟨by decide +kernel, rfl⟩
theorem dX8_turnLine_58 : zJ cX8_turnLine 58 .goto 61 21 := ⟨-37, by decide +kernel, rfl, by decide⟩
theorem dX8_turnLine_61 : zD cX8_turnLine 61 .return_ 1 62 := ⟨by decide +kernel, rfl⟩
theorem dX8_end_0 : zD cX8_end 0 (.aload_n 0) 1 1 := ⟨by decide +kernel, rfl⟩
theorem dX8_end_1 : zD cX8_end 1 (.getfield 61) 3 4 := ⟨by decide +kernel, rfl⟩
theorem dX8_end_4 : zD cX8_end 4 (.iload_n 1) 1 5 := ⟨by decide +kernel, rfl⟩
theorem dX8_end_5 : zD cX8_end 5 (.iload_n 2) 1 6 := ⟨by decide +kernel, rfl⟩
theorem dX8_end_6 : zD cX8_end 6 .iastore 1 7 := ⟨by decide +kernel, rfl⟩
theorem dX8_end_7 : zD cX8_end 7 (.aload_n 0) 1 8 := ⟨by decide +kernel, rfl⟩
theorem dX8_end_8 : zD cX8_end 8 (.getfield 64) 3 11 := ⟨by decide +kernel, rfl⟩
theorem dX8_end_11 : zD cX8_end 11 (.iload_n 1) 1 12 := ⟨by decide +kernel, rfl⟩
theorem dX8_end_12 : zD cX8_end 12 (.iload_n 3) 1 13 := ⟨by decide +kernel, rfl⟩
theorem dX8_end_13 : zD cX8_end 13 .iastore 1 14 := ⟨by decide +kernel, rfl⟩
theorem dX8_end_14 : zD cX8_end 14 .return_ 1 15 := ⟨by decide +kernel, rfl⟩
theorem dX8_go_0 : zD cX8_go 0 (.aload_n 0) 1 1 := ⟨by decide +kernel, rfl⟩
theorem dX8_go_1 : zD cX8_go 1 (.iconst 0) 1 2 := ⟨by decide +kernel, rfl⟩
theorem dX8_go_2 : zD cX8_go 2 (.putfield 145) 3 5 := ⟨by decide +kernel, rfl⟩
theorem dX8_go_5 : zD cX8_go 5 (.aload_n 0) 1 6 := ⟨by decide +kernel, rfl⟩
theorem dX8_go_6 : zD cX8_go 6 (.iconst 0) 1 7 := ⟨by decide +kernel, rfl⟩
theorem dX8_go_7 : zD cX8_go 7 (.putfield 171) 3 10 := ⟨by decide +kernel, rfl⟩
theorem dX8_go_10 : zD cX8_go 10 (.sipush (-1000)) 3 13 := ⟨by decide +kernel, rfl⟩
theorem dX8_go_13 : zD cX8_go 13 (.istore_n 2) 1 14 := ⟨by decide +kernel, rfl⟩
theorem dX8_go_14 : zD cX8_go 14 (.aload_n 0) 1 15 := ⟨by decide +kernel, rfl⟩
theorem dX8_go_15 : zD cX8_go 15 (.getfield 34) 3 18 := ⟨by decide +kernel, rfl⟩
theorem dX8_go_18 : zD cX8_go 18 (.iconst 0) 1 19 := ⟨by decide +kernel, rfl⟩
theorem dX8_go_19 : zD cX8_go 19 .iaload 1 20 := ⟨by decide +kernel, rfl⟩
theorem dX8_go_20 : zD cX8_go 20 (.istore_n 3) 1 21 := ⟨by decide +kernel, rfl⟩
theorem dX8_go_21 : zD cX8_go 21 (.iconst 0) 1 22 := ⟨by decide +kernel, rfl⟩
theorem dX8_go_22 : zD cX8_go 22 (.istore 4) 2 24 := ⟨by decide +kernel, rfl⟩
theorem dX8_go_24 : zD cX8_go 24 (.iload 4) 2 26 := ⟨by decide +kernel, rfl⟩
theorem dX8_go_26 : zD cX8_go 26 (.aload_n 0) 1 27 := ⟨by decide +kernel, rfl⟩
theorem dX8_go_27 : zD cX8_go 27 (.getfield 13) 3 30 := ⟨by decide +kernel, rfl⟩
theorem dX8_go_30 : zD cX8_go 30 (.iconst 0) 1 31 := ⟨by decide +kernel, rfl⟩
theorem dX8_go_31 : zD cX8_go 31 .iaload 1 32 := ⟨by decide +kernel, rfl⟩
theorem dX8_go_32 : zJ cX8_go 32 (.if_icmp .ge) 35 51 := ⟨19, by decide +kernel, rfl, by decide⟩
theorem dX8_go_35 : zD cX8_go 35 (.aload_n 0) 1 36 := ⟨by decide +kernel, rfl⟩
theorem dX8_go_36 : zD cX8_go 36 (.iload 4) 2 38 := ⟨by decide +kernel, rfl⟩
theorem dX8_go_38 : zD cX8_go 38 (.iconst 3) 1 39 := ⟨by decide +kernel, rfl⟩
theorem dX8_go_39 : zD cX8_go 39 (.sipush 200) 3 42 := ⟨by decide +kernel, rfl⟩
theorem dX8_go_42 : zD cX8_go 42 (.invokevirtual 174) 3 45 := ⟨by decide +kernel, rfl⟩
theorem dX8_go_45 : zD cX8_go 45 (.iinc 4 1) 3 48 := ⟨by decide +kernel, rfl⟩
theorem dX8_go_48 : zJ cX8_go 48 .goto 51 24 := ⟨-24, by decide +kernel, rfl, by decide⟩
theorem dX8_go_51 : zD cX8_go 51 (.iconst 0) 1 52 := ⟨by decide +kernel, rfl⟩
theorem dX8_go_52 : zD cX8_go 52 (.istore 4) 2 54 := ⟨by decide +kernel, rfl⟩
theorem dX8_go_54 : zD cX8_go 54 (.iload 4) 2 56 := ⟨by decide +kernel, rfl⟩
theorem dX8_go_56 : zD cX8_go 56 (.iload_n 1) 1 57 := ⟨by decide +kernel, rfl⟩
theorem dX8_go_57 : zJ cX8_go 57 (.if_icmp .gt) 60 337 := ⟨280, by decide +kernel, rfl, by decide⟩
theorem dX8_go_60 : zD cX8_go 60 (.aload_n 0) 1 61 := ⟨by decide +kernel, rfl⟩
theorem dX8_go_61 : zD cX8_go 61 (.getfield 145) 3 64 := ⟨by decide +kernel, rfl⟩
theorem dX8_go_64 : zD cX8_go 64 (.iconst 1) 1 65 := ⟨by decide +kernel, rfl⟩
theorem dX8_go_65 : zD cX8_go 65 .isub 1 66 := ⟨by decide +kernel, rfl⟩
theorem dX8_go_66 : zD cX8_go 66 (.istore 5) 2 68 := ⟨by decide +kernel, rfl⟩
theorem dX8_go_68 : zD cX8_go 68 (.iload 5) 2 70 := ⟨by decide +kernel, rfl⟩
theorem dX8_go_70 : zJ cX8_go 70 (.ifCond .lt) 73 129 := ⟨59, by decide +kernel, rfl, by decide⟩
theorem dX8_go_73 : zD cX8_go 73 (.aload_n 0) 1 74 := ⟨by decide +kernel, rfl⟩
theorem dX8_go_74 : zD cX8_go 74 (.getfield 16) 3 77 := ⟨by decide +kernel, rfl⟩
theorem dX8_go_77 : zD cX8_go 77 (.aload_n 0) 1 78 := ⟨by decide +kernel, rfl⟩
theorem dX8_go_78 : zD cX8_go 78 (.getfield 58) 3 81 := ⟨by decide +kernel, rfl⟩
theorem dX8_go_81 : zD cX8_go 81 (.iload 5) 2 83 := ⟨by decide +kernel, rfl⟩
theorem dX8_go_83 : zD cX8_go 83 .iaload 1 84 := ⟨by decide +kernel, rfl⟩
theorem dX8_go_84 : zD cX8_go 84 .iaload 1 85 := ⟨by decide +kernel, rfl⟩
theorem dX8_go_85 : zD cX8_go 85 (.aload_n 0) 1 86 := ⟨by decide +kernel, rfl⟩
theorem dX8_go_86 : zD cX8_go 86 (.getfield 22) 3 89 := ⟨by decide +kernel, rfl⟩
theorem dX8_go_89 : zD cX8_go 89 (.aload_n 0) 1 90 := ⟨by decide +kernel, rfl⟩
theorem dX8_go_90 : zD cX8_go 90 (.getfield 58) 3 93 := ⟨by decide +kernel, rfl⟩
theorem dX8_go_93 : zD cX8_go 93 (.iload 5) 2 95 := ⟨by decide +kernel, rfl⟩
theorem dX8_go_95 : zD cX8_go 95 .iaload 1 96 := ⟨by decide +kernel, rfl⟩
theorem dX8_go_96 : zD cX8_go 96 .iaload 1 97 := ⟨by decide +kernel, rfl⟩
theorem dX8_go_97 : zD cX8_go 97 .iadd 1 98 := ⟨by decide +kernel, rfl⟩
theorem dX8_go_98 : zD cX8_go 98 (.iload 4) 2 100 := ⟨by decide +kernel, rfl⟩
theorem dX8_go_100 : zJ cX8_go 100 (.if_icmp .gt) 103 123 := ⟨23, by decide +kernel, rfl, by decide⟩
theorem dX8_go_103 : zD cX8_go 103 (.aload_n 0) 1 104 := ⟨by decide +kernel, rfl⟩
theorem dX8_go_104 : zD cX8_go 104 (.aload_n 0) 1 105 := ⟨by decide +kernel, rfl⟩
theorem dX8_go_105 : zD cX8_go 105 (.getfield 58) 3 108 := ⟨by decide +kernel, rfl⟩
theorem dX8_go_108 : zD cX8_go 108 (.iload 5) 2 110 := ⟨by decide +kernel, rfl⟩
theorem dX8_go_110 : zD cX8_go 110 .iaload 1 111 := ⟨by decide +kernel, rfl⟩
theorem dX8_go_111 : zD cX8_go 111 (.iconst 1) 1 112 := ⟨by decide +kernel, rfl⟩
theorem dX8_go_112 : zD cX8_go 112 (.iload 4) 2 114 := ⟨by decide +kernel, rfl⟩
theorem dX8_go_114 : zD cX8_go 114 (.invokevirtual 174) 3 117 := ⟨by decide +kernel, rfl⟩
theorem dX8_go_117 : zD cX8_go 117 (.aload_n 0) 1 118 := ⟨by decide +kernel, rfl⟩
theorem dX8_go_118 : zD cX8_go 118 (.iload 5) 2 120 := ⟨by decide +kernel, rfl⟩
theorem dX8_go_120 : zD cX8_go 120 (.invokevirtual 178) 3 123 := ⟨by decide +kernel, rfl⟩
theorem dX8_go_123 : zD cX8_go 123 (.iinc 5 (-1)) 3 126 := ⟨by decide +kernel, rfl⟩
theorem dX8_go_126 : zJ cX8_go 126 .goto 129 68 := ⟨-58, by decide +kernel, rfl, by decide⟩
theorem dX8_go_129 : zD cX8_go 129 (.aload_n 0) 1 130 := ⟨by decide +kernel, rfl⟩
theorem dX8_go_130 : zD cX8_go 130 (.getfield 139) 3 133 := ⟨by decide +kernel, rfl⟩
theorem dX8_go_133 : zD cX8_go 133 (.iconst 3) 1 134 := ⟨by decide +kernel, rfl⟩
theorem dX8_go_134 : zJ cX8_go 134 (.if_icmp .eq) 137 176 := ⟨42, by decide +kernel, rfl, by decide⟩
theorem dX8_go_137 : zD cX8_go 137 (.iload 4) 2 139 := ⟨by decide +kernel, rfl⟩
theorem dX8_go_139 : zD cX8_go 139 (.iload_n 2) 1 140 := ⟨by decide +kernel, rfl⟩
theorem dX8_go_140 : zD cX8_go 140 .isub 1 141 := ⟨by decide +kernel, rfl⟩
theorem dX8_go_141 : zD cX8_go 141 (.aload_n 0) 1 142 := ⟨by decide +kernel, rfl⟩
theorem dX8_go_142 : zD cX8_go 142 (.getfield 25) 3 145 := ⟨by decide +kernel, rfl⟩
theorem dX8_go_145 : zD cX8_go 145 (.iconst 0) 1 146 := ⟨by decide +kernel, rfl⟩
theorem dX8_go_146 : zD cX8_go 146 .iaload 1 147 := ⟨by decide +kernel, rfl⟩
theorem dX8_go_147 : zJ cX8_go 147 (.if_icmp .le) 150 176 := ⟨29, by decide +kernel, rfl, by decide⟩
theorem dX8_go_150 : zD cX8_go 150 (.aload_n 0) 1 151 := ⟨by decide +kernel, rfl⟩
theorem dX8_go_151 : zD cX8_go 151 (.iload 4) 2 153 := ⟨by decide +kernel, rfl⟩
theorem dX8_go_153 : zD cX8_go 153 (.invokevirtual 181) 3 156 := ⟨by decide +kernel, rfl⟩
theorem dX8_go_156 : zJ cX8_go 156 (.ifCond .eq) 159 176 := ⟨20, by decide +kernel, rfl, by decide⟩
theorem dX8_go_159 : zD cX8_go 159 (.aload_n 0) 1 160 := ⟨by decide +kernel, rfl⟩
theorem dX8_go_160 : zD cX8_go 160 (.invokevirtual 184) 3 163 := ⟨by decide +kernel, rfl⟩
theorem dX8_go_163 : zD cX8_go 163 (.aload_n 0) 1 164 := ⟨by decide +kernel, rfl⟩
theorem dX8_go_164 : zD cX8_go 164 .dup 1 165 := ⟨by decide +kernel, rfl⟩
theorem dX8_go_165 : zD cX8_go 165 (.getfield 171) 3 168 := ⟨by decide +kernel, rfl⟩
theorem dX8_go_168 : zD cX8_go 168 (.iconst 1) 1 169 := ⟨by decide +kernel, rfl⟩
theorem dX8_go_169 : zD cX8_go 169 .iadd 1 170 := ⟨by decide +kernel, rfl⟩
theorem dX8_go_170 : zD cX8_go 170 (.putfield 171) 3 173 := ⟨by decide +kernel, rfl⟩
theorem dX8_go_173 : zD cX8_go 173 (.iload 4) 2 175 := ⟨by decide +kernel, rfl⟩
theorem dX8_go_175 : zD cX8_go 175 (.istore_n 2) 1 176 := ⟨by decide +kernel, rfl⟩
theorem dX8_go_176 : zD cX8_go 176 (.iconst 0) 1 177 := ⟨by decide +kernel, rfl⟩
theorem dX8_go_177 : zD cX8_go 177 (.istore 5) 2 179 := ⟨by decide +kernel, rfl⟩
theorem dX8_go_179 : zD cX8_go 179 (.iload 5) 2 181 := ⟨by decide +kernel, rfl⟩
theorem dX8_go_181 : zD cX8_go 181 (.aload_n 0) 1 182 := ⟨by decide +kernel, rfl⟩
theorem dX8_go_182 : zD cX8_go 182 (.getfield 13) 3 185 := ⟨by decide +kernel, rfl⟩
theorem dX8_go_185 : zD cX8_go 185 (.iconst 0) 1 186 := ⟨by decide +kernel, rfl⟩
theorem dX8_go_186 : zD cX8_go 186 .iaload 1 187 := ⟨by decide +kernel, rfl⟩
theorem dX8_go_187 : zJ cX8_go 187 (.if_icmp .ge) 190 235 := ⟨48, by decide +kernel, rfl, by decide⟩
theorem dX8_go_190 : zD cX8_go 190 (.aload_n 0) 1 191 := ⟨by decide +kernel, rfl⟩
theorem dX8_go_191 : zD cX8_go 191 (.getfield 16) 3 194 := ⟨by decide +kernel, rfl⟩
theorem dX8_go_194 : zD cX8_go 194 (.iload 5) 2 196 := ⟨by decide +kernel, rfl⟩
theorem dX8_go_196 : zD cX8_go 196 .iaload 1 197 := ⟨by decide +kernel, rfl⟩
theorem dX8_go_197 : zD cX8_go 197 (.iload 4) 2 199 := ⟨by decide +kernel, rfl⟩
theorem dX8_go_199 : zJ cX8_go 199 (.if_icmp .ne) 202 229 := ⟨30, by decide +kernel, rfl, by decide⟩
theorem dX8_go_202 : zD cX8_go 202 (.aload_n 0) 1 203 := ⟨by decide +kernel, rfl⟩
theorem dX8_go_203 : zD cX8_go 203 (.iload 5) 2 205 := ⟨by decide +kernel, rfl⟩
theorem dX8_go_205 : zD cX8_go 205 (.aload_n 0) 1 206 := ⟨by decide +kernel, rfl⟩
theorem dX8_go_206 : zD cX8_go 206 (.getfield 139) 3 209 := ⟨by decide +kernel, rfl⟩
theorem dX8_go_209 : zD cX8_go 209 (.iconst 1) 1 210 := ⟨by decide +kernel, rfl⟩
theorem dX8_go_210 : zJ cX8_go 210 (.if_icmp .ne) 213 222 := ⟨12, by decide +kernel, rfl, by decide⟩
theorem dX8_go_213 : zD cX8_go 213 (.aload_n 0) 1 214 := ⟨by decide +kernel, rfl⟩
theorem dX8_go_214 : zD cX8_go 214 (.getfield 145) 3 217 := ⟨by decide +kernel, rfl⟩
theorem dX8_go_217 : zD cX8_go 217 (.iconst 2) 1 218 := ⟨by decide +kernel, rfl⟩
theorem dX8_go_218 : zD cX8_go 218 .idiv 1 219 := ⟨by decide +kernel, rfl⟩
theorem dX8_go_219 : zJ cX8_go 219 .goto 222 226 := ⟨7, by decide +kernel, rfl, by decide⟩
theorem dX8_go_222 : zD cX8_go 222 (.aload_n 0) 1 223 := ⟨by decide +kernel, rfl⟩
theorem dX8_go_223 : zD cX8_go 223 (.getfield 145) 3 226 := ⟨by decide +kernel, rfl⟩
theorem dX8_go_226 : zD cX8_go 226 (.invokevirtual 187) 3 229 := ⟨by decide +kernel, rfl⟩
theorem dX8_go_229 : zD cX8_go 229 (.iinc 5 1) 3 232 := ⟨by decide +kernel, rfl⟩
theorem dX8_go_232 : zJ cX8_go 232 .goto 235 179 := ⟨-53, by decide +kernel, rfl, by decide⟩
theorem dX8_go_235 : zD cX8_go 235 (.iload 4) 2 237 := ⟨by decide +kernel, rfl⟩
theorem dX8_go_237 : zD cX8_go 237 (.aload_n 0) 1 238 := ⟨by decide +kernel, rfl⟩
theorem dX8_go_238 : zD cX8_go 238 (.getfield 31) 3 241 := ⟨by decide +kernel, rfl⟩
theorem dX8_go_241 : zD cX8_go 241 (.iconst 0) 1 242 := ⟨by decide +kernel, rfl⟩
theorem dX8_go_242 : zD cX8_go 242 .iaload 1 243 := ⟨by decide +kernel, rfl⟩
theorem dX8_go_243 : zD cX8_go 243 .irem 1 244 := ⟨by decide +kernel, rfl⟩
theorem dX8_go_244 : zJ cX8_go 244 (.ifCond .ne) 247 299 := ⟨55, by decide +kernel, rfl, by decide⟩
theorem dX8_go_247 : zD cX8_go 247 (.iconst 0) 1 248 := ⟨by decide +kernel, rfl⟩
theorem dX8_go_248 : zD cX8_go 248 (.istore 5) 2 250 := ⟨by decide +kernel, rfl⟩
theorem dX8_go_250 : zD cX8_go 250 (.iload 5) 2 252 := ⟨by decide +kernel, rfl⟩
theorem dX8_go_252 : zD cX8_go 252 (.aload_n 0) 1 253 := ⟨by decide +kernel, rfl⟩
theorem dX8_go_253 : zD cX8_go 253 (.getfield 28) 3 256 := ⟨by decide +kernel, rfl⟩
theorem dX8_go_256 : zD cX8_go 256 (.iconst 0) 1 257 := ⟨by decide +kernel, rfl⟩
theorem dX8_go_257 : zD cX8_go 257 .iaload 1 258 := ⟨by decide +kernel, rfl⟩
theorem dX8_go_258 : zJ cX8_go 258 (.if_icmp .ge) 261 299 := ⟨41, by decide +kernel, rfl, by decide⟩
theorem dX8_go_261 : zD cX8_go 261 (.aload_n 0) 1 262 := ⟨by decide +kernel, rfl⟩
theorem dX8_go_262 : zD cX8_go 262 (.getfield 145) 3 265 := ⟨by decide +kernel, rfl⟩
theorem dX8_go_265 : zJ cX8_go 265 (.ifCond .le) 268 299 := ⟨34, by decide +kernel, rfl, by decide⟩
theorem dX8_go_268 : zD cX8_go 268 (.iload_n 3) 1 269 := ⟨by decide +kernel, rfl⟩
theorem dX8_go_269 : zJ cX8_go 269 (.ifCond .le) 272 299 := ⟨30, by decide +kernel, rfl, by decide⟩
theorem dX8_go_272 : zD cX8_go 272 (.aload_n 0) 1 273 := ⟨by decide +kernel, rfl⟩
theorem dX8_go_273 : zD cX8_go 273 (.aload_n 0) 1 274 := ⟨by decide +kernel, rfl⟩
theorem dX8_go_274 : zD cX8_go 274 (.getfield 58) 3 277 := ⟨by decide +kernel, rfl⟩
theorem dX8_go_277 : zD cX8_go 277 (.iconst 0) 1 278 := ⟨by decide +kernel, rfl⟩
theorem dX8_go_278 : zD cX8_go 278 .iaload 1 279 := ⟨by decide +kernel, rfl⟩
theorem dX8_go_279 : zD cX8_go 279 (.iconst 0) 1 280 := ⟨by decide +kernel, rfl⟩
theorem dX8_go_280 : zD cX8_go 280 (.iload 4) 2 282 := ⟨by decide +kernel, rfl⟩
theorem dX8_go_282 : zD cX8_go 282 (.invokevirtual 174) 3 285 := ⟨by decide +kernel, rfl⟩
theorem dX8_go_285 : zD cX8_go 285 (.aload_n 0) 1 286 := ⟨by decide +kernel, rfl⟩
theorem dX8_go_286 : zD cX8_go 286 (.iconst 0) 1 287 := ⟨by decide +kernel, rfl⟩
theorem dX8_go_287 : zD cX8_go 287 (.invokevirtual 178) 3 290 := ⟨by decide +kernel, rfl⟩
theorem dX8_go_290 : zD cX8_go 290 (.iinc 3 (-1)) 3 293 := ⟨by decide +kernel, rfl⟩
theorem dX8_go_293 : zD cX8_go 293 (.iinc 5 1) 3 296 := ⟨by decide +kernel, rfl⟩
theorem dX8_go_296 : zJ cX8_go 296 .goto 299 250 := ⟨-46, by decide +kernel, rfl, by decide⟩
theorem dX8_go_299 : zD cX8_go 299 (.iload_n 3) 1 300 := ⟨by decide +kernel, rfl⟩
theorem dX8_go_300 : zJ cX8_go 300 (.ifCond .ne) 303 331 := ⟨31, by decide +kernel, rfl, by decide⟩
theorem dX8_go_303 : zD cX8_go 303 (.aload_n 0) 1 304 := ⟨by decide +kernel, rfl⟩
theorem dX8_go_304 : zD cX8_go 304 (.getfield 145) 3 307 := ⟨by decide +kernel, rfl⟩
theorem dX8_go_307 : zJ cX8_go 307 (.ifCond .le) 310 331 := ⟨24, by decide +kernel, rfl, by decide⟩
theorem dX8_go_310 : zD cX8_go 310 (.aload_n 0) 1 311 := ⟨by decide +kernel, rfl⟩
theorem dX8_go_311 : zD cX8_go 311 (.aload_n 0) 1 312 := ⟨by decide +kernel, rfl⟩
theorem dX8_go_312 : zD cX8_go 312 (.getfield 58) 3 315 := ⟨by decide +kernel, rfl⟩
theorem dX8_go_315 : zD cX8_go 315 (.iconst 0) 1 316 := ⟨by decide +kernel, rfl⟩
theorem dX8_go_316 : zD cX8_go 316 .iaload 1 317 := ⟨by decide +kernel, rfl⟩
theorem dX8_go_317 : zD cX8_go 317 (.iconst 2) 1 318 := ⟨by decide +kernel, rfl⟩
theorem dX8_go_318 : zD cX8_go 318 (.iload 4) 2 320 := ⟨by decide +kernel, rfl⟩
theorem dX8_go_320 : zD cX8_go 320 (.invokevirtual 174) 3 323 := ⟨by decide +kernel, rfl⟩
theorem dX8_go_323 : zD cX8_go 323 (.aload_n 0) 1 324 := ⟨by decide +kernel, rfl⟩
theorem dX8_go_324 : zD cX8_go 324 (.iconst 0) 1 325 := ⟨by decide +kernel, rfl⟩
theorem dX8_go_325 : zD cX8_go 325 (.invokevirtual 178) 3 328 := ⟨by decide +kernel, rfl⟩
theorem dX8_go_328 : zJ cX8_go 328 .goto 331 299 := ⟨-29, by decide +kernel, rfl, by decide⟩
theorem dX8_go_331 : zD cX8_go 331 (.iinc 4 1) 3 334 := ⟨by decide +kernel, rfl⟩
theorem dX8_go_334 : zJ cX8_go 334 .goto 337 54 := ⟨-280, by decide +kernel, rfl, by decide⟩
theorem dX8_go_337 : zD cX8_go 337 .return_ 1 338 := ⟨by decide +kernel, rfl⟩
theorem dX8_goAsItIs_0 : zD cX8_goAsItIs 0 (.aload_n 0) 1 1 := ⟨by decide +kernel, rfl⟩
theorem dX8_goAsItIs_1 : zD cX8_goAsItIs 1 (.invokevirtual 190) 3 4 := ⟨by decide +kernel, rfl⟩
theorem dX8_goAsItIs_4 : zD cX8_goAsItIs 4 (.aload_n 0) 1 5 := ⟨by decide +kernel, rfl⟩
theorem dX8_goAsItIs_5 : zD cX8_goAsItIs 5 (.sipush 199) 3 8 := ⟨by decide +kernel, rfl⟩
theorem dX8_goAsItIs_8 : zD cX8_goAsItIs 8 (.invokevirtual 193) 3 11 := ⟨by decide +kernel, rfl⟩
theorem dX8_goAsItIs_11 : zD cX8_goAsItIs 11 .return_ 1 12 := ⟨by decide +kernel, rfl⟩
theorem dX8_timeOf_0 : zD cX8_timeOf 0 (.aload_n 0) 1 1 := ⟨by decide +kernel, rfl⟩
theorem dX8_timeOf_1 : zD cX8_timeOf 1 (.getfield 61) 3 4 := ⟨by decide +kernel, rfl⟩
theorem dX8_timeOf_4 : zD cX8_timeOf 4 (.iload_n 1) 1 5 := ⟨by decide +kernel, rfl⟩
theorem dX8_timeOf_5 : zD cX8_timeOf 5 .iaload 1 6 := ⟨by decide +kernel, rfl⟩
theorem dX8_timeOf_6 : zJ cX8_timeOf 6 (.ifCond .ne) 9 18 := ⟨12, by decide +kernel, rfl, by decide⟩
theorem dX8_timeOf_9 : zD cX8_timeOf 9 (.aload_n 0) 1 10 := ⟨by decide +kernel, rfl⟩
theorem dX8_timeOf_10 : zD cX8_timeOf 10 (.getfield 64) 3 13 := ⟨by decide +kernel, rfl⟩
theorem dX8_timeOf_13 : zD cX8_timeOf 13 (.iload_n 1) 1 14 := ⟨by decide +kernel, rfl⟩
theorem dX8_timeOf_14 : zD cX8_timeOf 14 .iaload 1 15 := ⟨by decide +kernel, rfl⟩
theorem dX8_timeOf_15 : zJ cX8_timeOf 15 .goto 18 21 := ⟨6, by decide +kernel, rfl, by decide⟩
theorem dX8_timeOf_18 : zD cX8_timeOf 18 (.sipush 200) 3 21 := ⟨by decide +kernel, rfl⟩
theorem dX8_timeOf_21 : zD cX8_timeOf 21 .ireturn 1 22 := ⟨by decide +kernel, rfl⟩
theorem dX8_unfair_0 : zD cX8_unfair 0 (.iconst 0) 1 1 := ⟨by decide +kernel, rfl⟩
theorem dX8_unfair_1 : zD cX8_unfair 1 (.istore_n 1) 1 2 := ⟨by decide +kernel, rfl⟩
theorem dX8_unfair_2 : zD cX8_unfair 2 (.iconst 0) 1 3 := ⟨by decide +kernel, rfl⟩
theorem dX8_unfair_3 : zD cX8_unfair 3 (.istore_n 2) 1 4 := ⟨by decide +kernel, rfl⟩
theorem dX8_unfair_4 : zD cX8_unfair 4 (.iload_n 2) 1 5 := ⟨by decide +kernel, rfl⟩
theorem dX8_unfair_5 : zD cX8_unfair 5 (.aload_n 0) 1 6 := ⟨by decide +kernel, rfl⟩
theorem dX8_unfair_6 : zD cX8_unfair 6 (.getfield 13) 3 9 := ⟨by decide +kernel, rfl⟩
theorem dX8_unfair_9 : zD cX8_unfair 9 (.iconst 0) 1 10 := ⟨by decide +kernel, rfl⟩
theorem dX8_unfair_10 : zD cX8_unfair 10 .iaload 1 11 := ⟨by decide +kernel, rfl⟩
theorem dX8_unfair_11 : zJ cX8_unfair 11 (.if_icmp .ge) 14 126 := ⟨115, by decide +kernel, rfl, by decide⟩
theorem dX8_unfair_14 : zD cX8_unfair 14 (.iconst 0) 1 15 := ⟨by decide +kernel, rfl⟩
theorem dX8_unfair_15 : zD cX8_unfair 15 (.istore_n 3) 1 16 := ⟨by decide +kernel, rfl⟩
theorem dX8_unfair_16 : zD cX8_unfair 16 (.iload_n 3) 1 17 := ⟨by decide +kernel, rfl⟩
theorem dX8_unfair_17 : zD cX8_unfair 17 (.aload_n 0) 1 18 := ⟨by decide +kernel, rfl⟩
theorem dX8_unfair_18 : zD cX8_unfair 18 (.getfield 13) 3 21 := ⟨by decide +kernel, rfl⟩
theorem dX8_unfair_21 : zD cX8_unfair 21 (.iconst 0) 1 22 := ⟨by decide +kernel, rfl⟩
theorem dX8_unfair_22 : zD cX8_unfair 22 .iaload 1 23 := ⟨by decide +kernel, rfl⟩
theorem dX8_unfair_23 : zJ cX8_unfair 23 (.if_icmp .ge) 26 120 := ⟨97, by decide +kernel, rfl, by decide⟩
theorem dX8_unfair_26 : zD cX8_unfair 26 (.aload_n 0) 1 27 := ⟨by decide +kernel, rfl⟩
theorem dX8_unfair_27 : zD cX8_unfair 27 (.getfield 16) 3 30 := ⟨by decide +kernel, rfl⟩
theorem dX8_unfair_30 : zD cX8_unfair 30 (.iload_n 3) 1 31 := ⟨by decide +kernel, rfl⟩
theorem dX8_unfair_31 : zD cX8_unfair 31 .iaload 1 32 := ⟨by decide +kernel, rfl⟩
theorem dX8_unfair_32 : zD cX8_unfair 32 (.aload_n 0) 1 33 := ⟨by decide +kernel, rfl⟩
theorem dX8_unfair_33 : zD cX8_unfair 33 (.getfield 16) 3 36 := ⟨by decide +kernel, rfl⟩
theorem dX8_unfair_36 : zD cX8_unfair 36 (.iload_n 2) 1 37 := ⟨by decide +kernel, rfl⟩
theorem dX8_unfair_37 : zD cX8_unfair 37 .iaload 1 38 := ⟨by decide +kernel, rfl⟩
theorem dX8_unfair_38 : zJ cX8_unfair 38 (.if_icmp .gt) 41 61 := ⟨23, by decide +kernel, rfl, by decide⟩
theorem dX8_unfair_41 : zD cX8_unfair 41 (.aload_n 0) 1 42 := ⟨by decide +kernel, rfl⟩
theorem dX8_unfair_42 : zD cX8_unfair 42 (.getfield 16) 3 45 := ⟨by decide +kernel, rfl⟩
theorem dX8_unfair_45 : zD cX8_unfair 45 (.iload_n 3) 1 46 := ⟨by decide +kernel, rfl⟩
theorem dX8_unfair_46 : zD cX8_unfair 46 .iaload 1 47 := ⟨by decide +kernel, rfl⟩
theorem dX8_unfair_47 : zD cX8_unfair 47 (.aload_n 0) 1 48 := ⟨by decide +kernel, rfl⟩
theorem dX8_unfair_48 : zD cX8_unfair 48 (.getfield 16) 3 51 := ⟨by decide +kernel, rfl⟩
theorem dX8_unfair_51 : zD cX8_unfair 51 (.iload_n 2) 1 52 := ⟨by decide +kernel, rfl⟩
theorem dX8_unfair_52 : zD cX8_unfair 52 .iaload 1 53 := ⟨by decide +kernel, rfl⟩
theorem dX8_unfair_53 : zJ cX8_unfair 53 (.if_icmp .ne) 56 65 := ⟨12, by decide +kernel, rfl, by decide⟩
theorem dX8_unfair_56 : zD cX8_unfair 56 (.iload_n 3) 1 57 := ⟨by decide +kernel, rfl⟩
theorem dX8_unfair_57 : zD cX8_unfair 57 (.iload_n 2) 1 58 := ⟨by decide +kernel, rfl⟩
theorem dX8_unfair_58 : zJ cX8_unfair 58 (.if_icmp .le) 61 65 := ⟨7, by decide +kernel, rfl, by decide⟩
theorem dX8_unfair_61 : zD cX8_unfair 61 (.iconst 1) 1 62 := ⟨by decide +kernel, rfl⟩
theorem dX8_unfair_62 : zJ cX8_unfair 62 .goto 65 66 := ⟨4, by decide +kernel, rfl, by decide⟩
theorem dX8_unfair_65 : zD cX8_unfair 65 (.iconst 0) 1 66 := ⟨by decide +kernel, rfl⟩
theorem dX8_unfair_66 : zD cX8_unfair 66 (.istore 4) 2 68 := ⟨by decide +kernel, rfl⟩
theorem dX8_unfair_68 : zD cX8_unfair 68 (.iload_n 1) 1 69 := ⟨by decide +kernel, rfl⟩
theorem dX8_unfair_69 : zD cX8_unfair 69 (.iload 4) 2 71 := ⟨by decide +kernel, rfl⟩
theorem dX8_unfair_71 : zJ cX8_unfair 71 (.ifCond .eq) 74 111 := ⟨40, by decide +kernel, rfl, by decide⟩
theorem dX8_unfair_74 : zD cX8_unfair 74 (.aload_n 0) 1 75 := ⟨by decide +kernel, rfl⟩
theorem dX8_unfair_75 : zD cX8_unfair 75 (.getfield 61) 3 78 := ⟨by decide +kernel, rfl⟩
theorem dX8_unfair_78 : zD cX8_unfair 78 (.iload_n 2) 1 79 := ⟨by decide +kernel, rfl⟩
theorem dX8_unfair_79 : zD cX8_unfair 79 .iaload 1 80 := ⟨by decide +kernel, rfl⟩
theorem dX8_unfair_80 : zJ cX8_unfair 80 (.ifCond .ne) 83 111 := ⟨31, by decide +kernel, rfl, by decide⟩
theorem dX8_unfair_83 : zD cX8_unfair 83 (.aload_n 0) 1 84 := ⟨by decide +kernel, rfl⟩
theorem dX8_unfair_84 : zD cX8_unfair 84 (.getfield 61) 3 87 := ⟨by decide +kernel, rfl⟩
theorem dX8_unfair_87 : zD cX8_unfair 87 (.iload_n 3) 1 88 := ⟨by decide +kernel, rfl⟩
theorem dX8_unfair_88 : zD cX8_unfair 88 .iaload 1 89 := ⟨by decide +kernel, rfl⟩
theorem dX8_unfair_89 : zJ cX8_unfair 89 (.ifCond .ne) 92 111 := ⟨22, by decide +kernel, rfl, by decide⟩
theorem dX8_unfair_92 : zD cX8_unfair 92 (.aload_n 0) 1 93 := ⟨by decide +kernel, rfl⟩
theorem dX8_unfair_93 : zD cX8_unfair 93 (.getfield 64) 3 96 := ⟨by decide +kernel, rfl⟩
theorem dX8_unfair_96 : zD cX8_unfair 96 (.iload_n 3) 1 97 := ⟨by decide +kernel, rfl⟩
theorem dX8_unfair_97 : zD cX8_unfair 97 .iaload 1 98 := ⟨by decide +kernel, rfl⟩
theorem dX8_unfair_98 : zD cX8_unfair 98 (.aload_n 0) 1 99 := ⟨by decide +kernel, rfl⟩
theorem dX8_unfair_99 : zD cX8_unfair 99 (.getfield 64) 3 102 := ⟨by decide +kernel, rfl⟩
theorem dX8_unfair_102 : zD cX8_unfair 102 (.iload_n 2) 1 103 := ⟨by decide +kernel, rfl⟩
theorem dX8_unfair_103 : zD cX8_unfair 103 .iaload 1 104 := ⟨by decide +kernel, rfl⟩
theorem dX8_unfair_104 : zJ cX8_unfair 104 (.if_icmp .ge) 107 111 := ⟨7, by decide +kernel, rfl, by decide⟩
theorem dX8_unfair_107 : zD cX8_unfair 107 (.iconst 1) 1 108 := ⟨by decide +kernel, rfl⟩
theorem dX8_unfair_108 : zJ cX8_unfair 108 .goto 111 112 := ⟨4, by decide +kernel, rfl, by decide⟩
theorem dX8_unfair_111 : zD cX8_unfair 111 (.iconst 0) 1 112 := ⟨by decide +kernel, rfl⟩
theorem dX8_unfair_112 : zD cX8_unfair 112 .iadd 1 113 := ⟨by decide +kernel, rfl⟩
theorem dX8_unfair_113 : zD cX8_unfair 113 (.istore_n 1) 1 114 := ⟨by decide +kernel, rfl⟩
theorem dX8_unfair_114 : zD cX8_unfair 114 (.iinc 3 1) 3 117 := ⟨by decide +kernel, rfl⟩
theorem dX8_unfair_117 : zJ cX8_unfair 117 .goto 120 16 := ⟨-101, by decide +kernel, rfl, by decide⟩
theorem dX8_unfair_120 : zD cX8_unfair 120 (.iinc 2 1) 3 123 := ⟨by decide +kernel, rfl⟩
theorem dX8_unfair_123 : zJ cX8_unfair 123 .goto 126 4 := ⟨-119, by decide +kernel, rfl, by decide⟩
theorem dX8_unfair_126 : zD cX8_unfair 126 (.iload_n 1) 1 127 := ⟨by decide +kernel, rfl⟩
theorem dX8_unfair_127 : zD cX8_unfair 127 .ireturn 1 128 := ⟨by decide +kernel, rfl⟩
theorem dX8_howMany_0 : zD cX8_howMany 0 (.iconst 0) 1 1 := ⟨by decide +kernel, rfl⟩
theorem dX8_howMany_1 : zD cX8_howMany 1 (.istore_n 2) 1 2 := ⟨by decide +kernel, rfl⟩
theorem dX8_howMany_2 : zD cX8_howMany 2 (.iconst 0) 1 3 := ⟨by decide +kernel, rfl⟩
theorem dX8_howMany_3 : zD cX8_howMany 3 (.istore_n 3) 1 4 := ⟨by decide +kernel, rfl⟩
theorem dX8_howMany_4 : zD cX8_howMany 4 (.iload_n 3) 1 5 := ⟨by decide +kernel, rfl⟩
theorem dX8_howMany_5 : zD cX8_howMany 5 (.aload_n 0) 1 6 := ⟨by decide +kernel, rfl⟩
theorem dX8_howMany_6 : zD cX8_howMany 6 (.getfield 13) 3 9 := ⟨by decide +kernel, rfl⟩
theorem dX8_howMany_9 : zD cX8_howMany 9 (.iconst 0) 1 10 := ⟨by decide +kernel, rfl⟩
theorem dX8_howMany_10 : zD cX8_howMany 10 .iaload 1 11 := ⟨by decide +kernel, rfl⟩
theorem dX8_howMany_11 : zJ cX8_howMany 11 (.if_icmp .ge) 14 38 := ⟨27, by decide +kernel, rfl, by decide⟩
theorem dX8_howMany_14 : zD cX8_howMany 14 (.iload_n 2) 1 15 := ⟨by decide +kernel, rfl⟩
theorem dX8_howMany_15 : zD cX8_howMany 15 (.aload_n 0) 1 16 := ⟨by decide +kernel, rfl⟩
theorem dX8_howMany_16 : zD cX8_howMany 16 (.getfield 61) 3 19 := ⟨by decide +kernel, rfl⟩
theorem dX8_howMany_19 : zD cX8_howMany 19 (.iload_n 3) 1 20 := ⟨by decide +kernel, rfl⟩
theorem dX8_howMany_20 : zD cX8_howMany 20 .iaload 1 21 := ⟨by decide +kernel, rfl⟩
theorem dX8_howMany_21 : zD cX8_howMany 21 (.iload_n 1) 1 22 := ⟨by decide +kernel, rfl⟩
theorem dX8_howMany_22 : zJ cX8_howMany 22 (.if_icmp .ne) 25 29 := ⟨7, by decide +kernel, rfl, by decide⟩
theorem dX8_howMany_25 : zD cX8_howMany 25 (.iconst 1) 1 26 := ⟨by decide +kernel, rfl⟩
theorem dX8_howMany_26 : zJ cX8_howMany 26 .goto 29 30 := ⟨4, by decide +kernel, rfl, by decide⟩
theorem dX8_howMany_29 : zD cX8_howMany 29 (.iconst 0) 1 30 := ⟨by decide +kernel, rfl⟩
theorem dX8_howMany_30 : zD cX8_howMany 30 .iadd 1 31 := ⟨by decide +kernel, rfl⟩
theorem dX8_howMany_31 : zD cX8_howMany 31 (.istore_n 2) 1 32 := ⟨by decide +kernel, rfl⟩
theorem dX8_howMany_32 : zD cX8_howMany 32 (.iinc 3 1) 3 35 := ⟨by decide +kernel, rfl⟩
theorem dX8_howMany_35 : zJ cX8_howMany 35 .goto 38 4 := ⟨-31, by decide +kernel, rfl, by decide⟩
theorem dX8_howMany_38 : zD cX8_howMany 38 (.iload_n 2) 1 39 := ⟨by decide +kernel, rfl⟩
theorem dX8_howMany_39 : zD cX8_howMany 39 .ireturn 1 40 := ⟨by decide +kernel, rfl⟩
theorem dX8_person_0 : zD cX8_person 0 (.aload_n 0) 1 1 := ⟨by decide +kernel, rfl⟩
theorem dX8_person_1 : zD cX8_person 1 (.iload_n 1) 1 2 := ⟨by decide +kernel, rfl⟩
theorem dX8_person_2 : zD cX8_person 2 (.invokevirtual 196) 3 5 := ⟨by decide +kernel, rfl⟩
theorem dX8_person_5 : zJ cX8_person 5 (.ifCond .eq) 8 20 := ⟨15, by decide +kernel, rfl, by decide⟩
theorem dX8_person_8 : zD cX8_person 8 (.iload_n 2) 1 9 := ⟨by decide +kernel, rfl⟩
theorem dX8_person_9 : zD cX8_person 9 .i2l 1 10 := ⟨by decide +kernel, rfl⟩
theorem dX8_person_10 : zD cX8_person 10 (.lconst 0) 1 11 := ⟨by decide +kernel, rfl⟩
theorem dX8_person_11 : zD cX8_person 11 (.ldc2_w 199) 3 14 := ⟨by decide +kernel, rfl⟩
theorem dX8_person_14 : zD cX8_person 14 (.invokestatic 83) 3 17 := ⟨by decide +kernel, rfl⟩
theorem dX8_person_17 : zJ cX8_person 17 (.ifCond .ne) 20 22 := ⟨5, by decide +kernel, rfl, by decide⟩
theorem dX8_person_20 : zD cX8_person 20 (.iconst (-1)) 1 21 := ⟨by decide +kernel, rfl⟩
theorem dX8_person_21 : zD cX8_person 21 .ireturn 1 22 := ⟨by decide +kernel, rfl⟩
theorem dX8_person_22 : zD cX8_person 22 (.iload_n 2) 1 23 := ⟨by decide +kernel, rfl⟩
theorem dX8_person_23 : zD cX8_person 23 (.iconst 3) 1 24 := ⟨by decide +kernel, rfl⟩
theorem dX8_person_24 : zJ cX8_person 24 (.if_icmp .ge) 27 61 := ⟨37, by decide +kernel, rfl, by decide⟩
theorem dX8_person_27 : zD cX8_person 27 (.iload_n 2) 1 28 := ⟨by decide +kernel, rfl⟩
theorem dX8_person_28 : zJ cX8_person 28 (.ifCond .ne) 31 40 := ⟨12, by decide +kernel, rfl, by decide⟩
theorem dX8_person_31 : zD cX8_person 31 (.aload_n 0) 1 32 := ⟨by decide +kernel, rfl⟩
theorem dX8_person_32 : zD cX8_person 32 (.getfield 16) 3 35 := ⟨by decide +kernel, rfl⟩
theorem dX8_person_35 : zD cX8_person 35 (.iload_n 1) 1 36 := ⟨by decide +kernel, rfl⟩
theorem dX8_person_36 : zD cX8_person 36 .iaload 1 37 := ⟨by decide +kernel, rfl⟩
theorem dX8_person_37 : zJ cX8_person 37 .goto 40 60 := ⟨23, by decide +kernel, rfl, by decide⟩
theorem dX8_person_40 : zD cX8_person 40 (.iload_n 2) 1 41 := ⟨by decide +kernel, rfl⟩
theorem dX8_person_41 : zD cX8_person 41 (.iconst 1) 1 42 := ⟨by decide +kernel, rfl⟩
theorem dX8_person_42 : zJ cX8_person 42 (.if_icmp .ne) 45 54 := ⟨12, by decide +kernel, rfl, by decide⟩
theorem dX8_person_45 : zD cX8_person 45 (.aload_n 0) 1 46 := ⟨by decide +kernel, rfl⟩
theorem dX8_person_46 : zD cX8_person 46 (.getfield 19) 3 49 := ⟨by decide +kernel, rfl⟩
theorem dX8_person_49 : zD cX8_person 49 (.iload_n 1) 1 50 := ⟨by decide +kernel, rfl⟩
theorem dX8_person_50 : zD cX8_person 50 .iaload 1 51 := ⟨by decide +kernel, rfl⟩
theorem dX8_person_51 : zJ cX8_person 51 .goto 54 60 := ⟨9, by decide +kernel, rfl, by decide⟩
theorem dX8_person_54 : zD cX8_person 54 (.aload_n 0) 1 55 := ⟨by decide +kernel, rfl⟩
theorem dX8_person_55 : zD cX8_person 55 (.getfield 22) 3 58 := ⟨by decide +kernel, rfl⟩
theorem dX8_person_58 : zD cX8_person 58 (.iload_n 1) 1 59 := ⟨by decide +kernel, rfl⟩
theorem dX8_person_59 : zD cX8_person 59 .iaload 1 60 := ⟨by decide +kernel, rfl⟩
theorem dX8_person_60 : zD cX8_person 60 .ireturn 1 61 := ⟨by decide +kernel, rfl⟩
theorem dX8_person_61 : zD cX8_person 61 (.aload_n 0) 1 62 := ⟨by decide +kernel, rfl⟩
theorem dX8_person_62 : zD cX8_person 62 (.invokevirtual 201) 3 65 := ⟨by decide +kernel, rfl⟩
theorem dX8_person_65 : zD cX8_person 65 (.iload_n 2) 1 66 := ⟨by decide +kernel, rfl⟩
theorem dX8_person_66 : zD cX8_person 66 (.iconst 3) 1 67 := ⟨by decide +kernel, rfl⟩
theorem dX8_person_67 : zJ cX8_person 67 (.if_icmp .ne) 70 79 := ⟨12, by decide +kernel, rfl, by decide⟩
theorem dX8_person_70 : zD cX8_person 70 (.aload_n 0) 1 71 := ⟨by decide +kernel, rfl⟩
theorem dX8_person_71 : zD cX8_person 71 (.getfield 61) 3 74 := ⟨by decide +kernel, rfl⟩
theorem dX8_person_74 : zD cX8_person 74 (.iload_n 1) 1 75 := ⟨by decide +kernel, rfl⟩
theorem dX8_person_75 : zD cX8_person 75 .iaload 1 76 := ⟨by decide +kernel, rfl⟩
theorem dX8_person_76 : zJ cX8_person 76 .goto 79 85 := ⟨9, by decide +kernel, rfl, by decide⟩
theorem dX8_person_79 : zD cX8_person 79 (.aload_n 0) 1 80 := ⟨by decide +kernel, rfl⟩
theorem dX8_person_80 : zD cX8_person 80 (.getfield 64) 3 83 := ⟨by decide +kernel, rfl⟩
theorem dX8_person_83 : zD cX8_person 83 (.iload_n 1) 1 84 := ⟨by decide +kernel, rfl⟩
theorem dX8_person_84 : zD cX8_person 84 .iaload 1 85 := ⟨by decide +kernel, rfl⟩
theorem dX8_person_85 : zD cX8_person 85 .ireturn 1 86 := ⟨by decide +kernel, rfl⟩
theorem dX8_place_0 : zD cX8_place 0 (.aload_n 0) 1 1 := ⟨by decide +kernel, rfl⟩
theorem dX8_place_1 : zD cX8_place 1 (.iload_n 1) 1 2 := ⟨by decide +kernel, rfl⟩
theorem dX8_place_2 : zD cX8_place 2 (.invokevirtual 196) 3 5 := ⟨by decide +kernel, rfl⟩
theorem dX8_place_5 : zJ cX8_place 5 (.ifCond .eq) 8 20 := ⟨15, by decide +kernel, rfl, by decide⟩
theorem dX8_place_8 : zD cX8_place 8 (.iload_n 2) 1 9 := ⟨by decide +kernel, rfl⟩
theorem dX8_place_9 : zD cX8_place 9 .i2l 1 10 := ⟨by decide +kernel, rfl⟩
theorem dX8_place_10 : zD cX8_place 10 (.lconst 0) 1 11 := ⟨by decide +kernel, rfl⟩
theorem dX8_place_11 : zD cX8_place 11 (.ldc2_w 204) 3 14 := ⟨by decide +kernel, rfl⟩
theorem dX8_place_14 : zD cX8_place 14 (.invokestatic 83) 3 17 := ⟨by decide +kernel, rfl⟩
theorem dX8_place_17 : zJ cX8_place 17 (.ifCond .ne) 20 22 := ⟨5, by decide +kernel, rfl, by decide⟩
theorem dX8_place_20 : zD cX8_place 20 (.iconst (-1)) 1 21 := ⟨by decide +kernel, rfl⟩
theorem dX8_place_21 : zD cX8_place 21 .ireturn 1 22 := ⟨by decide +kernel, rfl⟩
theorem dX8_place_22 : zD cX8_place 22 (.aload_n 0) 1 23 := ⟨by decide +kernel, rfl⟩
theorem dX8_place_23 : zD cX8_place 23 (.invokevirtual 190) 3 26 := ⟨by decide +kernel, rfl⟩
theorem dX8_place_26 : zD cX8_place 26 (.aload_n 0) 1 27 := ⟨by decide +kernel, rfl⟩
theorem dX8_place_27 : zD cX8_place 27 (.iload_n 2) 1 28 := ⟨by decide +kernel, rfl⟩
theorem dX8_place_28 : zD cX8_place 28 (.invokevirtual 193) 3 31 := ⟨by decide +kernel, rfl⟩
theorem dX8_place_31 : zD cX8_place 31 (.iconst 0) 1 32 := ⟨by decide +kernel, rfl⟩
theorem dX8_place_32 : zD cX8_place 32 (.istore_n 3) 1 33 := ⟨by decide +kernel, rfl⟩
theorem dX8_place_33 : zD cX8_place 33 (.iload_n 3) 1 34 := ⟨by decide +kernel, rfl⟩
theorem dX8_place_34 : zD cX8_place 34 (.aload_n 0) 1 35 := ⟨by decide +kernel, rfl⟩
theorem dX8_place_35 : zD cX8_place 35 (.getfield 145) 3 38 := ⟨by decide +kernel, rfl⟩
theorem dX8_place_38 : zJ cX8_place 38 (.if_icmp .ge) 41 59 := ⟨21, by decide +kernel, rfl, by decide⟩
theorem dX8_place_41 : zD cX8_place 41 (.aload_n 0) 1 42 := ⟨by decide +kernel, rfl⟩
theorem dX8_place_42 : zD cX8_place 42 (.getfield 58) 3 45 := ⟨by decide +kernel, rfl⟩
theorem dX8_place_45 : zD cX8_place 45 (.iload_n 3) 1 46 := ⟨by decide +kernel, rfl⟩
theorem dX8_place_46 : zD cX8_place 46 .iaload 1 47 := ⟨by decide +kernel, rfl⟩
theorem dX8_place_47 : zD cX8_place 47 (.iload_n 1) 1 48 := ⟨by decide +kernel, rfl⟩
theorem dX8_place_48 : zJ cX8_place 48 (.if_icmp .ne) 51 53 := ⟨5, by decide +kernel, rfl, by decide⟩
theorem dX8_place_51 : zD cX8_place 51 (.iload_n 3) 1 52 := ⟨by decide +kernel, rfl⟩
theorem dX8_place_52 : zD cX8_place 52 .ireturn 1 53 := ⟨by decide +kernel, rfl⟩
theorem dX8_place_53 : zD cX8_place 53 (.iinc 3 1) 3 56 := ⟨by decide +kernel, rfl⟩
theorem dX8_place_56 : zJ cX8_place 56 .goto 59 33 := ⟨-23, by decide +kernel, rfl, by decide⟩
theorem dX8_place_59 : zD cX8_place 59 (.bipush (-4)) 2 61 := ⟨by decide +kernel, rfl⟩
theorem dX8_place_61 : zD cX8_place 61 .ireturn 1 62 := ⟨by decide +kernel, rfl⟩
theorem dX8_row_0 : zD cX8_row 0 (.iload_n 1) 1 1 := ⟨by decide +kernel, rfl⟩
theorem dX8_row_1 : zD cX8_row 1 .i2l 1 2 := ⟨by decide +kernel, rfl⟩
theorem dX8_row_2 : zD cX8_row 2 (.lconst 0) 1 3 := ⟨by decide +kernel, rfl⟩
theorem dX8_row_3 : zD cX8_row 3 (.ldc2_w 204) 3 6 := ⟨by decide +kernel, rfl⟩
theorem dX8_row_6 : zD cX8_row 6 (.invokestatic 83) 3 9 := ⟨by decide +kernel, rfl⟩
theorem dX8_row_9 : zJ cX8_row 9 (.ifCond .ne) 12 14 := ⟨5, by decide +kernel, rfl, by decide⟩
theorem dX8_row_12 : zD cX8_row 12 (.iconst (-1)) 1 13 := ⟨by decide +kernel, rfl⟩
theorem dX8_row_13 : zD cX8_row 13 .ireturn 1 14 := ⟨by decide +kernel, rfl⟩
theorem dX8_row_14 : zD cX8_row 14 (.aload_n 0) 1 15 := ⟨by decide +kernel, rfl⟩
theorem dX8_row_15 : zD cX8_row 15 (.invokevirtual 190) 3 18 := ⟨by decide +kernel, rfl⟩
theorem dX8_row_18 : zD cX8_row 18 (.aload_n 0) 1 19 := ⟨by decide +kernel, rfl⟩
theorem dX8_row_19 : zD cX8_row 19 (.iload_n 1) 1 20 := ⟨by decide +kernel, rfl⟩
theorem dX8_row_20 : zD cX8_row 20 (.invokevirtual 193) 3 23 := ⟨by decide +kernel, rfl⟩
theorem dX8_row_23 : zD cX8_row 23 (.aload_n 0) 1 24 := ⟨by decide +kernel, rfl⟩
theorem dX8_row_24 : zD cX8_row 24 (.getfield 145) 3 27 := ⟨by decide +kernel, rfl⟩
theorem dX8_row_27 : zD cX8_row 27 .ireturn 1 28 := ⟨by decide +kernel, rfl⟩
theorem dX8_all_0 : zD cX8_all 0 (.iload_n 1) 1 1 := ⟨by decide +kernel, rfl⟩
theorem dX8_all_1 : zD cX8_all 1 .i2l 1 2 := ⟨by decide +kernel, rfl⟩
theorem dX8_all_2 : zD cX8_all 2 (.lconst 0) 1 3 := ⟨by decide +kernel, rfl⟩
theorem dX8_all_3 : zD cX8_all 3 (.ldc2_w 206) 3 6 := ⟨by decide +kernel, rfl⟩
theorem dX8_all_6 : zD cX8_all 6 (.invokestatic 83) 3 9 := ⟨by decide +kernel, rfl⟩
theorem dX8_all_9 : zJ cX8_all 9 (.ifCond .ne) 12 14 := ⟨5, by decide +kernel, rfl, by decide⟩
theorem dX8_all_12 : zD cX8_all 12 (.iconst (-1)) 1 13 := ⟨by decide +kernel, rfl⟩
theorem dX8_all_13 : zD cX8_all 13 .ireturn 1 14 := ⟨by decide +kernel, rfl⟩
theorem dX8_all_14 : zD cX8_all 14 (.aload_n 0) 1 15 := ⟨by decide +kernel, rfl⟩
theorem dX8_all_15 : zD cX8_all 15 (.invokevirtual 201) 3 18 := ⟨by decide +kernel, rfl⟩
theorem dX8_all_18 : zD cX8_all 18 (.iload_n 1) 1 19 := ⟨by decide +kernel, rfl⟩
theorem dX8_all_19 : zD cX8_all 19 (.iconst 4) 1 20 := ⟨by decide +kernel, rfl⟩
theorem dX8_all_20 : zJ cX8_all 20 (.if_icmp .ge) 23 31 := ⟨11, by decide +kernel, rfl, by decide⟩
theorem dX8_all_23 : zD cX8_all 23 (.aload_n 0) 1 24 := ⟨by decide +kernel, rfl⟩
theorem dX8_all_24 : zD cX8_all 24 (.iload_n 1) 1 25 := ⟨by decide +kernel, rfl⟩
theorem dX8_all_25 : zD cX8_all 25 (.invokevirtual 208) 3 28 := ⟨by decide +kernel, rfl⟩
theorem dX8_all_28 : zJ cX8_all 28 .goto 31 47 := ⟨19, by decide +kernel, rfl, by decide⟩
theorem dX8_all_31 : zD cX8_all 31 (.iload_n 1) 1 32 := ⟨by decide +kernel, rfl⟩
theorem dX8_all_32 : zD cX8_all 32 (.iconst 4) 1 33 := ⟨by decide +kernel, rfl⟩
theorem dX8_all_33 : zJ cX8_all 33 (.if_icmp .ne) 36 43 := ⟨10, by decide +kernel, rfl, by decide⟩
theorem dX8_all_36 : zD cX8_all 36 (.aload_n 0) 1 37 := ⟨by decide +kernel, rfl⟩
theorem dX8_all_37 : zD cX8_all 37 (.getfield 171) 3 40 := ⟨by decide +kernel, rfl⟩
theorem dX8_all_40 : zJ cX8_all 40 .goto 43 47 := ⟨7, by decide +kernel, rfl, by decide⟩
theorem dX8_all_43 : zD cX8_all 43 (.aload_n 0) 1 44 := ⟨by decide +kernel, rfl⟩
theorem dX8_all_44 : zD cX8_all 44 (.invokevirtual 211) 3 47 := ⟨by decide +kernel, rfl⟩
theorem dX8_all_47 : zD cX8_all 47 .ireturn 1 48 := ⟨by decide +kernel, rfl⟩
theorem dX8_gainedOf_0 : zD cX8_gainedOf 0 (.aload_n 0) 1 1 := ⟨by decide +kernel, rfl⟩
theorem dX8_gainedOf_1 : zD cX8_gainedOf 1 (.invokevirtual 201) 3 4 := ⟨by decide +kernel, rfl⟩
theorem dX8_gainedOf_4 : zD cX8_gainedOf 4 (.aload_n 0) 1 5 := ⟨by decide +kernel, rfl⟩
theorem dX8_gainedOf_5 : zD cX8_gainedOf 5 (.aload_n 0) 1 6 := ⟨by decide +kernel, rfl⟩
theorem dX8_gainedOf_6 : zD cX8_gainedOf 6 (.getfield 43) 3 9 := ⟨by decide +kernel, rfl⟩
theorem dX8_gainedOf_9 : zD cX8_gainedOf 9 (.iload_n 1) 1 10 := ⟨by decide +kernel, rfl⟩
theorem dX8_gainedOf_10 : zD cX8_gainedOf 10 .iaload 1 11 := ⟨by decide +kernel, rfl⟩
theorem dX8_gainedOf_11 : zD cX8_gainedOf 11 (.invokevirtual 214) 3 14 := ⟨by decide +kernel, rfl⟩
theorem dX8_gainedOf_14 : zD cX8_gainedOf 14 (.istore_n 2) 1 15 := ⟨by decide +kernel, rfl⟩
theorem dX8_gainedOf_15 : zD cX8_gainedOf 15 (.aload_n 0) 1 16 := ⟨by decide +kernel, rfl⟩
theorem dX8_gainedOf_16 : zD cX8_gainedOf 16 (.sipush 255) 3 19 := ⟨by decide +kernel, rfl⟩
theorem dX8_gainedOf_19 : zD cX8_gainedOf 19 (.iconst 1) 1 20 := ⟨by decide +kernel, rfl⟩
theorem dX8_gainedOf_20 : zD cX8_gainedOf 20 (.iload_n 1) 1 21 := ⟨by decide +kernel, rfl⟩
theorem dX8_gainedOf_21 : zD cX8_gainedOf 21 .ishl 1 22 := ⟨by decide +kernel, rfl⟩
theorem dX8_gainedOf_22 : zD cX8_gainedOf 22 (.iconst (-1)) 1 23 := ⟨by decide +kernel, rfl⟩
theorem dX8_gainedOf_23 : zD cX8_gainedOf 23 .ixor 1 24 := ⟨by decide +kernel, rfl⟩
theorem dX8_gainedOf_24 : zD cX8_gainedOf 24 .iand 1 25 := ⟨by decide +kernel, rfl⟩
theorem dX8_gainedOf_25 : zD cX8_gainedOf 25 (.putfield 130) 3 28 := ⟨by decide +kernel, rfl⟩
theorem dX8_gainedOf_28 : zD cX8_gainedOf 28 (.aload_n 0) 1 29 := ⟨by decide +kernel, rfl⟩
theorem dX8_gainedOf_29 : zD cX8_gainedOf 29 (.sipush 199) 3 32 := ⟨by decide +kernel, rfl⟩
theorem dX8_gainedOf_32 : zD cX8_gainedOf 32 (.invokevirtual 193) 3 35 := ⟨by decide +kernel, rfl⟩
theorem dX8_gainedOf_35 : zD cX8_gainedOf 35 (.sipush 200) 3 38 := ⟨by decide +kernel, rfl⟩
theorem dX8_gainedOf_38 : zD cX8_gainedOf 38 (.aload_n 0) 1 39 := ⟨by decide +kernel, rfl⟩
theorem dX8_gainedOf_39 : zD cX8_gainedOf 39 (.aload_n 0) 1 40 := ⟨by decide +kernel, rfl⟩
theorem dX8_gainedOf_40 : zD cX8_gainedOf 40 (.getfield 43) 3 43 := ⟨by decide +kernel, rfl⟩
theorem dX8_gainedOf_43 : zD cX8_gainedOf 43 (.iload_n 1) 1 44 := ⟨by decide +kernel, rfl⟩
theorem dX8_gainedOf_44 : zD cX8_gainedOf 44 .iaload 1 45 := ⟨by decide +kernel, rfl⟩
theorem dX8_gainedOf_45 : zD cX8_gainedOf 45 (.invokevirtual 214) 3 48 := ⟨by decide +kernel, rfl⟩
theorem dX8_gainedOf_48 : zD cX8_gainedOf 48 .iadd 1 49 := ⟨by decide +kernel, rfl⟩
theorem dX8_gainedOf_49 : zD cX8_gainedOf 49 (.iload_n 2) 1 50 := ⟨by decide +kernel, rfl⟩
theorem dX8_gainedOf_50 : zD cX8_gainedOf 50 .isub 1 51 := ⟨by decide +kernel, rfl⟩
theorem dX8_gainedOf_51 : zD cX8_gainedOf 51 .ireturn 1 52 := ⟨by decide +kernel, rfl⟩
theorem dX8_cry_0 : zD cX8_cry 0 (.iload_n 1) 1 1 := ⟨by decide +kernel, rfl⟩
theorem dX8_cry_1 : zD cX8_cry 1 .i2l 1 2 := ⟨by decide +kernel, rfl⟩
theorem dX8_cry_2 : zD cX8_cry 2 (.lconst 0) 1 3 := ⟨by decide +kernel, rfl⟩
theorem dX8_cry_3 : zD cX8_cry 3 (.aload_n 0) 1 4 := ⟨by decide +kernel, rfl⟩
theorem dX8_cry_4 : zD cX8_cry 4 (.getfield 40) 3 7 := ⟨by decide +kernel, rfl⟩
theorem dX8_cry_7 : zD cX8_cry 7 (.iconst 0) 1 8 := ⟨by decide +kernel, rfl⟩
theorem dX8_cry_8 : zD cX8_cry 8 .iaload 1 9 := ⟨by decide +kernel, rfl⟩
theorem dX8_cry_9 : zD cX8_cry 9 (.iconst 1) 1 10 := ⟨by decide +kernel, rfl⟩
theorem dX8_cry_10 : zD cX8_cry 10 .isub 1 11 := ⟨by decide +kernel, rfl⟩
theorem dX8_cry_11 : zD cX8_cry 11 .i2l 1 12 := ⟨by decide +kernel, rfl⟩
theorem dX8_cry_12 : zD cX8_cry 12 (.invokestatic 83) 3 15 := ⟨by decide +kernel, rfl⟩
theorem dX8_cry_15 : zJ cX8_cry 15 (.ifCond .eq) 18 30 := ⟨15, by decide +kernel, rfl, by decide⟩
theorem dX8_cry_18 : zD cX8_cry 18 (.iload_n 2) 1 19 := ⟨by decide +kernel, rfl⟩
theorem dX8_cry_19 : zD cX8_cry 19 .i2l 1 20 := ⟨by decide +kernel, rfl⟩
theorem dX8_cry_20 : zD cX8_cry 20 (.lconst 0) 1 21 := ⟨by decide +kernel, rfl⟩
theorem dX8_cry_21 : zD cX8_cry 21 (.ldc2_w 104) 3 24 := ⟨by decide +kernel, rfl⟩
theorem dX8_cry_24 : zD cX8_cry 24 (.invokestatic 83) 3 27 := ⟨by decide +kernel, rfl⟩
theorem dX8_cry_27 : zJ cX8_cry 27 (.ifCond .ne) 30 32 := ⟨5, by decide +kernel, rfl, by decide⟩
theorem dX8_cry_30 : zD cX8_cry 30 (.iconst (-1)) 1 31 := ⟨by decide +kernel, rfl⟩
theorem dX8_cry_31 : zD cX8_cry 31 .ireturn 1 32 := ⟨by decide +kernel, rfl⟩
theorem dX8_cry_32 : zD cX8_cry 32 (.iload_n 2) 1 33 := ⟨by decide +kernel, rfl⟩
theorem dX8_cry_33 : zJ cX8_cry 33 (.ifCond .ne) 36 45 := ⟨12, by decide +kernel, rfl, by decide⟩
theorem dX8_cry_36 : zD cX8_cry 36 (.aload_n 0) 1 37 := ⟨by decide +kernel, rfl⟩
theorem dX8_cry_37 : zD cX8_cry 37 (.getfield 43) 3 40 := ⟨by decide +kernel, rfl⟩
theorem dX8_cry_40 : zD cX8_cry 40 (.iload_n 1) 1 41 := ⟨by decide +kernel, rfl⟩
theorem dX8_cry_41 : zD cX8_cry 41 .iaload 1 42 := ⟨by decide +kernel, rfl⟩
theorem dX8_cry_42 : zJ cX8_cry 42 .goto 45 64 := ⟨22, by decide +kernel, rfl, by decide⟩
theorem dX8_cry_45 : zD cX8_cry 45 (.iload_n 2) 1 46 := ⟨by decide +kernel, rfl⟩
theorem dX8_cry_46 : zD cX8_cry 46 (.iconst 1) 1 47 := ⟨by decide +kernel, rfl⟩
theorem dX8_cry_47 : zJ cX8_cry 47 (.if_icmp .ne) 50 59 := ⟨12, by decide +kernel, rfl, by decide⟩
theorem dX8_cry_50 : zD cX8_cry 50 (.aload_n 0) 1 51 := ⟨by decide +kernel, rfl⟩
theorem dX8_cry_51 : zD cX8_cry 51 (.getfield 46) 3 54 := ⟨by decide +kernel, rfl⟩
theorem dX8_cry_54 : zD cX8_cry 54 (.iload_n 1) 1 55 := ⟨by decide +kernel, rfl⟩
theorem dX8_cry_55 : zD cX8_cry 55 .iaload 1 56 := ⟨by decide +kernel, rfl⟩
theorem dX8_cry_56 : zJ cX8_cry 56 .goto 59 64 := ⟨8, by decide +kernel, rfl, by decide⟩
theorem dX8_cry_59 : zD cX8_cry 59 (.aload_n 0) 1 60 := ⟨by decide +kernel, rfl⟩
theorem dX8_cry_60 : zD cX8_cry 60 (.iload_n 1) 1 61 := ⟨by decide +kernel, rfl⟩
theorem dX8_cry_61 : zD cX8_cry 61 (.invokevirtual 217) 3 64 := ⟨by decide +kernel, rfl⟩
theorem dX8_cry_64 : zD cX8_cry 64 .ireturn 1 65 := ⟨by decide +kernel, rfl⟩
theorem dX8_suspect_0 : zD cX8_suspect 0 (.bipush (-4)) 2 2 := ⟨by decide +kernel, rfl⟩
theorem dX8_suspect_2 : zD cX8_suspect 2 (.istore_n 1) 1 3 := ⟨by decide +kernel, rfl⟩
theorem dX8_suspect_3 : zD cX8_suspect 3 (.bipush (-4)) 2 5 := ⟨by decide +kernel, rfl⟩
theorem dX8_suspect_5 : zD cX8_suspect 5 (.istore_n 2) 1 6 := ⟨by decide +kernel, rfl⟩
theorem dX8_suspect_6 : zD cX8_suspect 6 (.iconst 0) 1 7 := ⟨by decide +kernel, rfl⟩
theorem dX8_suspect_7 : zD cX8_suspect 7 (.istore_n 3) 1 8 := ⟨by decide +kernel, rfl⟩
theorem dX8_suspect_8 : zD cX8_suspect 8 (.iload_n 3) 1 9 := ⟨by decide +kernel, rfl⟩
theorem dX8_suspect_9 : zD cX8_suspect 9 (.aload_n 0) 1 10 := ⟨by decide +kernel, rfl⟩
theorem dX8_suspect_10 : zD cX8_suspect 10 (.getfield 40) 3 13 := ⟨by decide +kernel, rfl⟩
theorem dX8_suspect_13 : zD cX8_suspect 13 (.iconst 0) 1 14 := ⟨by decide +kernel, rfl⟩
theorem dX8_suspect_14 : zD cX8_suspect 14 .iaload 1 15 := ⟨by decide +kernel, rfl⟩
theorem dX8_suspect_15 : zJ cX8_suspect 15 (.if_icmp .ge) 18 56 := ⟨41, by decide +kernel, rfl, by decide⟩
theorem dX8_suspect_18 : zD cX8_suspect 18 (.aload_n 0) 1 19 := ⟨by decide +kernel, rfl⟩
theorem dX8_suspect_19 : zD cX8_suspect 19 (.iload_n 3) 1 20 := ⟨by decide +kernel, rfl⟩
theorem dX8_suspect_20 : zD cX8_suspect 20 (.invokevirtual 217) 3 23 := ⟨by decide +kernel, rfl⟩
theorem dX8_suspect_23 : zD cX8_suspect 23 (.istore 4) 2 25 := ⟨by decide +kernel, rfl⟩
theorem dX8_suspect_25 : zD cX8_suspect 25 (.iload 4) 2 27 := ⟨by decide +kernel, rfl⟩
theorem dX8_suspect_27 : zD cX8_suspect 27 (.iload_n 2) 1 28 := ⟨by decide +kernel, rfl⟩
theorem dX8_suspect_28 : zJ cX8_suspect 28 (.if_icmp .le) 31 35 := ⟨7, by decide +kernel, rfl, by decide⟩
theorem dX8_suspect_31 : zD cX8_suspect 31 (.iload_n 3) 1 32 := ⟨by decide +kernel, rfl⟩
theorem dX8_suspect_32 : zJ cX8_suspect 32 .goto 35 36 := ⟨4, by decide +kernel, rfl, by decide⟩
theorem dX8_suspect_35 : zD cX8_suspect 35 (.iload_n 1) 1 36 := ⟨by decide +kernel, rfl⟩
theorem dX8_suspect_36 : zD cX8_suspect 36 (.istore_n 1) 1 37 := ⟨by decide +kernel, rfl⟩
theorem dX8_suspect_37 : zD cX8_suspect 37 (.iload 4) 2 39 := ⟨by decide +kernel, rfl⟩
theorem dX8_suspect_39 : zD cX8_suspect 39 (.iload_n 2) 1 40 := ⟨by decide +kernel, rfl⟩
theorem dX8_suspect_40 : zJ cX8_suspect 40 (.if_icmp .le) 43 48 := ⟨8, by decide +kernel, rfl, by decide⟩
theorem dX8_suspect_43 : zD cX8_suspect 43 (.iload 4) 2 45 := ⟨by decide +kernel, rfl⟩
theorem dX8_suspect_45 : zJ cX8_suspect 45 .goto 48 49 := ⟨4, by decide +kernel, rfl, by decide⟩
theorem dX8_suspect_48 : zD cX8_suspect 48 (.iload_n 2) 1 49 := ⟨by decide +kernel, rfl⟩
theorem dX8_suspect_49 : zD cX8_suspect 49 (.istore_n 2) 1 50 := ⟨by decide +kernel, rfl⟩
theorem dX8_suspect_50 : zD cX8_suspect 50 (.iinc 3 1) 3 53 := ⟨by decide +kernel, rfl⟩
theorem dX8_suspect_53 : zJ cX8_suspect 53 .goto 56 8 := ⟨-45, by decide +kernel, rfl, by decide⟩
theorem dX8_suspect_56 : zD cX8_suspect 56 (.iload_n 1) 1 57 := ⟨by decide +kernel, rfl⟩
theorem dX8_suspect_57 : zD cX8_suspect 57 .ireturn 1 58 := ⟨by decide +kernel, rfl⟩
theorem dX8_tell_0 : zD cX8_tell 0 (.aload_n 0) 1 1 := ⟨by decide +kernel, rfl⟩
theorem dX8_tell_1 : zD cX8_tell 1 (.iload_n 1) 1 2 := ⟨by decide +kernel, rfl⟩
theorem dX8_tell_2 : zD cX8_tell 2 (.invokevirtual 196) 3 5 := ⟨by decide +kernel, rfl⟩
theorem dX8_tell_5 : zJ cX8_tell 5 (.ifCond .eq) 8 29 := ⟨24, by decide +kernel, rfl, by decide⟩
theorem dX8_tell_8 : zD cX8_tell 8 (.aload_n 0) 1 9 := ⟨by decide +kernel, rfl⟩
theorem dX8_tell_9 : zD cX8_tell 9 (.getfield 19) 3 12 := ⟨by decide +kernel, rfl⟩
theorem dX8_tell_12 : zD cX8_tell 12 (.iload_n 1) 1 13 := ⟨by decide +kernel, rfl⟩
theorem dX8_tell_13 : zD cX8_tell 13 .iaload 1 14 := ⟨by decide +kernel, rfl⟩
theorem dX8_tell_14 : zJ cX8_tell 14 (.ifCond .eq) 17 29 := ⟨15, by decide +kernel, rfl, by decide⟩
theorem dX8_tell_17 : zD cX8_tell 17 (.iload_n 2) 1 18 := ⟨by decide +kernel, rfl⟩
theorem dX8_tell_18 : zD cX8_tell 18 .i2l 1 19 := ⟨by decide +kernel, rfl⟩
theorem dX8_tell_19 : zD cX8_tell 19 (.lconst 0) 1 20 := ⟨by decide +kernel, rfl⟩
theorem dX8_tell_20 : zD cX8_tell 20 (.ldc2_w 220) 3 23 := ⟨by decide +kernel, rfl⟩
theorem dX8_tell_23 : zD cX8_tell 23 (.invokestatic 83) 3 26 := ⟨by decide +kernel, rfl⟩
theorem dX8_tell_26 : zJ cX8_tell 26 (.ifCond .ne) 29 31 := ⟨5, by decide +kernel, rfl, by decide⟩
theorem dX8_tell_29 : zD cX8_tell 29 (.iconst (-1)) 1 30 := ⟨by decide +kernel, rfl⟩
theorem dX8_tell_30 : zD cX8_tell 30 .ireturn 1 31 := ⟨by decide +kernel, rfl⟩
theorem dX8_tell_31 : zD cX8_tell 31 (.aload_n 0) 1 32 := ⟨by decide +kernel, rfl⟩
theorem dX8_tell_32 : zD cX8_tell 32 (.getfield 40) 3 35 := ⟨by decide +kernel, rfl⟩
theorem dX8_tell_35 : zD cX8_tell 35 (.iconst 0) 1 36 := ⟨by decide +kernel, rfl⟩
theorem dX8_tell_36 : zD cX8_tell 36 .iaload 1 37 := ⟨by decide +kernel, rfl⟩
theorem dX8_tell_37 : zD cX8_tell 37 (.bipush 8) 2 39 := ⟨by decide +kernel, rfl⟩
theorem dX8_tell_39 : zJ cX8_tell 39 (.if_icmp .ne) 42 45 := ⟨6, by decide +kernel, rfl, by decide⟩
theorem dX8_tell_42 : zD cX8_tell 42 (.bipush (-3)) 2 44 := ⟨by decide +kernel, rfl⟩
theorem dX8_tell_44 : zD cX8_tell 44 .ireturn 1 45 := ⟨by decide +kernel, rfl⟩
theorem dX8_tell_45 : zD cX8_tell 45 (.aload_n 0) 1 46 := ⟨by decide +kernel, rfl⟩
theorem dX8_tell_46 : zD cX8_tell 46 (.getfield 43) 3 49 := ⟨by decide +kernel, rfl⟩
theorem dX8_tell_49 : zD cX8_tell 49 (.aload_n 0) 1 50 := ⟨by decide +kernel, rfl⟩
theorem dX8_tell_50 : zD cX8_tell 50 (.getfield 40) 3 53 := ⟨by decide +kernel, rfl⟩
theorem dX8_tell_53 : zD cX8_tell 53 (.iconst 0) 1 54 := ⟨by decide +kernel, rfl⟩
theorem dX8_tell_54 : zD cX8_tell 54 .iaload 1 55 := ⟨by decide +kernel, rfl⟩
theorem dX8_tell_55 : zD cX8_tell 55 (.iload_n 1) 1 56 := ⟨by decide +kernel, rfl⟩
theorem dX8_tell_56 : zD cX8_tell 56 .iastore 1 57 := ⟨by decide +kernel, rfl⟩
theorem dX8_tell_57 : zD cX8_tell 57 (.aload_n 0) 1 58 := ⟨by decide +kernel, rfl⟩
theorem dX8_tell_58 : zD cX8_tell 58 (.getfield 46) 3 61 := ⟨by decide +kernel, rfl⟩
theorem dX8_tell_61 : zD cX8_tell 61 (.aload_n 0) 1 62 := ⟨by decide +kernel, rfl⟩
theorem dX8_tell_62 : zD cX8_tell 62 (.getfield 40) 3 65 := ⟨by decide +kernel, rfl⟩
theorem dX8_tell_65 : zD cX8_tell 65 (.iconst 0) 1 66 := ⟨by decide +kernel, rfl⟩
theorem dX8_tell_66 : zD cX8_tell 66 .iaload 1 67 := ⟨by decide +kernel, rfl⟩
theorem dX8_tell_67 : zD cX8_tell 67 (.iload_n 2) 1 68 := ⟨by decide +kernel, rfl⟩
theorem dX8_tell_68 : zD cX8_tell 68 .iastore 1 69 := ⟨by decide +kernel, rfl⟩
theorem dX8_tell_69 : zD cX8_tell 69 (.aload_n 0) 1 70 := ⟨by decide +kernel, rfl⟩
theorem dX8_tell_70 : zD cX8_tell 70 (.getfield 40) 3 73 := ⟨by decide +kernel, rfl⟩
theorem dX8_tell_73 : zD cX8_tell 73 (.iconst 0) 1 74 := ⟨by decide +kernel, rfl⟩
theorem dX8_tell_74 : zD cX8_tell 74 .dup2 1 75 := ⟨by decide +kernel, rfl⟩
theorem dX8_tell_75 : zD cX8_tell 75 .iaload 1 76 := ⟨by decide +kernel, rfl⟩
theorem dX8_tell_76 : zD cX8_tell 76 (.iconst 1) 1 77 := ⟨by decide +kernel, rfl⟩
theorem dX8_tell_77 : zD cX8_tell 77 .iadd 1 78 := ⟨by decide +kernel, rfl⟩
theorem dX8_tell_78 : zD cX8_tell 78 .iastore 1 79 := ⟨by decide +kernel, rfl⟩
theorem dX8_tell_79 : zD cX8_tell 79 (.aload_n 0) 1 80 := ⟨by decide +kernel, rfl⟩
theorem dX8_tell_80 : zD cX8_tell 80 .dup 1 81 := ⟨by decide +kernel, rfl⟩
theorem dX8_tell_81 : zD cX8_tell 81 (.getfield 127) 3 84 := ⟨by decide +kernel, rfl⟩
theorem dX8_tell_84 : zD cX8_tell 84 (.iconst 1) 1 85 := ⟨by decide +kernel, rfl⟩
theorem dX8_tell_85 : zD cX8_tell 85 .iadd 1 86 := ⟨by decide +kernel, rfl⟩
theorem dX8_tell_86 : zD cX8_tell 86 (.putfield 127) 3 89 := ⟨by decide +kernel, rfl⟩
theorem dX8_tell_89 : zD cX8_tell 89 (.aload_n 0) 1 90 := ⟨by decide +kernel, rfl⟩
theorem dX8_tell_90 : zD cX8_tell 90 (.getfield 40) 3 93 := ⟨by decide +kernel, rfl⟩
theorem dX8_tell_93 : zD cX8_tell 93 (.iconst 0) 1 94 := ⟨by decide +kernel, rfl⟩
theorem dX8_tell_94 : zD cX8_tell 94 .iaload 1 95 := ⟨by decide +kernel, rfl⟩
theorem dX8_tell_95 : zD cX8_tell 95 .ireturn 1 96 := ⟨by decide +kernel, rfl⟩
theorem dX8_takeBack_0 : zD cX8_takeBack 0 (.aload_n 0) 1 1 := ⟨by decide +kernel, rfl⟩
theorem dX8_takeBack_1 : zD cX8_takeBack 1 (.getfield 127) 3 4 := ⟨by decide +kernel, rfl⟩
theorem dX8_takeBack_4 : zJ cX8_takeBack 4 (.ifCond .ne) 7 10 := ⟨6, by decide +kernel, rfl, by decide⟩
theorem dX8_takeBack_7 : zD cX8_takeBack 7 (.bipush (-2)) 2 9 := ⟨by decide +kernel, rfl⟩
theorem dX8_takeBack_9 : zD cX8_takeBack 9 .ireturn 1 10 := ⟨by decide +kernel, rfl⟩
theorem dX8_takeBack_10 : zD cX8_takeBack 10 (.aload_n 0) 1 11 := ⟨by decide +kernel, rfl⟩
theorem dX8_takeBack_11 : zD cX8_takeBack 11 .dup 1 12 := ⟨by decide +kernel, rfl⟩
theorem dX8_takeBack_12 : zD cX8_takeBack 12 (.getfield 127) 3 15 := ⟨by decide +kernel, rfl⟩
theorem dX8_takeBack_15 : zD cX8_takeBack 15 (.iconst 1) 1 16 := ⟨by decide +kernel, rfl⟩
theorem dX8_takeBack_16 : zD cX8_takeBack 16 .isub 1 17 := ⟨by decide +kernel, rfl⟩
theorem dX8_takeBack_17 : zD cX8_takeBack 17 (.putfield 127) 3 20 := ⟨by decide +kernel, rfl⟩
theorem dX8_takeBack_20 : zD cX8_takeBack 20 (.aload_n 0) 1 21 := ⟨by decide +kernel, rfl⟩
theorem dX8_takeBack_21 : zD cX8_takeBack 21 (.getfield 40) 3 24 := ⟨by decide +kernel, rfl⟩
theorem dX8_takeBack_24 : zD cX8_takeBack 24 (.iconst 0) 1 25 := ⟨by decide +kernel, rfl⟩
theorem dX8_takeBack_25 : zD cX8_takeBack 25 .dup2 1 26 := ⟨by decide +kernel, rfl⟩
theorem dX8_takeBack_26 : zD cX8_takeBack 26 .iaload 1 27 := ⟨by decide +kernel, rfl⟩
theorem dX8_takeBack_27 : zD cX8_takeBack 27 (.iconst 1) 1 28 := ⟨by decide +kernel, rfl⟩
theorem dX8_takeBack_28 : zD cX8_takeBack 28 .isub 1 29 := ⟨by decide +kernel, rfl⟩
theorem dX8_takeBack_29 : zD cX8_takeBack 29 .iastore 1 30 := ⟨by decide +kernel, rfl⟩
theorem dX8_takeBack_30 : zD cX8_takeBack 30 (.aload_n 0) 1 31 := ⟨by decide +kernel, rfl⟩
theorem dX8_takeBack_31 : zD cX8_takeBack 31 (.getfield 127) 3 34 := ⟨by decide +kernel, rfl⟩
theorem dX8_takeBack_34 : zD cX8_takeBack 34 .ireturn 1 35 := ⟨by decide +kernel, rfl⟩
theorem dX8_ones_0 : zD cX8_ones 0 (.iconst 0) 1 1 := ⟨by decide +kernel, rfl⟩
theorem dX8_ones_1 : zD cX8_ones 1 (.istore_n 1) 1 2 := ⟨by decide +kernel, rfl⟩
theorem dX8_ones_2 : zD cX8_ones 2 (.iload_n 0) 1 3 := ⟨by decide +kernel, rfl⟩
theorem dX8_ones_3 : zD cX8_ones 3 (.istore_n 2) 1 4 := ⟨by decide +kernel, rfl⟩
theorem dX8_ones_4 : zD cX8_ones 4 (.iload_n 2) 1 5 := ⟨by decide +kernel, rfl⟩
theorem dX8_ones_5 : zJ cX8_ones 5 (.ifCond .eq) 8 20 := ⟨15, by decide +kernel, rfl, by decide⟩
theorem dX8_ones_8 : zD cX8_ones 8 (.iinc 1 1) 3 11 := ⟨by decide +kernel, rfl⟩
theorem dX8_ones_11 : zD cX8_ones 11 (.iload_n 2) 1 12 := ⟨by decide +kernel, rfl⟩
theorem dX8_ones_12 : zD cX8_ones 12 (.iload_n 2) 1 13 := ⟨by decide +kernel, rfl⟩
theorem dX8_ones_13 : zD cX8_ones 13 (.iconst 1) 1 14 := ⟨by decide +kernel, rfl⟩
theorem dX8_ones_14 : zD cX8_ones 14 .isub 1 15 := ⟨by decide +kernel, rfl⟩
theorem dX8_ones_15 : zD cX8_ones 15 .iand 1 16 := ⟨by decide +kernel, rfl⟩
theorem dX8_ones_16 : zD cX8_ones 16 (.istore_n 2) 1 17 := ⟨by decide +kernel, rfl⟩
theorem dX8_ones_17 : zJ cX8_ones 17 .goto 20 4 := ⟨-13, by decide +kernel, rfl, by decide⟩
theorem dX8_ones_20 : zD cX8_ones 20 (.iload_n 1) 1 21 := ⟨by decide +kernel, rfl⟩
theorem dX8_ones_21 : zD cX8_ones 21 .ireturn 1 22 := ⟨by decide +kernel, rfl⟩
theorem dX8_hush_0 : zD cX8_hush 0 (.aload_n 0) 1 1 := ⟨by decide +kernel, rfl⟩
theorem dX8_hush_1 : zD cX8_hush 1 (.iload_n 1) 1 2 := ⟨by decide +kernel, rfl⟩
theorem dX8_hush_2 : zD cX8_hush 2 (.invokevirtual 196) 3 5 := ⟨by decide +kernel, rfl⟩
theorem dX8_hush_5 : zJ cX8_hush 5 (.ifCond .eq) 8 20 := ⟨15, by decide +kernel, rfl, by decide⟩
theorem dX8_hush_8 : zD cX8_hush 8 (.iload_n 2) 1 9 := ⟨by decide +kernel, rfl⟩
theorem dX8_hush_9 : zD cX8_hush 9 .i2l 1 10 := ⟨by decide +kernel, rfl⟩
theorem dX8_hush_10 : zD cX8_hush 10 (.lconst 0) 1 11 := ⟨by decide +kernel, rfl⟩
theorem dX8_hush_11 : zD cX8_hush 11 (.ldc2_w 204) 3 14 := ⟨by decide +kernel, rfl⟩
theorem dX8_hush_14 : zD cX8_hush 14 (.invokestatic 83) 3 17 := ⟨by decide +kernel, rfl⟩
theorem dX8_hush_17 : zJ cX8_hush 17 (.ifCond .ne) 20 22 := ⟨5, by decide +kernel, rfl, by decide⟩
theorem dX8_hush_20 : zD cX8_hush 20 (.iconst (-1)) 1 21 := ⟨by decide +kernel, rfl⟩
theorem dX8_hush_21 : zD cX8_hush 21 .ireturn 1 22 := ⟨by decide +kernel, rfl⟩
theorem dX8_hush_22 : zD cX8_hush 22 (.aload_n 0) 1 23 := ⟨by decide +kernel, rfl⟩
theorem dX8_hush_23 : zD cX8_hush 23 (.invokevirtual 190) 3 26 := ⟨by decide +kernel, rfl⟩
theorem dX8_hush_26 : zD cX8_hush 26 (.bipush (-4)) 2 28 := ⟨by decide +kernel, rfl⟩
theorem dX8_hush_28 : zD cX8_hush 28 (.istore_n 3) 1 29 := ⟨by decide +kernel, rfl⟩
theorem dX8_hush_29 : zD cX8_hush 29 (.iconst 0) 1 30 := ⟨by decide +kernel, rfl⟩
theorem dX8_hush_30 : zD cX8_hush 30 (.istore 4) 2 32 := ⟨by decide +kernel, rfl⟩
theorem dX8_hush_32 : zD cX8_hush 32 (.iload 4) 2 34 := ⟨by decide +kernel, rfl⟩
theorem dX8_hush_34 : zD cX8_hush 34 (.iconst 1) 1 35 := ⟨by decide +kernel, rfl⟩
theorem dX8_hush_35 : zD cX8_hush 35 (.aload_n 0) 1 36 := ⟨by decide +kernel, rfl⟩
theorem dX8_hush_36 : zD cX8_hush 36 (.getfield 40) 3 39 := ⟨by decide +kernel, rfl⟩
theorem dX8_hush_39 : zD cX8_hush 39 (.iconst 0) 1 40 := ⟨by decide +kernel, rfl⟩
theorem dX8_hush_40 : zD cX8_hush 40 .iaload 1 41 := ⟨by decide +kernel, rfl⟩
theorem dX8_hush_41 : zD cX8_hush 41 .ishl 1 42 := ⟨by decide +kernel, rfl⟩
theorem dX8_hush_42 : zJ cX8_hush 42 (.if_icmp .ge) 45 124 := ⟨82, by decide +kernel, rfl, by decide⟩
theorem dX8_hush_45 : zD cX8_hush 45 (.aload_n 0) 1 46 := ⟨by decide +kernel, rfl⟩
theorem dX8_hush_46 : zD cX8_hush 46 (.sipush 255) 3 49 := ⟨by decide +kernel, rfl⟩
theorem dX8_hush_49 : zD cX8_hush 49 (.iload 4) 2 51 := ⟨by decide +kernel, rfl⟩
theorem dX8_hush_51 : zD cX8_hush 51 (.iconst (-1)) 1 52 := ⟨by decide +kernel, rfl⟩
theorem dX8_hush_52 : zD cX8_hush 52 .ixor 1 53 := ⟨by decide +kernel, rfl⟩
theorem dX8_hush_53 : zD cX8_hush 53 .iand 1 54 := ⟨by decide +kernel, rfl⟩
theorem dX8_hush_54 : zD cX8_hush 54 (.putfield 130) 3 57 := ⟨by decide +kernel, rfl⟩
theorem dX8_hush_57 : zD cX8_hush 57 (.aload_n 0) 1 58 := ⟨by decide +kernel, rfl⟩
theorem dX8_hush_58 : zD cX8_hush 58 (.sipush 199) 3 61 := ⟨by decide +kernel, rfl⟩
theorem dX8_hush_61 : zD cX8_hush 61 (.invokevirtual 193) 3 64 := ⟨by decide +kernel, rfl⟩
theorem dX8_hush_64 : zD cX8_hush 64 (.aload_n 0) 1 65 := ⟨by decide +kernel, rfl⟩
theorem dX8_hush_65 : zD cX8_hush 65 (.getfield 61) 3 68 := ⟨by decide +kernel, rfl⟩
theorem dX8_hush_68 : zD cX8_hush 68 (.iload_n 1) 1 69 := ⟨by decide +kernel, rfl⟩
theorem dX8_hush_69 : zD cX8_hush 69 .iaload 1 70 := ⟨by decide +kernel, rfl⟩
theorem dX8_hush_70 : zJ cX8_hush 70 (.ifCond .ne) 73 87 := ⟨17, by decide +kernel, rfl, by decide⟩
theorem dX8_hush_73 : zD cX8_hush 73 (.aload_n 0) 1 74 := ⟨by decide +kernel, rfl⟩
theorem dX8_hush_74 : zD cX8_hush 74 (.getfield 64) 3 77 := ⟨by decide +kernel, rfl⟩
theorem dX8_hush_77 : zD cX8_hush 77 (.iload_n 1) 1 78 := ⟨by decide +kernel, rfl⟩
theorem dX8_hush_78 : zD cX8_hush 78 .iaload 1 79 := ⟨by decide +kernel, rfl⟩
theorem dX8_hush_79 : zD cX8_hush 79 (.iload_n 2) 1 80 := ⟨by decide +kernel, rfl⟩
theorem dX8_hush_80 : zJ cX8_hush 80 (.if_icmp .gt) 83 87 := ⟨7, by decide +kernel, rfl, by decide⟩
theorem dX8_hush_83 : zD cX8_hush 83 (.iconst 1) 1 84 := ⟨by decide +kernel, rfl⟩
theorem dX8_hush_84 : zJ cX8_hush 84 .goto 87 88 := ⟨4, by decide +kernel, rfl, by decide⟩
theorem dX8_hush_87 : zD cX8_hush 87 (.iconst 0) 1 88 := ⟨by decide +kernel, rfl⟩
theorem dX8_hush_88 : zD cX8_hush 88 (.istore 5) 2 90 := ⟨by decide +kernel, rfl⟩
theorem dX8_hush_90 : zD cX8_hush 90 (.iload 5) 2 92 := ⟨by decide +kernel, rfl⟩
theorem dX8_hush_92 : zJ cX8_hush 92 (.ifCond .eq) 95 116 := ⟨24, by decide +kernel, rfl, by decide⟩
theorem dX8_hush_95 : zD cX8_hush 95 (.iload_n 3) 1 96 := ⟨by decide +kernel, rfl⟩
theorem dX8_hush_96 : zJ cX8_hush 96 (.ifCond .lt) 99 111 := ⟨15, by decide +kernel, rfl, by decide⟩
theorem dX8_hush_99 : zD cX8_hush 99 (.iload 4) 2 101 := ⟨by decide +kernel, rfl⟩
theorem dX8_hush_101 : zD cX8_hush 101 (.invokestatic 222) 3 104 := ⟨by decide +kernel, rfl⟩
theorem dX8_hush_104 : zD cX8_hush 104 (.iload_n 3) 1 105 := ⟨by decide +kernel, rfl⟩
theorem dX8_hush_105 : zD cX8_hush 105 (.invokestatic 222) 3 108 := ⟨by decide +kernel, rfl⟩
theorem dX8_hush_108 : zJ cX8_hush 108 (.if_icmp .ge) 111 116 := ⟨8, by decide +kernel, rfl, by decide⟩
theorem dX8_hush_111 : zD cX8_hush 111 (.iload 4) 2 113 := ⟨by decide +kernel, rfl⟩
theorem dX8_hush_113 : zJ cX8_hush 113 .goto 116 117 := ⟨4, by decide +kernel, rfl, by decide⟩
theorem dX8_hush_116 : zD cX8_hush 116 (.iload_n 3) 1 117 := ⟨by decide +kernel, rfl⟩
theorem dX8_hush_117 : zD cX8_hush 117 (.istore_n 3) 1 118 := ⟨by decide +kernel, rfl⟩
theorem dX8_hush_118 : zD cX8_hush 118 (.iinc 4 1) 3 121 := ⟨by decide +kernel, rfl⟩
theorem dX8_hush_121 : zJ cX8_hush 121 .goto 124 32 := ⟨-89, by decide +kernel, rfl, by decide⟩
theorem dX8_hush_124 : zD cX8_hush 124 (.iload_n 3) 1 125 := ⟨by decide +kernel, rfl⟩
theorem dX8_hush_125 : zD cX8_hush 125 .ireturn 1 126 := ⟨by decide +kernel, rfl⟩
theorem dX8_again_0 : zD cX8_again 0 (.aload_n 0) 1 1 := ⟨by decide +kernel, rfl⟩
theorem dX8_again_1 : zD cX8_again 1 (.iload_n 1) 1 2 := ⟨by decide +kernel, rfl⟩
theorem dX8_again_2 : zD cX8_again 2 (.invokevirtual 196) 3 5 := ⟨by decide +kernel, rfl⟩
theorem dX8_again_5 : zJ cX8_again 5 (.ifCond .eq) 8 18 := ⟨13, by decide +kernel, rfl, by decide⟩
theorem dX8_again_8 : zD cX8_again 8 (.iload_n 2) 1 9 := ⟨by decide +kernel, rfl⟩
theorem dX8_again_9 : zD cX8_again 9 .i2l 1 10 := ⟨by decide +kernel, rfl⟩
theorem dX8_again_10 : zD cX8_again 10 (.lconst 0) 1 11 := ⟨by decide +kernel, rfl⟩
theorem dX8_again_11 : zD cX8_again 11 (.lconst 1) 1 12 := ⟨by decide +kernel, rfl⟩
theorem dX8_again_12 : zD cX8_again 12 (.invokestatic 83) 3 15 := ⟨by decide +kernel, rfl⟩
theorem dX8_again_15 : zJ cX8_again 15 (.ifCond .ne) 18 20 := ⟨5, by decide +kernel, rfl, by decide⟩
theorem dX8_again_18 : zD cX8_again 18 (.iconst (-1)) 1 19 := ⟨by decide +kernel, rfl⟩
theorem dX8_again_19 : zD cX8_again 19 .ireturn 1 20 := ⟨by decide +kernel, rfl⟩
theorem dX8_again_20 : zD cX8_again 20 (.aload_n 0) 1 21 := ⟨by decide +kernel, rfl⟩
theorem dX8_again_21 : zD cX8_again 21 (.invokevirtual 201) 3 24 := ⟨by decide +kernel, rfl⟩
theorem dX8_again_24 : zD cX8_again 24 (.aload_n 0) 1 25 := ⟨by decide +kernel, rfl⟩
theorem dX8_again_25 : zD cX8_again 25 (.iload_n 1) 1 26 := ⟨by decide +kernel, rfl⟩
theorem dX8_again_26 : zD cX8_again 26 (.invokevirtual 214) 3 29 := ⟨by decide +kernel, rfl⟩
theorem dX8_again_29 : zD cX8_again 29 (.istore_n 3) 1 30 := ⟨by decide +kernel, rfl⟩
theorem dX8_again_30 : zD cX8_again 30 (.bipush (-4)) 2 32 := ⟨by decide +kernel, rfl⟩
theorem dX8_again_32 : zD cX8_again 32 (.istore 4) 2 34 := ⟨by decide +kernel, rfl⟩
theorem dX8_again_34 : zD cX8_again 34 (.iload_n 3) 1 35 := ⟨by decide +kernel, rfl⟩
theorem dX8_again_35 : zD cX8_again 35 (.istore 5) 2 37 := ⟨by decide +kernel, rfl⟩
theorem dX8_again_37 : zD cX8_again 37 (.aload_n 0) 1 38 := ⟨by decide +kernel, rfl⟩
theorem dX8_again_38 : zD cX8_again 38 (.iload_n 1) 1 39 := ⟨by decide +kernel, rfl⟩
theorem dX8_again_39 : zD cX8_again 39 (.putfield 133) 3 42 := ⟨by decide +kernel, rfl⟩
theorem dX8_again_42 : zD cX8_again 42 (.iconst 0) 1 43 := ⟨by decide +kernel, rfl⟩
theorem dX8_again_43 : zD cX8_again 43 (.istore 6) 2 45 := ⟨by decide +kernel, rfl⟩
theorem dX8_again_45 : zD cX8_again 45 (.iload 6) 2 47 := ⟨by decide +kernel, rfl⟩
theorem dX8_again_47 : zD cX8_again 47 (.bipush 100) 2 49 := ⟨by decide +kernel, rfl⟩
theorem dX8_again_49 : zJ cX8_again 49 (.if_icmp .ge) 52 112 := ⟨63, by decide +kernel, rfl, by decide⟩
theorem dX8_again_52 : zD cX8_again 52 (.aload_n 0) 1 53 := ⟨by decide +kernel, rfl⟩
theorem dX8_again_53 : zD cX8_again 53 (.iload 6) 2 55 := ⟨by decide +kernel, rfl⟩
theorem dX8_again_55 : zD cX8_again 55 (.putfield 161) 3 58 := ⟨by decide +kernel, rfl⟩
theorem dX8_again_58 : zD cX8_again 58 (.aload_n 0) 1 59 := ⟨by decide +kernel, rfl⟩
theorem dX8_again_59 : zD cX8_again 59 (.sipush 199) 3 62 := ⟨by decide +kernel, rfl⟩
theorem dX8_again_62 : zD cX8_again 62 (.invokevirtual 193) 3 65 := ⟨by decide +kernel, rfl⟩
theorem dX8_again_65 : zD cX8_again 65 (.aload_n 0) 1 66 := ⟨by decide +kernel, rfl⟩
theorem dX8_again_66 : zD cX8_again 66 (.iload_n 1) 1 67 := ⟨by decide +kernel, rfl⟩
theorem dX8_again_67 : zD cX8_again 67 (.invokevirtual 214) 3 70 := ⟨by decide +kernel, rfl⟩
theorem dX8_again_70 : zD cX8_again 70 (.iload 5) 2 72 := ⟨by decide +kernel, rfl⟩
theorem dX8_again_72 : zJ cX8_again 72 (.if_icmp .ge) 75 80 := ⟨8, by decide +kernel, rfl, by decide⟩
theorem dX8_again_75 : zD cX8_again 75 (.iload 6) 2 77 := ⟨by decide +kernel, rfl⟩
theorem dX8_again_77 : zJ cX8_again 77 .goto 80 82 := ⟨5, by decide +kernel, rfl, by decide⟩
theorem dX8_again_80 : zD cX8_again 80 (.iload 4) 2 82 := ⟨by decide +kernel, rfl⟩
theorem dX8_again_82 : zD cX8_again 82 (.istore 4) 2 84 := ⟨by decide +kernel, rfl⟩
theorem dX8_again_84 : zD cX8_again 84 (.aload_n 0) 1 85 := ⟨by decide +kernel, rfl⟩
theorem dX8_again_85 : zD cX8_again 85 (.iload_n 1) 1 86 := ⟨by decide +kernel, rfl⟩
theorem dX8_again_86 : zD cX8_again 86 (.invokevirtual 214) 3 89 := ⟨by decide +kernel, rfl⟩
theorem dX8_again_89 : zD cX8_again 89 (.iload 5) 2 91 := ⟨by decide +kernel, rfl⟩
theorem dX8_again_91 : zJ cX8_again 91 (.if_icmp .ge) 94 102 := ⟨11, by decide +kernel, rfl, by decide⟩
theorem dX8_again_94 : zD cX8_again 94 (.aload_n 0) 1 95 := ⟨by decide +kernel, rfl⟩
theorem dX8_again_95 : zD cX8_again 95 (.iload_n 1) 1 96 := ⟨by decide +kernel, rfl⟩
theorem dX8_again_96 : zD cX8_again 96 (.invokevirtual 214) 3 99 := ⟨by decide +kernel, rfl⟩
theorem dX8_again_99 : zJ cX8_again 99 .goto 102 104 := ⟨5, by decide +kernel, rfl, by decide⟩
theorem dX8_again_102 : zD cX8_again 102 (.iload 5) 2 104 := ⟨by decide +kernel, rfl⟩
theorem dX8_again_104 : zD cX8_again 104 (.istore 5) 2 106 := ⟨by decide +kernel, rfl⟩
theorem dX8_again_106 : zD cX8_again 106 (.iinc 6 1) 3 109 := ⟨by decide +kernel, rfl⟩
theorem dX8_again_109 : zJ cX8_again 109 .goto 112 45 := ⟨-64, by decide +kernel, rfl, by decide⟩
theorem dX8_again_112 : zD cX8_again 112 (.iload 4) 2 114 := ⟨by decide +kernel, rfl⟩
theorem dX8_again_114 : zJ cX8_again 114 (.ifCond .ge) 117 122 := ⟨8, by decide +kernel, rfl, by decide⟩
theorem dX8_again_117 : zD cX8_again 117 (.bipush (-4)) 2 119 := ⟨by decide +kernel, rfl⟩
theorem dX8_again_119 : zJ cX8_again 119 .goto 122 135 := ⟨16, by decide +kernel, rfl, by decide⟩
theorem dX8_again_122 : zD cX8_again 122 (.iload_n 2) 1 123 := ⟨by decide +kernel, rfl⟩
theorem dX8_again_123 : zJ cX8_again 123 (.ifCond .ne) 126 131 := ⟨8, by decide +kernel, rfl, by decide⟩
theorem dX8_again_126 : zD cX8_again 126 (.iload 4) 2 128 := ⟨by decide +kernel, rfl⟩
theorem dX8_again_128 : zJ cX8_again 128 .goto 131 135 := ⟨7, by decide +kernel, rfl, by decide⟩
theorem dX8_again_131 : zD cX8_again 131 (.iload_n 3) 1 132 := ⟨by decide +kernel, rfl⟩
theorem dX8_again_132 : zD cX8_again 132 (.iload 5) 2 134 := ⟨by decide +kernel, rfl⟩
theorem dX8_again_134 : zD cX8_again 134 .isub 1 135 := ⟨by decide +kernel, rfl⟩
theorem dX8_again_135 : zD cX8_again 135 .ireturn 1 136 := ⟨by decide +kernel, rfl⟩
theorem dX8_game_0 : zD cX8_game 0 (.aload_n 0) 1 1 := ⟨by decide +kernel, rfl⟩
theorem dX8_game_1 : zD cX8_game 1 (.iload_n 1) 1 2 := ⟨by decide +kernel, rfl⟩
theorem dX8_game_2 : zD cX8_game 2 (.invokevirtual 196) 3 5 := ⟨by decide +kernel, rfl⟩
theorem dX8_game_5 : zJ cX8_game 5 (.ifCond .eq) 8 33 := ⟨28, by decide +kernel, rfl, by decide⟩
theorem dX8_game_8 : zD cX8_game 8 (.aload_n 0) 1 9 := ⟨by decide +kernel, rfl⟩
theorem dX8_game_9 : zD cX8_game 9 (.iload_n 2) 1 10 := ⟨by decide +kernel, rfl⟩
theorem dX8_game_10 : zD cX8_game 10 (.invokevirtual 196) 3 13 := ⟨by decide +kernel, rfl⟩
theorem dX8_game_13 : zJ cX8_game 13 (.ifCond .eq) 16 33 := ⟨20, by decide +kernel, rfl, by decide⟩
theorem dX8_game_16 : zD cX8_game 16 (.iload_n 1) 1 17 := ⟨by decide +kernel, rfl⟩
theorem dX8_game_17 : zD cX8_game 17 (.iload_n 2) 1 18 := ⟨by decide +kernel, rfl⟩
theorem dX8_game_18 : zJ cX8_game 18 (.if_icmp .eq) 21 33 := ⟨15, by decide +kernel, rfl, by decide⟩
theorem dX8_game_21 : zD cX8_game 21 (.iload_n 3) 1 22 := ⟨by decide +kernel, rfl⟩
theorem dX8_game_22 : zD cX8_game 22 .i2l 1 23 := ⟨by decide +kernel, rfl⟩
theorem dX8_game_23 : zD cX8_game 23 (.lconst 0) 1 24 := ⟨by decide +kernel, rfl⟩
theorem dX8_game_24 : zD cX8_game 24 (.ldc2_w 104) 3 27 := ⟨by decide +kernel, rfl⟩
theorem dX8_game_27 : zD cX8_game 27 (.invokestatic 83) 3 30 := ⟨by decide +kernel, rfl⟩
theorem dX8_game_30 : zJ cX8_game 30 (.ifCond .ne) 33 35 := ⟨5, by decide +kernel, rfl, by decide⟩
theorem dX8_game_33 : zD cX8_game 33 (.iconst (-1)) 1 34 := ⟨by decide +kernel, rfl⟩
theorem dX8_game_34 : zD cX8_game 34 .ireturn 1 35 := ⟨by decide +kernel, rfl⟩
theorem dX8_game_35 : zD cX8_game 35 (.aload_n 0) 1 36 := ⟨by decide +kernel, rfl⟩
theorem dX8_game_36 : zD cX8_game 36 (.invokevirtual 190) 3 39 := ⟨by decide +kernel, rfl⟩
theorem dX8_game_39 : zD cX8_game 39 (.aload_n 0) 1 40 := ⟨by decide +kernel, rfl⟩
theorem dX8_game_40 : zD cX8_game 40 (.iload_n 1) 1 41 := ⟨by decide +kernel, rfl⟩
theorem dX8_game_41 : zD cX8_game 41 (.putfield 133) 3 44 := ⟨by decide +kernel, rfl⟩
theorem dX8_game_44 : zD cX8_game 44 (.aload_n 0) 1 45 := ⟨by decide +kernel, rfl⟩
theorem dX8_game_45 : zD cX8_game 45 (.iload_n 2) 1 46 := ⟨by decide +kernel, rfl⟩
theorem dX8_game_46 : zD cX8_game 46 (.putfield 136) 3 49 := ⟨by decide +kernel, rfl⟩
theorem dX8_game_49 : zD cX8_game 49 (.iconst 0) 1 50 := ⟨by decide +kernel, rfl⟩
theorem dX8_game_50 : zD cX8_game 50 (.istore 4) 2 52 := ⟨by decide +kernel, rfl⟩
theorem dX8_game_52 : zD cX8_game 52 (.iload 4) 2 54 := ⟨by decide +kernel, rfl⟩
theorem dX8_game_54 : zD cX8_game 54 (.sipush 144) 3 57 := ⟨by decide +kernel, rfl⟩
theorem dX8_game_57 : zJ cX8_game 57 (.if_icmp .ge) 60 115 := ⟨58, by decide +kernel, rfl, by decide⟩
theorem dX8_game_60 : zD cX8_game 60 (.aload_n 0) 1 61 := ⟨by decide +kernel, rfl⟩
theorem dX8_game_61 : zD cX8_game 61 (.iload 4) 2 63 := ⟨by decide +kernel, rfl⟩
theorem dX8_game_63 : zD cX8_game 63 (.bipush 12) 2 65 := ⟨by decide +kernel, rfl⟩
theorem dX8_game_65 : zD cX8_game 65 .idiv 1 66 := ⟨by decide +kernel, rfl⟩
theorem dX8_game_66 : zD cX8_game 66 (.putfield 161) 3 69 := ⟨by decide +kernel, rfl⟩
theorem dX8_game_69 : zD cX8_game 69 (.aload_n 0) 1 70 := ⟨by decide +kernel, rfl⟩
theorem dX8_game_70 : zD cX8_game 70 (.iload 4) 2 72 := ⟨by decide +kernel, rfl⟩
theorem dX8_game_72 : zD cX8_game 72 (.bipush 12) 2 74 := ⟨by decide +kernel, rfl⟩
theorem dX8_game_74 : zD cX8_game 74 .irem 1 75 := ⟨by decide +kernel, rfl⟩
theorem dX8_game_75 : zD cX8_game 75 (.putfield 164) 3 78 := ⟨by decide +kernel, rfl⟩
theorem dX8_game_78 : zD cX8_game 78 (.aload_n 0) 1 79 := ⟨by decide +kernel, rfl⟩
theorem dX8_game_79 : zD cX8_game 79 (.sipush 199) 3 82 := ⟨by decide +kernel, rfl⟩
theorem dX8_game_82 : zD cX8_game 82 (.invokevirtual 193) 3 85 := ⟨by decide +kernel, rfl⟩
theorem dX8_game_85 : zD cX8_game 85 (.aload_n 0) 1 86 := ⟨by decide +kernel, rfl⟩
theorem dX8_game_86 : zD cX8_game 86 (.getfield 67) 3 89 := ⟨by decide +kernel, rfl⟩
theorem dX8_game_89 : zD cX8_game 89 (.iload 4) 2 91 := ⟨by decide +kernel, rfl⟩
theorem dX8_game_91 : zD cX8_game 91 (.aload_n 0) 1 92 := ⟨by decide +kernel, rfl⟩
theorem dX8_game_92 : zD cX8_game 92 (.iload_n 1) 1 93 := ⟨by decide +kernel, rfl⟩
theorem dX8_game_93 : zD cX8_game 93 (.invokevirtual 214) 3 96 := ⟨by decide +kernel, rfl⟩
theorem dX8_game_96 : zD cX8_game 96 .iastore 1 97 := ⟨by decide +kernel, rfl⟩
theorem dX8_game_97 : zD cX8_game 97 (.aload_n 0) 1 98 := ⟨by decide +kernel, rfl⟩
theorem dX8_game_98 : zD cX8_game 98 (.getfield 70) 3 101 := ⟨by decide +kernel, rfl⟩
theorem dX8_game_101 : zD cX8_game 101 (.iload 4) 2 103 := ⟨by decide +kernel, rfl⟩
theorem dX8_game_103 : zD cX8_game 103 (.aload_n 0) 1 104 := ⟨by decide +kernel, rfl⟩
theorem dX8_game_104 : zD cX8_game 104 (.iload_n 2) 1 105 := ⟨by decide +kernel, rfl⟩
theorem dX8_game_105 : zD cX8_game 105 (.invokevirtual 214) 3 108 := ⟨by decide +kernel, rfl⟩
theorem dX8_game_108 : zD cX8_game 108 .iastore 1 109 := ⟨by decide +kernel, rfl⟩
theorem dX8_game_109 : zD cX8_game 109 (.iinc 4 1) 3 112 := ⟨by decide +kernel, rfl⟩
theorem dX8_game_112 : zJ cX8_game 112 .goto 115 52 := ⟨-60, by decide +kernel, rfl, by decide⟩
theorem dX8_game_115 : zD cX8_game 115 (.iconst 0) 1 116 := ⟨by decide +kernel, rfl⟩
theorem dX8_game_116 : zD cX8_game 116 (.istore 4) 2 118 := ⟨by decide +kernel, rfl⟩
theorem dX8_game_118 : zD cX8_game 118 (.bipush (-4)) 2 120 := ⟨by decide +kernel, rfl⟩
theorem dX8_game_120 : zD cX8_game 120 (.istore 5) 2 122 := ⟨by decide +kernel, rfl⟩
theorem dX8_game_122 : zD cX8_game 122 (.sipush 143) 3 125 := ⟨by decide +kernel, rfl⟩
theorem dX8_game_125 : zD cX8_game 125 (.istore 6) 2 127 := ⟨by decide +kernel, rfl⟩
theorem dX8_game_127 : zD cX8_game 127 (.iload 6) 2 129 := ⟨by decide +kernel, rfl⟩
theorem dX8_game_129 : zJ cX8_game 129 (.ifCond .lt) 132 250 := ⟨121, by decide +kernel, rfl, by decide⟩
theorem dX8_game_132 : zD cX8_game 132 (.iconst 1) 1 133 := ⟨by decide +kernel, rfl⟩
theorem dX8_game_133 : zD cX8_game 133 (.istore 7) 2 135 := ⟨by decide +kernel, rfl⟩
theorem dX8_game_135 : zD cX8_game 135 (.iconst 0) 1 136 := ⟨by decide +kernel, rfl⟩
theorem dX8_game_136 : zD cX8_game 136 (.istore 8) 2 138 := ⟨by decide +kernel, rfl⟩
theorem dX8_game_138 : zD cX8_game 138 (.iload 8) 2 140 := ⟨by decide +kernel, rfl⟩
theorem dX8_game_140 : zD cX8_game 140 (.bipush 12) 2 142 := ⟨by decide +kernel, rfl⟩
theorem dX8_game_142 : zJ cX8_game 142 (.if_icmp .ge) 145 215 := ⟨73, by decide +kernel, rfl, by decide⟩
theorem dX8_game_145 : zD cX8_game 145 (.iload 7) 2 147 := ⟨by decide +kernel, rfl⟩
theorem dX8_game_147 : zJ cX8_game 147 (.ifCond .eq) 150 206 := ⟨59, by decide +kernel, rfl, by decide⟩
theorem dX8_game_150 : zD cX8_game 150 (.aload_n 0) 1 151 := ⟨by decide +kernel, rfl⟩
theorem dX8_game_151 : zD cX8_game 151 (.getfield 67) 3 154 := ⟨by decide +kernel, rfl⟩
theorem dX8_game_154 : zD cX8_game 154 (.bipush 12) 2 156 := ⟨by decide +kernel, rfl⟩
theorem dX8_game_156 : zD cX8_game 156 (.iload 8) 2 158 := ⟨by decide +kernel, rfl⟩
theorem dX8_game_158 : zD cX8_game 158 .imul 1 159 := ⟨by decide +kernel, rfl⟩
theorem dX8_game_159 : zD cX8_game 159 (.iload 6) 2 161 := ⟨by decide +kernel, rfl⟩
theorem dX8_game_161 : zD cX8_game 161 (.bipush 12) 2 163 := ⟨by decide +kernel, rfl⟩
theorem dX8_game_163 : zD cX8_game 163 .irem 1 164 := ⟨by decide +kernel, rfl⟩
theorem dX8_game_164 : zD cX8_game 164 .iadd 1 165 := ⟨by decide +kernel, rfl⟩
theorem dX8_game_165 : zD cX8_game 165 .iaload 1 166 := ⟨by decide +kernel, rfl⟩
theorem dX8_game_166 : zD cX8_game 166 (.aload_n 0) 1 167 := ⟨by decide +kernel, rfl⟩
theorem dX8_game_167 : zD cX8_game 167 (.getfield 67) 3 170 := ⟨by decide +kernel, rfl⟩
theorem dX8_game_170 : zD cX8_game 170 (.iload 6) 2 172 := ⟨by decide +kernel, rfl⟩
theorem dX8_game_172 : zD cX8_game 172 .iaload 1 173 := ⟨by decide +kernel, rfl⟩
theorem dX8_game_173 : zJ cX8_game 173 (.if_icmp .lt) 176 206 := ⟨33, by decide +kernel, rfl, by decide⟩
theorem dX8_game_176 : zD cX8_game 176 (.aload_n 0) 1 177 := ⟨by decide +kernel, rfl⟩
theorem dX8_game_177 : zD cX8_game 177 (.getfield 70) 3 180 := ⟨by decide +kernel, rfl⟩
theorem dX8_game_180 : zD cX8_game 180 (.iload 6) 2 182 := ⟨by decide +kernel, rfl⟩
theorem dX8_game_182 : zD cX8_game 182 (.bipush 12) 2 184 := ⟨by decide +kernel, rfl⟩
theorem dX8_game_184 : zD cX8_game 184 .idiv 1 185 := ⟨by decide +kernel, rfl⟩
theorem dX8_game_185 : zD cX8_game 185 (.bipush 12) 2 187 := ⟨by decide +kernel, rfl⟩
theorem dX8_game_187 : zD cX8_game 187 .imul 1 188 := ⟨by decide +kernel, rfl⟩
theorem dX8_game_188 : zD cX8_game 188 (.iload 8) 2 190 := ⟨by decide +kernel, rfl⟩
theorem dX8_game_190 : zD cX8_game 190 .iadd 1 191 := ⟨by decide +kernel, rfl⟩
theorem dX8_game_191 : zD cX8_game 191 .iaload 1 192 := ⟨by decide +kernel, rfl⟩
theorem dX8_game_192 : zD cX8_game 192 (.aload_n 0) 1 193 := ⟨by decide +kernel, rfl⟩
theorem dX8_game_193 : zD cX8_game 193 (.getfield 70) 3 196 := ⟨by decide +kernel, rfl⟩
theorem dX8_game_196 : zD cX8_game 196 (.iload 6) 2 198 := ⟨by decide +kernel, rfl⟩
theorem dX8_game_198 : zD cX8_game 198 .iaload 1 199 := ⟨by decide +kernel, rfl⟩
theorem dX8_game_199 : zJ cX8_game 199 (.if_icmp .lt) 202 206 := ⟨7, by decide +kernel, rfl, by decide⟩
theorem dX8_game_202 : zD cX8_game 202 (.iconst 1) 1 203 := ⟨by decide +kernel, rfl⟩
theorem dX8_game_203 : zJ cX8_game 203 .goto 206 207 := ⟨4, by decide +kernel, rfl, by decide⟩
theorem dX8_game_206 : zD cX8_game 206 (.iconst 0) 1 207 := ⟨by decide +kernel, rfl⟩
theorem dX8_game_207 : zD cX8_game 207 (.istore 7) 2 209 := ⟨by decide +kernel, rfl⟩
theorem dX8_game_209 : zD cX8_game 209 (.iinc 8 1) 3 212 := ⟨by decide +kernel, rfl⟩
theorem dX8_game_212 : zJ cX8_game 212 .goto 215 138 := ⟨-74, by decide +kernel, rfl, by decide⟩
theorem dX8_game_215 : zD cX8_game 215 (.iload 4) 2 217 := ⟨by decide +kernel, rfl⟩
theorem dX8_game_217 : zD cX8_game 217 (.iload 7) 2 219 := ⟨by decide +kernel, rfl⟩
theorem dX8_game_219 : zJ cX8_game 219 (.ifCond .eq) 222 226 := ⟨7, by decide +kernel, rfl, by decide⟩
theorem dX8_game_222 : zD cX8_game 222 (.iconst 1) 1 223 := ⟨by decide +kernel, rfl⟩
theorem dX8_game_223 : zJ cX8_game 223 .goto 226 227 := ⟨4, by decide +kernel, rfl, by decide⟩
theorem dX8_game_226 : zD cX8_game 226 (.iconst 0) 1 227 := ⟨by decide +kernel, rfl⟩
theorem dX8_game_227 : zD cX8_game 227 .iadd 1 228 := ⟨by decide +kernel, rfl⟩
theorem dX8_game_228 : zD cX8_game 228 (.istore 4) 2 230 := ⟨by decide +kernel, rfl⟩
theorem dX8_game_230 : zD cX8_game 230 (.iload 7) 2 232 := ⟨by decide +kernel, rfl⟩
theorem dX8_game_232 : zJ cX8_game 232 (.ifCond .eq) 235 240 := ⟨8, by decide +kernel, rfl, by decide⟩
theorem dX8_game_235 : zD cX8_game 235 (.iload 6) 2 237 := ⟨by decide +kernel, rfl⟩
theorem dX8_game_237 : zJ cX8_game 237 .goto 240 242 := ⟨5, by decide +kernel, rfl, by decide⟩
theorem dX8_game_240 : zD cX8_game 240 (.iload 5) 2 242 := ⟨by decide +kernel, rfl⟩
theorem dX8_game_242 : zD cX8_game 242 (.istore 5) 2 244 := ⟨by decide +kernel, rfl⟩
theorem dX8_game_244 : zD cX8_game 244 (.iinc 6 (-1)) 3 247 := ⟨by decide +kernel, rfl⟩
theorem dX8_game_247 : zJ cX8_game 247 .goto 250 127 := ⟨-120, by decide +kernel, rfl, by decide⟩
theorem dX8_game_250 : zD cX8_game 250 (.iload_n 3) 1 251 := ⟨by decide +kernel, rfl⟩
theorem dX8_game_251 : zJ cX8_game 251 (.ifCond .ne) 254 259 := ⟨8, by decide +kernel, rfl, by decide⟩
theorem dX8_game_254 : zD cX8_game 254 (.iload 4) 2 256 := ⟨by decide +kernel, rfl⟩
theorem dX8_game_256 : zJ cX8_game 256 .goto 259 287 := ⟨31, by decide +kernel, rfl, by decide⟩
theorem dX8_game_259 : zD cX8_game 259 (.iload 5) 2 261 := ⟨by decide +kernel, rfl⟩
theorem dX8_game_261 : zJ cX8_game 261 (.ifCond .ge) 264 269 := ⟨8, by decide +kernel, rfl, by decide⟩
theorem dX8_game_264 : zD cX8_game 264 (.bipush (-4)) 2 266 := ⟨by decide +kernel, rfl⟩
theorem dX8_game_266 : zJ cX8_game 266 .goto 269 287 := ⟨21, by decide +kernel, rfl, by decide⟩
theorem dX8_game_269 : zD cX8_game 269 (.iload_n 3) 1 270 := ⟨by decide +kernel, rfl⟩
theorem dX8_game_270 : zD cX8_game 270 (.iconst 1) 1 271 := ⟨by decide +kernel, rfl⟩
theorem dX8_game_271 : zJ cX8_game 271 (.if_icmp .ne) 274 282 := ⟨11, by decide +kernel, rfl, by decide⟩
theorem dX8_game_274 : zD cX8_game 274 (.iload 5) 2 276 := ⟨by decide +kernel, rfl⟩
theorem dX8_game_276 : zD cX8_game 276 (.bipush 12) 2 278 := ⟨by decide +kernel, rfl⟩
theorem dX8_game_278 : zD cX8_game 278 .idiv 1 279 := ⟨by decide +kernel, rfl⟩
theorem dX8_game_279 : zJ cX8_game 279 .goto 282 287 := ⟨8, by decide +kernel, rfl, by decide⟩
theorem dX8_game_282 : zD cX8_game 282 (.iload 5) 2 284 := ⟨by decide +kernel, rfl⟩
theorem dX8_game_284 : zD cX8_game 284 (.bipush 12) 2 286 := ⟨by decide +kernel, rfl⟩
theorem dX8_game_286 : zD cX8_game 286 .irem 1 287 := ⟨by decide +kernel, rfl⟩
theorem dX8_game_287 : zD cX8_game 287 .ireturn 1 288 := ⟨by decide +kernel, rfl⟩
theorem dX8_unfairBy_0 : zD cX8_unfairBy 0 (.aload_n 0) 1 1 := ⟨by decide +kernel, rfl⟩
theorem dX8_unfairBy_1 : zD cX8_unfairBy 1 (.invokevirtual 190) 3 4 := ⟨by decide +kernel, rfl⟩
theorem dX8_unfairBy_4 : zD cX8_unfairBy 4 (.aload_n 0) 1 5 := ⟨by decide +kernel, rfl⟩
theorem dX8_unfairBy_5 : zD cX8_unfairBy 5 (.iload_n 1) 1 6 := ⟨by decide +kernel, rfl⟩
theorem dX8_unfairBy_6 : zD cX8_unfairBy 6 (.putfield 139) 3 9 := ⟨by decide +kernel, rfl⟩
theorem dX8_unfairBy_9 : zD cX8_unfairBy 9 (.aload_n 0) 1 10 := ⟨by decide +kernel, rfl⟩
theorem dX8_unfairBy_10 : zD cX8_unfairBy 10 (.sipush 199) 3 13 := ⟨by decide +kernel, rfl⟩
theorem dX8_unfairBy_13 : zD cX8_unfairBy 13 (.invokevirtual 193) 3 16 := ⟨by decide +kernel, rfl⟩
theorem dX8_unfairBy_16 : zD cX8_unfairBy 16 (.aload_n 0) 1 17 := ⟨by decide +kernel, rfl⟩
theorem dX8_unfairBy_17 : zD cX8_unfairBy 17 (.invokevirtual 211) 3 20 := ⟨by decide +kernel, rfl⟩
theorem dX8_unfairBy_20 : zD cX8_unfairBy 20 .ireturn 1 21 := ⟨by decide +kernel, rfl⟩
theorem dX8_laws_0 : zD cX8_laws 0 (.iload_n 1) 1 1 := ⟨by decide +kernel, rfl⟩
theorem dX8_laws_1 : zD cX8_laws 1 .i2l 1 2 := ⟨by decide +kernel, rfl⟩
theorem dX8_laws_2 : zD cX8_laws 2 (.ldc2_w 225) 3 5 := ⟨by decide +kernel, rfl⟩
theorem dX8_laws_5 : zD cX8_laws 5 (.ldc2_w 227) 3 8 := ⟨by decide +kernel, rfl⟩
theorem dX8_laws_8 : zD cX8_laws 8 (.invokestatic 83) 3 11 := ⟨by decide +kernel, rfl⟩
theorem dX8_laws_11 : zJ cX8_laws 11 (.ifCond .ne) 14 16 := ⟨5, by decide +kernel, rfl, by decide⟩
theorem dX8_laws_14 : zD cX8_laws 14 (.iconst (-1)) 1 15 := ⟨by decide +kernel, rfl⟩
theorem dX8_laws_15 : zD cX8_laws 15 .ireturn 1 16 := ⟨by decide +kernel, rfl⟩
theorem dX8_laws_16 : zD cX8_laws 16 (.iload_n 1) 1 17 := ⟨by decide +kernel, rfl⟩
theorem dX8_laws_17 : zJ cX8_laws 17 (.ifCond .lt) 20 26 := ⟨9, by decide +kernel, rfl, by decide⟩
theorem dX8_laws_20 : zD cX8_laws 20 (.aload_n 0) 1 21 := ⟨by decide +kernel, rfl⟩
theorem dX8_laws_21 : zD cX8_laws 21 (.iload_n 1) 1 22 := ⟨by decide +kernel, rfl⟩
theorem dX8_laws_22 : zD cX8_laws 22 (.invokevirtual 229) 3 25 := ⟨by decide +kernel, rfl⟩
theorem dX8_laws_25 : zD cX8_laws 25 .ireturn 1 26 := ⟨by decide +kernel, rfl⟩
theorem dX8_laws_26 : zD cX8_laws 26 (.iconst 0) 1 27 := ⟨by decide +kernel, rfl⟩
theorem dX8_laws_27 : zD cX8_laws 27 (.istore_n 2) 1 28 := ⟨by decide +kernel, rfl⟩
theorem dX8_laws_28 : zD cX8_laws 28 (.aload_n 0) 1 29 := ⟨by decide +kernel, rfl⟩
theorem dX8_laws_29 : zD cX8_laws 29 (.iconst 0) 1 30 := ⟨by decide +kernel, rfl⟩
theorem dX8_laws_30 : zD cX8_laws 30 (.invokevirtual 229) 3 33 := ⟨by decide +kernel, rfl⟩
theorem dX8_laws_33 : zD cX8_laws 33 (.istore_n 3) 1 34 := ⟨by decide +kernel, rfl⟩
theorem dX8_laws_34 : zD cX8_laws 34 (.iconst 1) 1 35 := ⟨by decide +kernel, rfl⟩
theorem dX8_laws_35 : zD cX8_laws 35 (.istore 4) 2 37 := ⟨by decide +kernel, rfl⟩
theorem dX8_laws_37 : zD cX8_laws 37 (.iload 4) 2 39 := ⟨by decide +kernel, rfl⟩
theorem dX8_laws_39 : zD cX8_laws 39 (.iconst 4) 1 40 := ⟨by decide +kernel, rfl⟩
theorem dX8_laws_40 : zJ cX8_laws 40 (.if_icmp .ge) 43 83 := ⟨43, by decide +kernel, rfl, by decide⟩
theorem dX8_laws_43 : zD cX8_laws 43 (.aload_n 0) 1 44 := ⟨by decide +kernel, rfl⟩
theorem dX8_laws_44 : zD cX8_laws 44 (.iload 4) 2 46 := ⟨by decide +kernel, rfl⟩
theorem dX8_laws_46 : zD cX8_laws 46 (.invokevirtual 229) 3 49 := ⟨by decide +kernel, rfl⟩
theorem dX8_laws_49 : zD cX8_laws 49 (.istore 5) 2 51 := ⟨by decide +kernel, rfl⟩
theorem dX8_laws_51 : zD cX8_laws 51 (.iload 5) 2 53 := ⟨by decide +kernel, rfl⟩
theorem dX8_laws_53 : zD cX8_laws 53 (.iload_n 3) 1 54 := ⟨by decide +kernel, rfl⟩
theorem dX8_laws_54 : zJ cX8_laws 54 (.if_icmp .ge) 57 62 := ⟨8, by decide +kernel, rfl, by decide⟩
theorem dX8_laws_57 : zD cX8_laws 57 (.iload 4) 2 59 := ⟨by decide +kernel, rfl⟩
theorem dX8_laws_59 : zJ cX8_laws 59 .goto 62 63 := ⟨4, by decide +kernel, rfl, by decide⟩
theorem dX8_laws_62 : zD cX8_laws 62 (.iload_n 2) 1 63 := ⟨by decide +kernel, rfl⟩
theorem dX8_laws_63 : zD cX8_laws 63 (.istore_n 2) 1 64 := ⟨by decide +kernel, rfl⟩
theorem dX8_laws_64 : zD cX8_laws 64 (.iload 5) 2 66 := ⟨by decide +kernel, rfl⟩
theorem dX8_laws_66 : zD cX8_laws 66 (.iload_n 3) 1 67 := ⟨by decide +kernel, rfl⟩
theorem dX8_laws_67 : zJ cX8_laws 67 (.if_icmp .ge) 70 75 := ⟨8, by decide +kernel, rfl, by decide⟩
theorem dX8_laws_70 : zD cX8_laws 70 (.iload 5) 2 72 := ⟨by decide +kernel, rfl⟩
theorem dX8_laws_72 : zJ cX8_laws 72 .goto 75 76 := ⟨4, by decide +kernel, rfl, by decide⟩
theorem dX8_laws_75 : zD cX8_laws 75 (.iload_n 3) 1 76 := ⟨by decide +kernel, rfl⟩
theorem dX8_laws_76 : zD cX8_laws 76 (.istore_n 3) 1 77 := ⟨by decide +kernel, rfl⟩
theorem dX8_laws_77 : zD cX8_laws 77 (.iinc 4 1) 3 80 := ⟨by decide +kernel, rfl⟩
theorem dX8_laws_80 : zJ cX8_laws 80 .goto 83 37 := ⟨-43, by decide +kernel, rfl, by decide⟩
theorem dX8_laws_83 : zD cX8_laws 83 (.iload_n 2) 1 84 := ⟨by decide +kernel, rfl⟩
theorem dX8_laws_84 : zD cX8_laws 84 .ireturn 1 85 := ⟨by decide +kernel, rfl⟩
theorem dX8_tens_0 : zD cX8_tens 0 (.lconst 1) 1 1 := ⟨by decide +kernel, rfl⟩
theorem dX8_tens_1 : zD cX8_tens 1 (.lstore_n 1) 1 2 := ⟨by decide +kernel, rfl⟩
theorem dX8_tens_2 : zD cX8_tens 2 (.iconst 0) 1 3 := ⟨by decide +kernel, rfl⟩
theorem dX8_tens_3 : zD cX8_tens 3 (.istore_n 3) 1 4 := ⟨by decide +kernel, rfl⟩
theorem dX8_tens_4 : zD cX8_tens 4 (.iload_n 3) 1 5 := ⟨by decide +kernel, rfl⟩
theorem dX8_tens_5 : zD cX8_tens 5 (.iload_n 0) 1 6 := ⟨by decide +kernel, rfl⟩
theorem dX8_tens_6 : zJ cX8_tens 6 (.if_icmp .ge) 9 21 := ⟨15, by decide +kernel, rfl, by decide⟩
theorem dX8_tens_9 : zD cX8_tens 9 (.lload_n 1) 1 10 := ⟨by decide +kernel, rfl⟩
theorem dX8_tens_10 : zD cX8_tens 10 (.ldc2_w 232) 3 13 := ⟨by decide +kernel, rfl⟩
theorem dX8_tens_13 : zD cX8_tens 13 .lmul 1 14 := ⟨by decide +kernel, rfl⟩
theorem dX8_tens_14 : zD cX8_tens 14 (.lstore_n 1) 1 15 := ⟨by decide +kernel, rfl⟩
theorem dX8_tens_15 : zD cX8_tens 15 (.iinc 3 1) 3 18 := ⟨by decide +kernel, rfl⟩
theorem dX8_tens_18 : zJ cX8_tens 18 .goto 21 4 := ⟨-14, by decide +kernel, rfl, by decide⟩
theorem dX8_tens_21 : zD cX8_tens 21 (.lload_n 1) 1 22 := ⟨by decide +kernel, rfl⟩
theorem dX8_tens_22 : zD cX8_tens 22 .lreturn 1 23 := ⟨by decide +kernel, rfl⟩
theorem dX8_behindOf_0 : zD cX8_behindOf 0 (.iload_n 2) 1 1 := ⟨by decide +kernel, rfl⟩
theorem dX8_behindOf_1 : zJ cX8_behindOf 1 (.ifCond .ne) 4 19 := ⟨18, by decide +kernel, rfl, by decide⟩
theorem dX8_behindOf_4 : zD cX8_behindOf 4 (.iload_n 3) 1 5 := ⟨by decide +kernel, rfl⟩
theorem dX8_behindOf_5 : zJ cX8_behindOf 5 (.ifCond .ge) 8 12 := ⟨7, by decide +kernel, rfl, by decide⟩
theorem dX8_behindOf_8 : zD cX8_behindOf 8 (.lconst 0) 1 9 := ⟨by decide +kernel, rfl⟩
theorem dX8_behindOf_9 : zJ cX8_behindOf 9 .goto 12 18 := ⟨9, by decide +kernel, rfl, by decide⟩
theorem dX8_behindOf_12 : zD cX8_behindOf 12 (.iload_n 1) 1 13 := ⟨by decide +kernel, rfl⟩
theorem dX8_behindOf_13 : zD cX8_behindOf 13 (.iconst 1) 1 14 := ⟨by decide +kernel, rfl⟩
theorem dX8_behindOf_14 : zD cX8_behindOf 14 .isub 1 15 := ⟨by decide +kernel, rfl⟩
theorem dX8_behindOf_15 : zD cX8_behindOf 15 (.invokestatic 234) 3 18 := ⟨by decide +kernel, rfl⟩
theorem dX8_behindOf_18 : zD cX8_behindOf 18 .lreturn 1 19 := ⟨by decide +kernel, rfl⟩
theorem dX8_behindOf_19 : zD cX8_behindOf 19 (.aload_n 0) 1 20 := ⟨by decide +kernel, rfl⟩
theorem dX8_behindOf_20 : zD cX8_behindOf 20 (.getfield 73) 3 23 := ⟨by decide +kernel, rfl⟩
theorem dX8_behindOf_23 : zD cX8_behindOf 23 (.bipush 10) 2 25 := ⟨by decide +kernel, rfl⟩
theorem dX8_behindOf_25 : zD cX8_behindOf 25 (.iload_n 1) 1 26 := ⟨by decide +kernel, rfl⟩
theorem dX8_behindOf_26 : zD cX8_behindOf 26 (.iconst 1) 1 27 := ⟨by decide +kernel, rfl⟩
theorem dX8_behindOf_27 : zD cX8_behindOf 27 .isub 1 28 := ⟨by decide +kernel, rfl⟩
theorem dX8_behindOf_28 : zD cX8_behindOf 28 .imul 1 29 := ⟨by decide +kernel, rfl⟩
theorem dX8_behindOf_29 : zD cX8_behindOf 29 (.iload_n 2) 1 30 := ⟨by decide +kernel, rfl⟩
theorem dX8_behindOf_30 : zD cX8_behindOf 30 .iadd 1 31 := ⟨by decide +kernel, rfl⟩
theorem dX8_behindOf_31 : zD cX8_behindOf 31 (.iconst 1) 1 32 := ⟨by decide +kernel, rfl⟩
theorem dX8_behindOf_32 : zD cX8_behindOf 32 .isub 1 33 := ⟨by decide +kernel, rfl⟩
theorem dX8_behindOf_33 : zD cX8_behindOf 33 .laload 1 34 := ⟨by decide +kernel, rfl⟩
theorem dX8_behindOf_34 : zD cX8_behindOf 34 (.iload_n 3) 1 35 := ⟨by decide +kernel, rfl⟩
theorem dX8_behindOf_35 : zJ cX8_behindOf 35 (.ifCond .ge) 38 47 := ⟨12, by decide +kernel, rfl, by decide⟩
theorem dX8_behindOf_38 : zD cX8_behindOf 38 (.iload_n 1) 1 39 := ⟨by decide +kernel, rfl⟩
theorem dX8_behindOf_39 : zD cX8_behindOf 39 (.iconst 1) 1 40 := ⟨by decide +kernel, rfl⟩
theorem dX8_behindOf_40 : zD cX8_behindOf 40 .isub 1 41 := ⟨by decide +kernel, rfl⟩
theorem dX8_behindOf_41 : zD cX8_behindOf 41 (.invokestatic 234) 3 44 := ⟨by decide +kernel, rfl⟩
theorem dX8_behindOf_44 : zJ cX8_behindOf 44 .goto 47 48 := ⟨4, by decide +kernel, rfl, by decide⟩
theorem dX8_behindOf_47 : zD cX8_behindOf 47 (.lconst 0) 1 48 := ⟨by decide +kernel, rfl⟩
theorem dX8_behindOf_48 : zD cX8_behindOf 48 .ladd 1 49 := ⟨by decide +kernel, rfl⟩
theorem dX8_behindOf_49 : zD cX8_behindOf 49 .lreturn 1 50 := ⟨by decide +kernel, rfl⟩
theorem dX8_layMeans_0 : zD cX8_layMeans 0 (.iconst 1) 1 1 := ⟨by decide +kernel, rfl⟩
theorem dX8_layMeans_1 : zD cX8_layMeans 1 (.istore_n 3) 1 2 := ⟨by decide +kernel, rfl⟩
theorem dX8_layMeans_2 : zD cX8_layMeans 2 (.iload_n 3) 1 3 := ⟨by decide +kernel, rfl⟩
theorem dX8_layMeans_3 : zD cX8_layMeans 3 (.iload_n 1) 1 4 := ⟨by decide +kernel, rfl⟩
theorem dX8_layMeans_4 : zJ cX8_layMeans 4 (.if_icmp .gt) 7 72 := ⟨68, by decide +kernel, rfl, by decide⟩
theorem dX8_layMeans_7 : zD cX8_layMeans 7 (.iconst 0) 1 8 := ⟨by decide +kernel, rfl⟩
theorem dX8_layMeans_8 : zD cX8_layMeans 8 (.istore 4) 2 10 := ⟨by decide +kernel, rfl⟩
theorem dX8_layMeans_10 : zD cX8_layMeans 10 (.iload 4) 2 12 := ⟨by decide +kernel, rfl⟩
theorem dX8_layMeans_12 : zD cX8_layMeans 12 (.iload_n 3) 1 13 := ⟨by decide +kernel, rfl⟩
theorem dX8_layMeans_13 : zJ cX8_layMeans 13 (.if_icmp .ge) 16 66 := ⟨53, by decide +kernel, rfl, by decide⟩
theorem dX8_layMeans_16 : zD cX8_layMeans 16 (.aload_n 0) 1 17 := ⟨by decide +kernel, rfl⟩
theorem dX8_layMeans_17 : zD cX8_layMeans 17 (.getfield 73) 3 20 := ⟨by decide +kernel, rfl⟩
theorem dX8_layMeans_20 : zD cX8_layMeans 20 (.bipush 10) 2 22 := ⟨by decide +kernel, rfl⟩
theorem dX8_layMeans_22 : zD cX8_layMeans 22 (.iload_n 3) 1 23 := ⟨by decide +kernel, rfl⟩
theorem dX8_layMeans_23 : zD cX8_layMeans 23 .imul 1 24 := ⟨by decide +kernel, rfl⟩
theorem dX8_layMeans_24 : zD cX8_layMeans 24 (.iload 4) 2 26 := ⟨by decide +kernel, rfl⟩
theorem dX8_layMeans_26 : zD cX8_layMeans 26 .iadd 1 27 := ⟨by decide +kernel, rfl⟩
theorem dX8_layMeans_27 : zD cX8_layMeans 27 (.iload_n 2) 1 28 := ⟨by decide +kernel, rfl⟩
theorem dX8_layMeans_28 : zD cX8_layMeans 28 .i2l 1 29 := ⟨by decide +kernel, rfl⟩
theorem dX8_layMeans_29 : zD cX8_layMeans 29 (.aload_n 0) 1 30 := ⟨by decide +kernel, rfl⟩
theorem dX8_layMeans_30 : zD cX8_layMeans 30 (.iload_n 3) 1 31 := ⟨by decide +kernel, rfl⟩
theorem dX8_layMeans_31 : zD cX8_layMeans 31 (.iload_n 3) 1 32 := ⟨by decide +kernel, rfl⟩
theorem dX8_layMeans_32 : zD cX8_layMeans 32 (.iconst 1) 1 33 := ⟨by decide +kernel, rfl⟩
theorem dX8_layMeans_33 : zD cX8_layMeans 33 .isub 1 34 := ⟨by decide +kernel, rfl⟩
theorem dX8_layMeans_34 : zD cX8_layMeans 34 (.iload 4) 2 36 := ⟨by decide +kernel, rfl⟩
theorem dX8_layMeans_36 : zD cX8_layMeans 36 .isub 1 37 := ⟨by decide +kernel, rfl⟩
theorem dX8_layMeans_37 : zD cX8_layMeans 37 (.bipush (-4)) 2 39 := ⟨by decide +kernel, rfl⟩
theorem dX8_layMeans_39 : zD cX8_layMeans 39 (.invokevirtual 238) 3 42 := ⟨by decide +kernel, rfl⟩
theorem dX8_layMeans_42 : zD cX8_layMeans 42 .lmul 1 43 := ⟨by decide +kernel, rfl⟩
theorem dX8_layMeans_43 : zD cX8_layMeans 43 (.bipush 10) 2 45 := ⟨by decide +kernel, rfl⟩
theorem dX8_layMeans_45 : zD cX8_layMeans 45 (.iload_n 2) 1 46 := ⟨by decide +kernel, rfl⟩
theorem dX8_layMeans_46 : zD cX8_layMeans 46 .isub 1 47 := ⟨by decide +kernel, rfl⟩
theorem dX8_layMeans_47 : zD cX8_layMeans 47 .i2l 1 48 := ⟨by decide +kernel, rfl⟩
theorem dX8_layMeans_48 : zD cX8_layMeans 48 (.aload_n 0) 1 49 := ⟨by decide +kernel, rfl⟩
theorem dX8_layMeans_49 : zD cX8_layMeans 49 (.iload_n 3) 1 50 := ⟨by decide +kernel, rfl⟩
theorem dX8_layMeans_50 : zD cX8_layMeans 50 (.iload 4) 2 52 := ⟨by decide +kernel, rfl⟩
theorem dX8_layMeans_52 : zD cX8_layMeans 52 (.bipush (-4)) 2 54 := ⟨by decide +kernel, rfl⟩
theorem dX8_layMeans_54 : zD cX8_layMeans 54 (.invokevirtual 238) 3 57 := ⟨by decide +kernel, rfl⟩
theorem dX8_layMeans_57 : zD cX8_layMeans 57 .lmul 1 58 := ⟨by decide +kernel, rfl⟩
theorem dX8_layMeans_58 : zD cX8_layMeans 58 .ladd 1 59 := ⟨by decide +kernel, rfl⟩
theorem dX8_layMeans_59 : zD cX8_layMeans 59 .lastore 1 60 := ⟨by decide +kernel, rfl⟩
theorem dX8_layMeans_60 : zD cX8_layMeans 60 (.iinc 4 1) 3 63 := ⟨by decide +kernel, rfl⟩
theorem dX8_layMeans_63 : zJ cX8_layMeans 63 .goto 66 10 := ⟨-53, by decide +kernel, rfl, by decide⟩
theorem dX8_layMeans_66 : zD cX8_layMeans 66 (.iinc 3 1) 3 69 := ⟨by decide +kernel, rfl⟩
theorem dX8_layMeans_69 : zJ cX8_layMeans 69 .goto 72 2 := ⟨-67, by decide +kernel, rfl, by decide⟩
theorem dX8_layMeans_72 : zD cX8_layMeans 72 .return_ 1 73 := ⟨by decide +kernel, rfl⟩
theorem dX8_layBy_0 : zD cX8_layBy 0 (.iconst 1) 1 1 := ⟨by decide +kernel, rfl⟩
theorem dX8_layBy_1 : zD cX8_layBy 1 (.istore 4) 2 3 := ⟨by decide +kernel, rfl⟩
theorem dX8_layBy_3 : zD cX8_layBy 3 (.iload 4) 2 5 := ⟨by decide +kernel, rfl⟩
theorem dX8_layBy_5 : zD cX8_layBy 5 (.iload_n 1) 1 6 := ⟨by decide +kernel, rfl⟩
theorem dX8_layBy_6 : zJ cX8_layBy 6 (.if_icmp .gt) 9 96 := ⟨90, by decide +kernel, rfl, by decide⟩
theorem dX8_layBy_9 : zD cX8_layBy 9 (.iload_n 3) 1 10 := ⟨by decide +kernel, rfl⟩
theorem dX8_layBy_10 : zD cX8_layBy 10 (.iload_n 1) 1 11 := ⟨by decide +kernel, rfl⟩
theorem dX8_layBy_11 : zD cX8_layBy 11 (.iload 4) 2 13 := ⟨by decide +kernel, rfl⟩
theorem dX8_layBy_13 : zD cX8_layBy 13 .isub 1 14 := ⟨by decide +kernel, rfl⟩
theorem dX8_layBy_14 : zD cX8_layBy 14 .isub 1 15 := ⟨by decide +kernel, rfl⟩
theorem dX8_layBy_15 : zD cX8_layBy 15 (.istore 5) 2 17 := ⟨by decide +kernel, rfl⟩
theorem dX8_layBy_17 : zD cX8_layBy 17 (.iconst 0) 1 18 := ⟨by decide +kernel, rfl⟩
theorem dX8_layBy_18 : zD cX8_layBy 18 (.istore 6) 2 20 := ⟨by decide +kernel, rfl⟩
theorem dX8_layBy_20 : zD cX8_layBy 20 (.iload 6) 2 22 := ⟨by decide +kernel, rfl⟩
theorem dX8_layBy_22 : zD cX8_layBy 22 (.iload 4) 2 24 := ⟨by decide +kernel, rfl⟩
theorem dX8_layBy_24 : zJ cX8_layBy 24 (.if_icmp .ge) 27 90 := ⟨66, by decide +kernel, rfl, by decide⟩
theorem dX8_layBy_27 : zD cX8_layBy 27 (.aload_n 0) 1 28 := ⟨by decide +kernel, rfl⟩
theorem dX8_layBy_28 : zD cX8_layBy 28 (.getfield 73) 3 31 := ⟨by decide +kernel, rfl⟩
theorem dX8_layBy_31 : zD cX8_layBy 31 (.bipush 10) 2 33 := ⟨by decide +kernel, rfl⟩
theorem dX8_layBy_33 : zD cX8_layBy 33 (.iload 4) 2 35 := ⟨by decide +kernel, rfl⟩
theorem dX8_layBy_35 : zD cX8_layBy 35 .imul 1 36 := ⟨by decide +kernel, rfl⟩
theorem dX8_layBy_36 : zD cX8_layBy 36 (.iload 6) 2 38 := ⟨by decide +kernel, rfl⟩
theorem dX8_layBy_38 : zD cX8_layBy 38 .iadd 1 39 := ⟨by decide +kernel, rfl⟩
theorem dX8_layBy_39 : zD cX8_layBy 39 (.iload 5) 2 41 := ⟨by decide +kernel, rfl⟩
theorem dX8_layBy_41 : zJ cX8_layBy 41 (.ifCond .ge) 44 48 := ⟨7, by decide +kernel, rfl, by decide⟩
theorem dX8_layBy_44 : zD cX8_layBy 44 (.lconst 0) 1 45 := ⟨by decide +kernel, rfl⟩
theorem dX8_layBy_45 : zJ cX8_layBy 45 .goto 48 83 := ⟨38, by decide +kernel, rfl, by decide⟩
theorem dX8_layBy_48 : zD cX8_layBy 48 (.iload_n 2) 1 49 := ⟨by decide +kernel, rfl⟩
theorem dX8_layBy_49 : zD cX8_layBy 49 .i2l 1 50 := ⟨by decide +kernel, rfl⟩
theorem dX8_layBy_50 : zD cX8_layBy 50 (.aload_n 0) 1 51 := ⟨by decide +kernel, rfl⟩
theorem dX8_layBy_51 : zD cX8_layBy 51 (.iload 4) 2 53 := ⟨by decide +kernel, rfl⟩
theorem dX8_layBy_53 : zD cX8_layBy 53 (.iload 4) 2 55 := ⟨by decide +kernel, rfl⟩
theorem dX8_layBy_55 : zD cX8_layBy 55 (.iconst 1) 1 56 := ⟨by decide +kernel, rfl⟩
theorem dX8_layBy_56 : zD cX8_layBy 56 .isub 1 57 := ⟨by decide +kernel, rfl⟩
theorem dX8_layBy_57 : zD cX8_layBy 57 (.iload 6) 2 59 := ⟨by decide +kernel, rfl⟩
theorem dX8_layBy_59 : zD cX8_layBy 59 .isub 1 60 := ⟨by decide +kernel, rfl⟩
theorem dX8_layBy_60 : zD cX8_layBy 60 (.iload 5) 2 62 := ⟨by decide +kernel, rfl⟩
theorem dX8_layBy_62 : zD cX8_layBy 62 (.invokevirtual 238) 3 65 := ⟨by decide +kernel, rfl⟩
theorem dX8_layBy_65 : zD cX8_layBy 65 .lmul 1 66 := ⟨by decide +kernel, rfl⟩
theorem dX8_layBy_66 : zD cX8_layBy 66 (.bipush 10) 2 68 := ⟨by decide +kernel, rfl⟩
theorem dX8_layBy_68 : zD cX8_layBy 68 (.iload_n 2) 1 69 := ⟨by decide +kernel, rfl⟩
theorem dX8_layBy_69 : zD cX8_layBy 69 .isub 1 70 := ⟨by decide +kernel, rfl⟩
theorem dX8_layBy_70 : zD cX8_layBy 70 .i2l 1 71 := ⟨by decide +kernel, rfl⟩
theorem dX8_layBy_71 : zD cX8_layBy 71 (.aload_n 0) 1 72 := ⟨by decide +kernel, rfl⟩
theorem dX8_layBy_72 : zD cX8_layBy 72 (.iload 4) 2 74 := ⟨by decide +kernel, rfl⟩
theorem dX8_layBy_74 : zD cX8_layBy 74 (.iload 6) 2 76 := ⟨by decide +kernel, rfl⟩
theorem dX8_layBy_76 : zD cX8_layBy 76 (.iload 5) 2 78 := ⟨by decide +kernel, rfl⟩
theorem dX8_layBy_78 : zD cX8_layBy 78 (.invokevirtual 238) 3 81 := ⟨by decide +kernel, rfl⟩
theorem dX8_layBy_81 : zD cX8_layBy 81 .lmul 1 82 := ⟨by decide +kernel, rfl⟩
theorem dX8_layBy_82 : zD cX8_layBy 82 .ladd 1 83 := ⟨by decide +kernel, rfl⟩
theorem dX8_layBy_83 : zD cX8_layBy 83 .lastore 1 84 := ⟨by decide +kernel, rfl⟩
theorem dX8_layBy_84 : zD cX8_layBy 84 (.iinc 6 1) 3 87 := ⟨by decide +kernel, rfl⟩
theorem dX8_layBy_87 : zJ cX8_layBy 87 .goto 90 20 := ⟨-67, by decide +kernel, rfl, by decide⟩
theorem dX8_layBy_90 : zD cX8_layBy 90 (.iinc 4 1) 3 93 := ⟨by decide +kernel, rfl⟩
theorem dX8_layBy_93 : zJ cX8_layBy 93 .goto 96 3 := ⟨-90, by decide +kernel, rfl, by decide⟩
theorem dX8_layBy_96 : zD cX8_layBy 96 .return_ 1 97 := ⟨by decide +kernel, rfl⟩
theorem dX8_lowest_0 : zD cX8_lowest 0 (.lload_n 0) 1 1 := ⟨by decide +kernel, rfl⟩
theorem dX8_lowest_1 : zD cX8_lowest 1 (.lstore 5) 2 3 := ⟨by decide +kernel, rfl⟩
theorem dX8_lowest_3 : zD cX8_lowest 3 (.lload_n 2) 1 4 := ⟨by decide +kernel, rfl⟩
theorem dX8_lowest_4 : zD cX8_lowest 4 (.lstore 7) 2 6 := ⟨by decide +kernel, rfl⟩
theorem dX8_lowest_6 : zD cX8_lowest 6 (.lload 7) 2 8 := ⟨by decide +kernel, rfl⟩
theorem dX8_lowest_8 : zD cX8_lowest 8 (.lconst 0) 1 9 := ⟨by decide +kernel, rfl⟩
theorem dX8_lowest_9 : zD cX8_lowest 9 .lcmp 1 10 := ⟨by decide +kernel, rfl⟩
theorem dX8_lowest_10 : zJ cX8_lowest 10 (.ifCond .eq) 13 31 := ⟨21, by decide +kernel, rfl, by decide⟩
theorem dX8_lowest_13 : zD cX8_lowest 13 (.lload 5) 2 15 := ⟨by decide +kernel, rfl⟩
theorem dX8_lowest_15 : zD cX8_lowest 15 (.lload 7) 2 17 := ⟨by decide +kernel, rfl⟩
theorem dX8_lowest_17 : zD cX8_lowest 17 .lrem 1 18 := ⟨by decide +kernel, rfl⟩
theorem dX8_lowest_18 : zD cX8_lowest 18 (.lstore 9) 2 20 := ⟨by decide +kernel, rfl⟩
theorem dX8_lowest_20 : zD cX8_lowest 20 (.lload 7) 2 22 := ⟨by decide +kernel, rfl⟩
theorem dX8_lowest_22 : zD cX8_lowest 22 (.lstore 5) 2 24 := ⟨by decide +kernel, rfl⟩
theorem dX8_lowest_24 : zD cX8_lowest 24 (.lload 9) 2 26 := ⟨by decide +kernel, rfl⟩
theorem dX8_lowest_26 : zD cX8_lowest 26 (.lstore 7) 2 28 := ⟨by decide +kernel, rfl⟩
theorem dX8_lowest_28 : zJ cX8_lowest 28 .goto 31 6 := ⟨-22, by decide +kernel, rfl, by decide⟩
theorem dX8_lowest_31 : zD cX8_lowest 31 (.iload 4) 2 33 := ⟨by decide +kernel, rfl⟩
theorem dX8_lowest_33 : zJ cX8_lowest 33 (.ifCond .ne) 36 43 := ⟨10, by decide +kernel, rfl, by decide⟩
theorem dX8_lowest_36 : zD cX8_lowest 36 (.lload_n 0) 1 37 := ⟨by decide +kernel, rfl⟩
theorem dX8_lowest_37 : zD cX8_lowest 37 (.lload 5) 2 39 := ⟨by decide +kernel, rfl⟩
theorem dX8_lowest_39 : zD cX8_lowest 39 .ldiv 1 40 := ⟨by decide +kernel, rfl⟩
theorem dX8_lowest_40 : zJ cX8_lowest 40 .goto 43 47 := ⟨7, by decide +kernel, rfl, by decide⟩
theorem dX8_lowest_43 : zD cX8_lowest 43 (.lload_n 2) 1 44 := ⟨by decide +kernel, rfl⟩
theorem dX8_lowest_44 : zD cX8_lowest 44 (.lload 5) 2 46 := ⟨by decide +kernel, rfl⟩
theorem dX8_lowest_46 : zD cX8_lowest 46 .ldiv 1 47 := ⟨by decide +kernel, rfl⟩
theorem dX8_lowest_47 : zD cX8_lowest 47 .lreturn 1 48 := ⟨by decide +kernel, rfl⟩
theorem dX8_areOf_0 : zD cX8_areOf 0 (.iload_n 0) 1 1 := ⟨by decide +kernel, rfl⟩
theorem dX8_areOf_1 : zD cX8_areOf 1 .i2l 1 2 := ⟨by decide +kernel, rfl⟩
theorem dX8_areOf_2 : zD cX8_areOf 2 (.lconst 1) 1 3 := ⟨by decide +kernel, rfl⟩
theorem dX8_areOf_3 : zD cX8_areOf 3 (.ldc2_w 110) 3 6 := ⟨by decide +kernel, rfl⟩
theorem dX8_areOf_6 : zD cX8_areOf 6 (.invokestatic 83) 3 9 := ⟨by decide +kernel, rfl⟩
theorem dX8_areOf_9 : zJ cX8_areOf 9 (.ifCond .eq) 12 28 := ⟨19, by decide +kernel, rfl, by decide⟩
theorem dX8_areOf_12 : zD cX8_areOf 12 (.iload_n 1) 1 13 := ⟨by decide +kernel, rfl⟩
theorem dX8_areOf_13 : zD cX8_areOf 13 .i2l 1 14 := ⟨by decide +kernel, rfl⟩
theorem dX8_areOf_14 : zD cX8_areOf 14 (.lconst 0) 1 15 := ⟨by decide +kernel, rfl⟩
theorem dX8_areOf_15 : zD cX8_areOf 15 (.ldc2_w 232) 3 18 := ⟨by decide +kernel, rfl⟩
theorem dX8_areOf_18 : zD cX8_areOf 18 (.invokestatic 83) 3 21 := ⟨by decide +kernel, rfl⟩
theorem dX8_areOf_21 : zJ cX8_areOf 21 (.ifCond .eq) 24 28 := ⟨7, by decide +kernel, rfl, by decide⟩
theorem dX8_areOf_24 : zD cX8_areOf 24 (.iconst 1) 1 25 := ⟨by decide +kernel, rfl⟩
theorem dX8_areOf_25 : zJ cX8_areOf 25 .goto 28 29 := ⟨4, by decide +kernel, rfl, by decide⟩
theorem dX8_areOf_28 : zD cX8_areOf 28 (.iconst 0) 1 29 := ⟨by decide +kernel, rfl⟩
theorem dX8_areOf_29 : zD cX8_areOf 29 .ireturn 1 30 := ⟨by decide +kernel, rfl⟩
theorem dX8_mean_0 : zD cX8_mean 0 (.iload_n 1) 1 1 := ⟨by decide +kernel, rfl⟩
theorem dX8_mean_1 : zD cX8_mean 1 (.iload_n 3) 1 2 := ⟨by decide +kernel, rfl⟩
theorem dX8_mean_2 : zD cX8_mean 2 (.invokestatic 242) 3 5 := ⟨by decide +kernel, rfl⟩
theorem dX8_mean_5 : zJ cX8_mean 5 (.ifCond .eq) 8 32 := ⟨27, by decide +kernel, rfl, by decide⟩
theorem dX8_mean_8 : zD cX8_mean 8 (.iload_n 2) 1 9 := ⟨by decide +kernel, rfl⟩
theorem dX8_mean_9 : zD cX8_mean 9 .i2l 1 10 := ⟨by decide +kernel, rfl⟩
theorem dX8_mean_10 : zD cX8_mean 10 (.lconst 0) 1 11 := ⟨by decide +kernel, rfl⟩
theorem dX8_mean_11 : zD cX8_mean 11 (.iload_n 1) 1 12 := ⟨by decide +kernel, rfl⟩
theorem dX8_mean_12 : zD cX8_mean 12 (.iconst 1) 1 13 := ⟨by decide +kernel, rfl⟩
theorem dX8_mean_13 : zD cX8_mean 13 .isub 1 14 := ⟨by decide +kernel, rfl⟩
theorem dX8_mean_14 : zD cX8_mean 14 .i2l 1 15 := ⟨by decide +kernel, rfl⟩
theorem dX8_mean_15 : zD cX8_mean 15 (.invokestatic 83) 3 18 := ⟨by decide +kernel, rfl⟩
theorem dX8_mean_18 : zJ cX8_mean 18 (.ifCond .eq) 21 32 := ⟨14, by decide +kernel, rfl, by decide⟩
theorem dX8_mean_21 : zD cX8_mean 21 (.iload 4) 2 23 := ⟨by decide +kernel, rfl⟩
theorem dX8_mean_23 : zD cX8_mean 23 .i2l 1 24 := ⟨by decide +kernel, rfl⟩
theorem dX8_mean_24 : zD cX8_mean 24 (.lconst 0) 1 25 := ⟨by decide +kernel, rfl⟩
theorem dX8_mean_25 : zD cX8_mean 25 (.lconst 1) 1 26 := ⟨by decide +kernel, rfl⟩
theorem dX8_mean_26 : zD cX8_mean 26 (.invokestatic 83) 3 29 := ⟨by decide +kernel, rfl⟩
theorem dX8_mean_29 : zJ cX8_mean 29 (.ifCond .ne) 32 36 := ⟨7, by decide +kernel, rfl, by decide⟩
theorem dX8_mean_32 : zD cX8_mean 32 (.ldc2_w 225) 3 35 := ⟨by decide +kernel, rfl⟩
theorem dX8_mean_35 : zD cX8_mean 35 .lreturn 1 36 := ⟨by decide +kernel, rfl⟩
theorem dX8_mean_36 : zD cX8_mean 36 (.aload_n 0) 1 37 := ⟨by decide +kernel, rfl⟩
theorem dX8_mean_37 : zD cX8_mean 37 (.iload_n 1) 1 38 := ⟨by decide +kernel, rfl⟩
theorem dX8_mean_38 : zD cX8_mean 38 (.iload_n 3) 1 39 := ⟨by decide +kernel, rfl⟩
theorem dX8_mean_39 : zD cX8_mean 39 (.invokevirtual 245) 3 42 := ⟨by decide +kernel, rfl⟩
theorem dX8_mean_42 : zD cX8_mean 42 (.aload_n 0) 1 43 := ⟨by decide +kernel, rfl⟩
theorem dX8_mean_43 : zD cX8_mean 43 (.getfield 73) 3 46 := ⟨by decide +kernel, rfl⟩
theorem dX8_mean_46 : zD cX8_mean 46 (.bipush 10) 2 48 := ⟨by decide +kernel, rfl⟩
theorem dX8_mean_48 : zD cX8_mean 48 (.iload_n 1) 1 49 := ⟨by decide +kernel, rfl⟩
theorem dX8_mean_49 : zD cX8_mean 49 .imul 1 50 := ⟨by decide +kernel, rfl⟩
theorem dX8_mean_50 : zD cX8_mean 50 (.iload_n 2) 1 51 := ⟨by decide +kernel, rfl⟩
theorem dX8_mean_51 : zD cX8_mean 51 .iadd 1 52 := ⟨by decide +kernel, rfl⟩
theorem dX8_mean_52 : zD cX8_mean 52 .laload 1 53 := ⟨by decide +kernel, rfl⟩
theorem dX8_mean_53 : zD cX8_mean 53 (.iload_n 1) 1 54 := ⟨by decide +kernel, rfl⟩
theorem dX8_mean_54 : zD cX8_mean 54 (.invokestatic 234) 3 57 := ⟨by decide +kernel, rfl⟩
theorem dX8_mean_57 : zD cX8_mean 57 (.iload 4) 2 59 := ⟨by decide +kernel, rfl⟩
theorem dX8_mean_59 : zD cX8_mean 59 (.invokestatic 248) 3 62 := ⟨by decide +kernel, rfl⟩
theorem dX8_mean_62 : zD cX8_mean 62 .lreturn 1 63 := ⟨by decide +kernel, rfl⟩
theorem dX8_by_0 : zD cX8_by 0 (.iload_n 1) 1 1 := ⟨by decide +kernel, rfl⟩
theorem dX8_by_1 : zD cX8_by 1 (.iload_n 3) 1 2 := ⟨by decide +kernel, rfl⟩
theorem dX8_by_2 : zD cX8_by 2 (.invokestatic 242) 3 5 := ⟨by decide +kernel, rfl⟩
theorem dX8_by_5 : zJ cX8_by 5 (.ifCond .eq) 8 45 := ⟨40, by decide +kernel, rfl, by decide⟩
theorem dX8_by_8 : zD cX8_by 8 (.iload_n 2) 1 9 := ⟨by decide +kernel, rfl⟩
theorem dX8_by_9 : zD cX8_by 9 .i2l 1 10 := ⟨by decide +kernel, rfl⟩
theorem dX8_by_10 : zD cX8_by 10 (.lconst 0) 1 11 := ⟨by decide +kernel, rfl⟩
theorem dX8_by_11 : zD cX8_by 11 (.iload_n 1) 1 12 := ⟨by decide +kernel, rfl⟩
theorem dX8_by_12 : zD cX8_by 12 (.iconst 1) 1 13 := ⟨by decide +kernel, rfl⟩
theorem dX8_by_13 : zD cX8_by 13 .isub 1 14 := ⟨by decide +kernel, rfl⟩
theorem dX8_by_14 : zD cX8_by 14 .i2l 1 15 := ⟨by decide +kernel, rfl⟩
theorem dX8_by_15 : zD cX8_by 15 (.invokestatic 83) 3 18 := ⟨by decide +kernel, rfl⟩
theorem dX8_by_18 : zJ cX8_by 18 (.ifCond .eq) 21 45 := ⟨27, by decide +kernel, rfl, by decide⟩
theorem dX8_by_21 : zD cX8_by 21 (.iload 4) 2 23 := ⟨by decide +kernel, rfl⟩
theorem dX8_by_23 : zD cX8_by 23 .i2l 1 24 := ⟨by decide +kernel, rfl⟩
theorem dX8_by_24 : zD cX8_by 24 (.lconst 0) 1 25 := ⟨by decide +kernel, rfl⟩
theorem dX8_by_25 : zD cX8_by 25 (.ldc2_w 81) 3 28 := ⟨by decide +kernel, rfl⟩
theorem dX8_by_28 : zD cX8_by 28 (.invokestatic 83) 3 31 := ⟨by decide +kernel, rfl⟩
theorem dX8_by_31 : zJ cX8_by 31 (.ifCond .eq) 34 45 := ⟨14, by decide +kernel, rfl, by decide⟩
theorem dX8_by_34 : zD cX8_by 34 (.iload 5) 2 36 := ⟨by decide +kernel, rfl⟩
theorem dX8_by_36 : zD cX8_by 36 .i2l 1 37 := ⟨by decide +kernel, rfl⟩
theorem dX8_by_37 : zD cX8_by 37 (.lconst 0) 1 38 := ⟨by decide +kernel, rfl⟩
theorem dX8_by_38 : zD cX8_by 38 (.lconst 1) 1 39 := ⟨by decide +kernel, rfl⟩
theorem dX8_by_39 : zD cX8_by 39 (.invokestatic 83) 3 42 := ⟨by decide +kernel, rfl⟩
theorem dX8_by_42 : zJ cX8_by 42 (.ifCond .ne) 45 49 := ⟨7, by decide +kernel, rfl, by decide⟩
theorem dX8_by_45 : zD cX8_by 45 (.ldc2_w 225) 3 48 := ⟨by decide +kernel, rfl⟩
theorem dX8_by_48 : zD cX8_by 48 .lreturn 1 49 := ⟨by decide +kernel, rfl⟩
theorem dX8_by_49 : zD cX8_by 49 (.aload_n 0) 1 50 := ⟨by decide +kernel, rfl⟩
theorem dX8_by_50 : zD cX8_by 50 (.iload_n 1) 1 51 := ⟨by decide +kernel, rfl⟩
theorem dX8_by_51 : zD cX8_by 51 (.iload_n 3) 1 52 := ⟨by decide +kernel, rfl⟩
theorem dX8_by_52 : zD cX8_by 52 (.iload 4) 2 54 := ⟨by decide +kernel, rfl⟩
theorem dX8_by_54 : zD cX8_by 54 (.invokevirtual 252) 3 57 := ⟨by decide +kernel, rfl⟩
theorem dX8_by_57 : zD cX8_by 57 (.aload_n 0) 1 58 := ⟨by decide +kernel, rfl⟩
theorem dX8_by_58 : zD cX8_by 58 (.getfield 73) 3 61 := ⟨by decide +kernel, rfl⟩
theorem dX8_by_61 : zD cX8_by 61 (.bipush 10) 2 63 := ⟨by decide +kernel, rfl⟩
theorem dX8_by_63 : zD cX8_by 63 (.iload_n 1) 1 64 := ⟨by decide +kernel, rfl⟩
theorem dX8_by_64 : zD cX8_by 64 .imul 1 65 := ⟨by decide +kernel, rfl⟩
theorem dX8_by_65 : zD cX8_by 65 (.iload_n 2) 1 66 := ⟨by decide +kernel, rfl⟩
theorem dX8_by_66 : zD cX8_by 66 .iadd 1 67 := ⟨by decide +kernel, rfl⟩
theorem dX8_by_67 : zD cX8_by 67 .laload 1 68 := ⟨by decide +kernel, rfl⟩
theorem dX8_by_68 : zD cX8_by 68 (.iload_n 1) 1 69 := ⟨by decide +kernel, rfl⟩
theorem dX8_by_69 : zD cX8_by 69 (.invokestatic 234) 3 72 := ⟨by decide +kernel, rfl⟩
theorem dX8_by_72 : zD cX8_by 72 (.iload 5) 2 74 := ⟨by decide +kernel, rfl⟩
theorem dX8_by_74 : zD cX8_by 74 (.invokestatic 248) 3 77 := ⟨by decide +kernel, rfl⟩
theorem dX8_by_77 : zD cX8_by 77 .lreturn 1 78 := ⟨by decide +kernel, rfl⟩
theorem dX8_best_0 : zD cX8_best 0 (.iload_n 1) 1 1 := ⟨by decide +kernel, rfl⟩
theorem dX8_best_1 : zD cX8_best 1 (.iload_n 2) 1 2 := ⟨by decide +kernel, rfl⟩
theorem dX8_best_2 : zD cX8_best 2 (.invokestatic 242) 3 5 := ⟨by decide +kernel, rfl⟩
theorem dX8_best_5 : zJ cX8_best 5 (.ifCond .eq) 8 18 := ⟨13, by decide +kernel, rfl, by decide⟩
theorem dX8_best_8 : zD cX8_best 8 (.iload_n 3) 1 9 := ⟨by decide +kernel, rfl⟩
theorem dX8_best_9 : zD cX8_best 9 .i2l 1 10 := ⟨by decide +kernel, rfl⟩
theorem dX8_best_10 : zD cX8_best 10 (.lconst 0) 1 11 := ⟨by decide +kernel, rfl⟩
theorem dX8_best_11 : zD cX8_best 11 (.lconst 1) 1 12 := ⟨by decide +kernel, rfl⟩
theorem dX8_best_12 : zD cX8_best 12 (.invokestatic 83) 3 15 := ⟨by decide +kernel, rfl⟩
theorem dX8_best_15 : zJ cX8_best 15 (.ifCond .ne) 18 20 := ⟨5, by decide +kernel, rfl, by decide⟩
theorem dX8_best_18 : zD cX8_best 18 (.iconst (-1)) 1 19 := ⟨by decide +kernel, rfl⟩
theorem dX8_best_19 : zD cX8_best 19 .ireturn 1 20 := ⟨by decide +kernel, rfl⟩
theorem dX8_best_20 : zD cX8_best 20 (.aload_n 0) 1 21 := ⟨by decide +kernel, rfl⟩
theorem dX8_best_21 : zD cX8_best 21 (.iload_n 1) 1 22 := ⟨by decide +kernel, rfl⟩
theorem dX8_best_22 : zD cX8_best 22 (.iload_n 2) 1 23 := ⟨by decide +kernel, rfl⟩
theorem dX8_best_23 : zD cX8_best 23 (.invokevirtual 245) 3 26 := ⟨by decide +kernel, rfl⟩
theorem dX8_best_26 : zD cX8_best 26 (.iload_n 3) 1 27 := ⟨by decide +kernel, rfl⟩
theorem dX8_best_27 : zD cX8_best 27 (.iconst 1) 1 28 := ⟨by decide +kernel, rfl⟩
theorem dX8_best_28 : zJ cX8_best 28 (.if_icmp .ne) 31 65 := ⟨37, by decide +kernel, rfl, by decide⟩
theorem dX8_best_31 : zD cX8_best 31 (.aload_n 0) 1 32 := ⟨by decide +kernel, rfl⟩
theorem dX8_best_32 : zD cX8_best 32 (.getfield 73) 3 35 := ⟨by decide +kernel, rfl⟩
theorem dX8_best_35 : zD cX8_best 35 (.bipush 10) 2 37 := ⟨by decide +kernel, rfl⟩
theorem dX8_best_37 : zD cX8_best 37 (.iload_n 1) 1 38 := ⟨by decide +kernel, rfl⟩
theorem dX8_best_38 : zD cX8_best 38 .imul 1 39 := ⟨by decide +kernel, rfl⟩
theorem dX8_best_39 : zD cX8_best 39 (.iload_n 1) 1 40 := ⟨by decide +kernel, rfl⟩
theorem dX8_best_40 : zD cX8_best 40 .iadd 1 41 := ⟨by decide +kernel, rfl⟩
theorem dX8_best_41 : zD cX8_best 41 (.iconst 1) 1 42 := ⟨by decide +kernel, rfl⟩
theorem dX8_best_42 : zD cX8_best 42 .isub 1 43 := ⟨by decide +kernel, rfl⟩
theorem dX8_best_43 : zD cX8_best 43 .laload 1 44 := ⟨by decide +kernel, rfl⟩
theorem dX8_best_44 : zD cX8_best 44 (.aload_n 0) 1 45 := ⟨by decide +kernel, rfl⟩
theorem dX8_best_45 : zD cX8_best 45 (.getfield 73) 3 48 := ⟨by decide +kernel, rfl⟩
theorem dX8_best_48 : zD cX8_best 48 (.bipush 10) 2 50 := ⟨by decide +kernel, rfl⟩
theorem dX8_best_50 : zD cX8_best 50 (.iload_n 1) 1 51 := ⟨by decide +kernel, rfl⟩
theorem dX8_best_51 : zD cX8_best 51 .imul 1 52 := ⟨by decide +kernel, rfl⟩
theorem dX8_best_52 : zD cX8_best 52 .laload 1 53 := ⟨by decide +kernel, rfl⟩
theorem dX8_best_53 : zD cX8_best 53 .lcmp 1 54 := ⟨by decide +kernel, rfl⟩
theorem dX8_best_54 : zJ cX8_best 54 (.ifCond .ge) 57 63 := ⟨9, by decide +kernel, rfl, by decide⟩
theorem dX8_best_57 : zD cX8_best 57 (.iload_n 1) 1 58 := ⟨by decide +kernel, rfl⟩
theorem dX8_best_58 : zD cX8_best 58 (.iconst 1) 1 59 := ⟨by decide +kernel, rfl⟩
theorem dX8_best_59 : zD cX8_best 59 .isub 1 60 := ⟨by decide +kernel, rfl⟩
theorem dX8_best_60 : zJ cX8_best 60 .goto 63 64 := ⟨4, by decide +kernel, rfl, by decide⟩
theorem dX8_best_63 : zD cX8_best 63 (.iconst 0) 1 64 := ⟨by decide +kernel, rfl⟩
theorem dX8_best_64 : zD cX8_best 64 .ireturn 1 65 := ⟨by decide +kernel, rfl⟩
theorem dX8_best_65 : zD cX8_best 65 (.iconst 0) 1 66 := ⟨by decide +kernel, rfl⟩
theorem dX8_best_66 : zD cX8_best 66 (.istore 4) 2 68 := ⟨by decide +kernel, rfl⟩
theorem dX8_best_68 : zD cX8_best 68 (.iconst 1) 1 69 := ⟨by decide +kernel, rfl⟩
theorem dX8_best_69 : zD cX8_best 69 (.istore 5) 2 71 := ⟨by decide +kernel, rfl⟩
theorem dX8_best_71 : zD cX8_best 71 (.iload 5) 2 73 := ⟨by decide +kernel, rfl⟩
theorem dX8_best_73 : zD cX8_best 73 (.iload_n 1) 1 74 := ⟨by decide +kernel, rfl⟩
theorem dX8_best_74 : zJ cX8_best 74 (.if_icmp .ge) 77 120 := ⟨46, by decide +kernel, rfl, by decide⟩
theorem dX8_best_77 : zD cX8_best 77 (.aload_n 0) 1 78 := ⟨by decide +kernel, rfl⟩
theorem dX8_best_78 : zD cX8_best 78 (.getfield 73) 3 81 := ⟨by decide +kernel, rfl⟩
theorem dX8_best_81 : zD cX8_best 81 (.bipush 10) 2 83 := ⟨by decide +kernel, rfl⟩
theorem dX8_best_83 : zD cX8_best 83 (.iload_n 1) 1 84 := ⟨by decide +kernel, rfl⟩
theorem dX8_best_84 : zD cX8_best 84 .imul 1 85 := ⟨by decide +kernel, rfl⟩
theorem dX8_best_85 : zD cX8_best 85 (.iload 5) 2 87 := ⟨by decide +kernel, rfl⟩
theorem dX8_best_87 : zD cX8_best 87 .iadd 1 88 := ⟨by decide +kernel, rfl⟩
theorem dX8_best_88 : zD cX8_best 88 .laload 1 89 := ⟨by decide +kernel, rfl⟩
theorem dX8_best_89 : zD cX8_best 89 (.aload_n 0) 1 90 := ⟨by decide +kernel, rfl⟩
theorem dX8_best_90 : zD cX8_best 90 (.getfield 73) 3 93 := ⟨by decide +kernel, rfl⟩
theorem dX8_best_93 : zD cX8_best 93 (.bipush 10) 2 95 := ⟨by decide +kernel, rfl⟩
theorem dX8_best_95 : zD cX8_best 95 (.iload_n 1) 1 96 := ⟨by decide +kernel, rfl⟩
theorem dX8_best_96 : zD cX8_best 96 .imul 1 97 := ⟨by decide +kernel, rfl⟩
theorem dX8_best_97 : zD cX8_best 97 (.iload 4) 2 99 := ⟨by decide +kernel, rfl⟩
theorem dX8_best_99 : zD cX8_best 99 .iadd 1 100 := ⟨by decide +kernel, rfl⟩
theorem dX8_best_100 : zD cX8_best 100 .laload 1 101 := ⟨by decide +kernel, rfl⟩
theorem dX8_best_101 : zD cX8_best 101 .lcmp 1 102 := ⟨by decide +kernel, rfl⟩
theorem dX8_best_102 : zJ cX8_best 102 (.ifCond .ge) 105 110 := ⟨8, by decide +kernel, rfl, by decide⟩
theorem dX8_best_105 : zD cX8_best 105 (.iload 5) 2 107 := ⟨by decide +kernel, rfl⟩
theorem dX8_best_107 : zJ cX8_best 107 .goto 110 112 := ⟨5, by decide +kernel, rfl, by decide⟩
theorem dX8_best_110 : zD cX8_best 110 (.iload 4) 2 112 := ⟨by decide +kernel, rfl⟩
theorem dX8_best_112 : zD cX8_best 112 (.istore 4) 2 114 := ⟨by decide +kernel, rfl⟩
theorem dX8_best_114 : zD cX8_best 114 (.iinc 5 1) 3 117 := ⟨by decide +kernel, rfl⟩
theorem dX8_best_117 : zJ cX8_best 117 .goto 120 71 := ⟨-46, by decide +kernel, rfl, by decide⟩
theorem dX8_best_120 : zD cX8_best 120 (.iload 4) 2 122 := ⟨by decide +kernel, rfl⟩
theorem dX8_best_122 : zD cX8_best 122 .ireturn 1 123 := ⟨by decide +kernel, rfl⟩
theorem dX8_name_0 : zD cX8_name 0 (.iload_n 1) 1 1 := ⟨by decide +kernel, rfl⟩
theorem dX8_name_1 : zD cX8_name 1 .i2l 1 2 := ⟨by decide +kernel, rfl⟩
theorem dX8_name_2 : zD cX8_name 2 (.lconst 0) 1 3 := ⟨by decide +kernel, rfl⟩
theorem dX8_name_3 : zD cX8_name 3 (.lconst 1) 1 4 := ⟨by decide +kernel, rfl⟩
theorem dX8_name_4 : zD cX8_name 4 (.invokestatic 83) 3 7 := ⟨by decide +kernel, rfl⟩
theorem dX8_name_7 : zJ cX8_name 7 (.ifCond .eq) 10 32 := ⟨25, by decide +kernel, rfl, by decide⟩
theorem dX8_name_10 : zD cX8_name 10 (.iload_n 2) 1 11 := ⟨by decide +kernel, rfl⟩
theorem dX8_name_11 : zD cX8_name 11 .i2l 1 12 := ⟨by decide +kernel, rfl⟩
theorem dX8_name_12 : zD cX8_name 12 (.lconst 0) 1 13 := ⟨by decide +kernel, rfl⟩
theorem dX8_name_13 : zD cX8_name 13 (.iload_n 1) 1 14 := ⟨by decide +kernel, rfl⟩
theorem dX8_name_14 : zJ cX8_name 14 (.ifCond .ne) 17 23 := ⟨9, by decide +kernel, rfl, by decide⟩
theorem dX8_name_17 : zD cX8_name 17 (.ldc2_w 232) 3 20 := ⟨by decide +kernel, rfl⟩
theorem dX8_name_20 : zJ cX8_name 20 .goto 23 26 := ⟨6, by decide +kernel, rfl, by decide⟩
theorem dX8_name_23 : zD cX8_name 23 (.ldc2_w 110) 3 26 := ⟨by decide +kernel, rfl⟩
theorem dX8_name_26 : zD cX8_name 26 (.invokestatic 83) 3 29 := ⟨by decide +kernel, rfl⟩
theorem dX8_name_29 : zJ cX8_name 29 (.ifCond .ne) 32 34 := ⟨5, by decide +kernel, rfl, by decide⟩
theorem dX8_name_32 : zD cX8_name 32 (.iconst (-1)) 1 33 := ⟨by decide +kernel, rfl⟩
theorem dX8_name_33 : zD cX8_name 33 .ireturn 1 34 := ⟨by decide +kernel, rfl⟩
theorem dX8_name_34 : zD cX8_name 34 (.iconst 0) 1 35 := ⟨by decide +kernel, rfl⟩
theorem dX8_name_35 : zD cX8_name 35 (.istore_n 3) 1 36 := ⟨by decide +kernel, rfl⟩
theorem dX8_name_36 : zD cX8_name 36 (.iload_n 3) 1 37 := ⟨by decide +kernel, rfl⟩
theorem dX8_name_37 : zD cX8_name 37 (.aload_n 0) 1 38 := ⟨by decide +kernel, rfl⟩
theorem dX8_name_38 : zD cX8_name 38 (.getfield 49) 3 41 := ⟨by decide +kernel, rfl⟩
theorem dX8_name_41 : zD cX8_name 41 (.iload_n 1) 1 42 := ⟨by decide +kernel, rfl⟩
theorem dX8_name_42 : zD cX8_name 42 .iaload 1 43 := ⟨by decide +kernel, rfl⟩
theorem dX8_name_43 : zJ cX8_name 43 (.if_icmp .ge) 46 76 := ⟨33, by decide +kernel, rfl, by decide⟩
theorem dX8_name_46 : zD cX8_name 46 (.iload_n 2) 1 47 := ⟨by decide +kernel, rfl⟩
theorem dX8_name_47 : zD cX8_name 47 (.bipush 10) 2 49 := ⟨by decide +kernel, rfl⟩
theorem dX8_name_49 : zJ cX8_name 49 (.if_icmp .ge) 52 70 := ⟨21, by decide +kernel, rfl, by decide⟩
theorem dX8_name_52 : zD cX8_name 52 (.aload_n 0) 1 53 := ⟨by decide +kernel, rfl⟩
theorem dX8_name_53 : zD cX8_name 53 (.getfield 52) 3 56 := ⟨by decide +kernel, rfl⟩
theorem dX8_name_56 : zD cX8_name 56 (.bipush 9) 2 58 := ⟨by decide +kernel, rfl⟩
theorem dX8_name_58 : zD cX8_name 58 (.iload_n 1) 1 59 := ⟨by decide +kernel, rfl⟩
theorem dX8_name_59 : zD cX8_name 59 .imul 1 60 := ⟨by decide +kernel, rfl⟩
theorem dX8_name_60 : zD cX8_name 60 (.iload_n 3) 1 61 := ⟨by decide +kernel, rfl⟩
theorem dX8_name_61 : zD cX8_name 61 .iadd 1 62 := ⟨by decide +kernel, rfl⟩
theorem dX8_name_62 : zD cX8_name 62 .iaload 1 63 := ⟨by decide +kernel, rfl⟩
theorem dX8_name_63 : zD cX8_name 63 (.iload_n 2) 1 64 := ⟨by decide +kernel, rfl⟩
theorem dX8_name_64 : zJ cX8_name 64 (.if_icmp .ne) 67 70 := ⟨6, by decide +kernel, rfl, by decide⟩
theorem dX8_name_67 : zD cX8_name 67 (.bipush (-2)) 2 69 := ⟨by decide +kernel, rfl⟩
theorem dX8_name_69 : zD cX8_name 69 .ireturn 1 70 := ⟨by decide +kernel, rfl⟩
theorem dX8_name_70 : zD cX8_name 70 (.iinc 3 1) 3 73 := ⟨by decide +kernel, rfl⟩
theorem dX8_name_73 : zJ cX8_name 73 .goto 76 36 := ⟨-37, by decide +kernel, rfl, by decide⟩
theorem dX8_name_76 : zD cX8_name 76 (.aload_n 0) 1 77 := ⟨by decide +kernel, rfl⟩
theorem dX8_name_77 : zD cX8_name 77 (.getfield 49) 3 80 := ⟨by decide +kernel, rfl⟩
theorem dX8_name_80 : zD cX8_name 80 (.iload_n 1) 1 81 := ⟨by decide +kernel, rfl⟩
theorem dX8_name_81 : zD cX8_name 81 .iaload 1 82 := ⟨by decide +kernel, rfl⟩
theorem dX8_name_82 : zD cX8_name 82 (.bipush 9) 2 84 := ⟨by decide +kernel, rfl⟩
theorem dX8_name_84 : zJ cX8_name 84 (.if_icmp .ne) 87 90 := ⟨6, by decide +kernel, rfl, by decide⟩
theorem dX8_name_87 : zD cX8_name 87 (.bipush (-3)) 2 89 := ⟨by decide +kernel, rfl⟩
theorem dX8_name_89 : zD cX8_name 89 .ireturn 1 90 := ⟨by decide +kernel, rfl⟩
theorem dX8_name_90 : zD cX8_name 90 (.aload_n 0) 1 91 := ⟨by decide +kernel, rfl⟩
theorem dX8_name_91 : zD cX8_name 91 (.getfield 52) 3 94 := ⟨by decide +kernel, rfl⟩
theorem dX8_name_94 : zD cX8_name 94 (.bipush 9) 2 96 := ⟨by decide +kernel, rfl⟩
theorem dX8_name_96 : zD cX8_name 96 (.iload_n 1) 1 97 := ⟨by decide +kernel, rfl⟩
theorem dX8_name_97 : zD cX8_name 97 .imul 1 98 := ⟨by decide +kernel, rfl⟩
theorem dX8_name_98 : zD cX8_name 98 (.aload_n 0) 1 99 := ⟨by decide +kernel, rfl⟩
theorem dX8_name_99 : zD cX8_name 99 (.getfield 49) 3 102 := ⟨by decide +kernel, rfl⟩
theorem dX8_name_102 : zD cX8_name 102 (.iload_n 1) 1 103 := ⟨by decide +kernel, rfl⟩
theorem dX8_name_103 : zD cX8_name 103 .iaload 1 104 := ⟨by decide +kernel, rfl⟩
theorem dX8_name_104 : zD cX8_name 104 .iadd 1 105 := ⟨by decide +kernel, rfl⟩
theorem dX8_name_105 : zD cX8_name 105 (.iload_n 2) 1 106 := ⟨by decide +kernel, rfl⟩
theorem dX8_name_106 : zD cX8_name 106 .iastore 1 107 := ⟨by decide +kernel, rfl⟩
theorem dX8_name_107 : zD cX8_name 107 (.aload_n 0) 1 108 := ⟨by decide +kernel, rfl⟩
theorem dX8_name_108 : zD cX8_name 108 (.getfield 49) 3 111 := ⟨by decide +kernel, rfl⟩
theorem dX8_name_111 : zD cX8_name 111 (.iload_n 1) 1 112 := ⟨by decide +kernel, rfl⟩
theorem dX8_name_112 : zD cX8_name 112 .dup2 1 113 := ⟨by decide +kernel, rfl⟩
theorem dX8_name_113 : zD cX8_name 113 .iaload 1 114 := ⟨by decide +kernel, rfl⟩
theorem dX8_name_114 : zD cX8_name 114 (.iconst 1) 1 115 := ⟨by decide +kernel, rfl⟩
theorem dX8_name_115 : zD cX8_name 115 .iadd 1 116 := ⟨by decide +kernel, rfl⟩
theorem dX8_name_116 : zD cX8_name 116 .iastore 1 117 := ⟨by decide +kernel, rfl⟩
theorem dX8_name_117 : zD cX8_name 117 (.aload_n 0) 1 118 := ⟨by decide +kernel, rfl⟩
theorem dX8_name_118 : zD cX8_name 118 (.getfield 49) 3 121 := ⟨by decide +kernel, rfl⟩
theorem dX8_name_121 : zD cX8_name 121 (.iload_n 1) 1 122 := ⟨by decide +kernel, rfl⟩
theorem dX8_name_122 : zD cX8_name 122 .iaload 1 123 := ⟨by decide +kernel, rfl⟩
theorem dX8_name_123 : zD cX8_name 123 .ireturn 1 124 := ⟨by decide +kernel, rfl⟩
theorem dX8_noNames_0 : zD cX8_noNames 0 (.aload_n 0) 1 1 := ⟨by decide +kernel, rfl⟩
theorem dX8_noNames_1 : zD cX8_noNames 1 (.getfield 49) 3 4 := ⟨by decide +kernel, rfl⟩
theorem dX8_noNames_4 : zD cX8_noNames 4 (.iconst 0) 1 5 := ⟨by decide +kernel, rfl⟩
theorem dX8_noNames_5 : zD cX8_noNames 5 .iaload 1 6 := ⟨by decide +kernel, rfl⟩
theorem dX8_noNames_6 : zD cX8_noNames 6 (.aload_n 0) 1 7 := ⟨by decide +kernel, rfl⟩
theorem dX8_noNames_7 : zD cX8_noNames 7 (.getfield 49) 3 10 := ⟨by decide +kernel, rfl⟩
theorem dX8_noNames_10 : zD cX8_noNames 10 (.iconst 1) 1 11 := ⟨by decide +kernel, rfl⟩
theorem dX8_noNames_11 : zD cX8_noNames 11 .iaload 1 12 := ⟨by decide +kernel, rfl⟩
theorem dX8_noNames_12 : zD cX8_noNames 12 .iadd 1 13 := ⟨by decide +kernel, rfl⟩
theorem dX8_noNames_13 : zD cX8_noNames 13 (.istore_n 1) 1 14 := ⟨by decide +kernel, rfl⟩
theorem dX8_noNames_14 : zD cX8_noNames 14 (.aload_n 0) 1 15 := ⟨by decide +kernel, rfl⟩
theorem dX8_noNames_15 : zD cX8_noNames 15 (.getfield 49) 3 18 := ⟨by decide +kernel, rfl⟩
theorem dX8_noNames_18 : zD cX8_noNames 18 (.iconst 0) 1 19 := ⟨by decide +kernel, rfl⟩
theorem dX8_noNames_19 : zD cX8_noNames 19 (.iconst 0) 1 20 := ⟨by decide +kernel, rfl⟩
theorem dX8_noNames_20 : zD cX8_noNames 20 .iastore 1 21 := ⟨by decide +kernel, rfl⟩
theorem dX8_noNames_21 : zD cX8_noNames 21 (.aload_n 0) 1 22 := ⟨by decide +kernel, rfl⟩
theorem dX8_noNames_22 : zD cX8_noNames 22 (.getfield 49) 3 25 := ⟨by decide +kernel, rfl⟩
theorem dX8_noNames_25 : zD cX8_noNames 25 (.iconst 1) 1 26 := ⟨by decide +kernel, rfl⟩
theorem dX8_noNames_26 : zD cX8_noNames 26 (.iconst 0) 1 27 := ⟨by decide +kernel, rfl⟩
theorem dX8_noNames_27 : zD cX8_noNames 27 .iastore 1 28 := ⟨by decide +kernel, rfl⟩
theorem dX8_noNames_28 : zD cX8_noNames 28 (.iload_n 1) 1 29 := ⟨by decide +kernel, rfl⟩
theorem dX8_noNames_29 : zD cX8_noNames 29 .ireturn 1 30 := ⟨by decide +kernel, rfl⟩
theorem dX8_isFit_0 : zD cX8_isFit 0 (.aload_n 0) 1 1 := ⟨by decide +kernel, rfl⟩
theorem dX8_isFit_1 : zD cX8_isFit 1 (.getfield 49) 3 4 := ⟨by decide +kernel, rfl⟩
theorem dX8_isFit_4 : zD cX8_isFit 4 (.iconst 1) 1 5 := ⟨by decide +kernel, rfl⟩
theorem dX8_isFit_5 : zD cX8_isFit 5 .iaload 1 6 := ⟨by decide +kernel, rfl⟩
theorem dX8_isFit_6 : zD cX8_isFit 6 (.istore_n 2) 1 7 := ⟨by decide +kernel, rfl⟩
theorem dX8_isFit_7 : zD cX8_isFit 7 (.iconst 0) 1 8 := ⟨by decide +kernel, rfl⟩
theorem dX8_isFit_8 : zD cX8_isFit 8 (.istore_n 3) 1 9 := ⟨by decide +kernel, rfl⟩
theorem dX8_isFit_9 : zD cX8_isFit 9 (.iload_n 2) 1 10 := ⟨by decide +kernel, rfl⟩
theorem dX8_isFit_10 : zD cX8_isFit 10 (.iconst 1) 1 11 := ⟨by decide +kernel, rfl⟩
theorem dX8_isFit_11 : zD cX8_isFit 11 .isub 1 12 := ⟨by decide +kernel, rfl⟩
theorem dX8_isFit_12 : zD cX8_isFit 12 (.istore 4) 2 14 := ⟨by decide +kernel, rfl⟩
theorem dX8_isFit_14 : zD cX8_isFit 14 (.iconst 0) 1 15 := ⟨by decide +kernel, rfl⟩
theorem dX8_isFit_15 : zD cX8_isFit 15 (.istore 5) 2 17 := ⟨by decide +kernel, rfl⟩
theorem dX8_isFit_17 : zD cX8_isFit 17 (.iconst 1) 1 18 := ⟨by decide +kernel, rfl⟩
theorem dX8_isFit_18 : zD cX8_isFit 18 (.istore 6) 2 20 := ⟨by decide +kernel, rfl⟩
theorem dX8_isFit_20 : zD cX8_isFit 20 (.iconst 0) 1 21 := ⟨by decide +kernel, rfl⟩
theorem dX8_isFit_21 : zD cX8_isFit 21 (.istore 7) 2 23 := ⟨by decide +kernel, rfl⟩
theorem dX8_isFit_23 : zD cX8_isFit 23 (.iload 7) 2 25 := ⟨by decide +kernel, rfl⟩
theorem dX8_isFit_25 : zD cX8_isFit 25 (.iload_n 2) 1 26 := ⟨by decide +kernel, rfl⟩
theorem dX8_isFit_26 : zJ cX8_isFit 26 (.if_icmp .ge) 29 149 := ⟨123, by decide +kernel, rfl, by decide⟩
theorem dX8_isFit_29 : zD cX8_isFit 29 (.iload 5) 2 31 := ⟨by decide +kernel, rfl⟩
theorem dX8_isFit_31 : zD cX8_isFit 31 (.iload_n 1) 1 32 := ⟨by decide +kernel, rfl⟩
theorem dX8_isFit_32 : zD cX8_isFit 32 (.iload 7) 2 34 := ⟨by decide +kernel, rfl⟩
theorem dX8_isFit_34 : zD cX8_isFit 34 (.invokestatic 167) 3 37 := ⟨by decide +kernel, rfl⟩
theorem dX8_isFit_37 : zJ cX8_isFit 37 (.if_icmp .eq) 40 44 := ⟨7, by decide +kernel, rfl, by decide⟩
theorem dX8_isFit_40 : zD cX8_isFit 40 (.iconst 1) 1 41 := ⟨by decide +kernel, rfl⟩
theorem dX8_isFit_41 : zJ cX8_isFit 41 .goto 44 45 := ⟨4, by decide +kernel, rfl, by decide⟩
theorem dX8_isFit_44 : zD cX8_isFit 44 (.iconst 0) 1 45 := ⟨by decide +kernel, rfl⟩
theorem dX8_isFit_45 : zD cX8_isFit 45 (.istore 5) 2 47 := ⟨by decide +kernel, rfl⟩
theorem dX8_isFit_47 : zD cX8_isFit 47 (.aload_n 0) 1 48 := ⟨by decide +kernel, rfl⟩
theorem dX8_isFit_48 : zD cX8_isFit 48 (.getfield 52) 3 51 := ⟨by decide +kernel, rfl⟩
theorem dX8_isFit_51 : zD cX8_isFit 51 (.bipush 9) 2 53 := ⟨by decide +kernel, rfl⟩
theorem dX8_isFit_53 : zD cX8_isFit 53 (.iload 5) 2 55 := ⟨by decide +kernel, rfl⟩
theorem dX8_isFit_55 : zJ cX8_isFit 55 (.ifCond .eq) 58 63 := ⟨8, by decide +kernel, rfl, by decide⟩
theorem dX8_isFit_58 : zD cX8_isFit 58 (.iload 4) 2 60 := ⟨by decide +kernel, rfl⟩
theorem dX8_isFit_60 : zJ cX8_isFit 60 .goto 63 64 := ⟨4, by decide +kernel, rfl, by decide⟩
theorem dX8_isFit_63 : zD cX8_isFit 63 (.iload_n 3) 1 64 := ⟨by decide +kernel, rfl⟩
theorem dX8_isFit_64 : zD cX8_isFit 64 .iadd 1 65 := ⟨by decide +kernel, rfl⟩
theorem dX8_isFit_65 : zD cX8_isFit 65 .iaload 1 66 := ⟨by decide +kernel, rfl⟩
theorem dX8_isFit_66 : zD cX8_isFit 66 (.istore 8) 2 68 := ⟨by decide +kernel, rfl⟩
theorem dX8_isFit_68 : zD cX8_isFit 68 (.iload 4) 2 70 := ⟨by decide +kernel, rfl⟩
theorem dX8_isFit_70 : zD cX8_isFit 70 (.iload 5) 2 72 := ⟨by decide +kernel, rfl⟩
theorem dX8_isFit_72 : zJ cX8_isFit 72 (.ifCond .eq) 75 79 := ⟨7, by decide +kernel, rfl, by decide⟩
theorem dX8_isFit_75 : zD cX8_isFit 75 (.iconst 1) 1 76 := ⟨by decide +kernel, rfl⟩
theorem dX8_isFit_76 : zJ cX8_isFit 76 .goto 79 80 := ⟨4, by decide +kernel, rfl, by decide⟩
theorem dX8_isFit_79 : zD cX8_isFit 79 (.iconst 0) 1 80 := ⟨by decide +kernel, rfl⟩
theorem dX8_isFit_80 : zD cX8_isFit 80 .isub 1 81 := ⟨by decide +kernel, rfl⟩
theorem dX8_isFit_81 : zD cX8_isFit 81 (.istore 4) 2 83 := ⟨by decide +kernel, rfl⟩
theorem dX8_isFit_83 : zD cX8_isFit 83 (.iload_n 3) 1 84 := ⟨by decide +kernel, rfl⟩
theorem dX8_isFit_84 : zD cX8_isFit 84 (.iload 5) 2 86 := ⟨by decide +kernel, rfl⟩
theorem dX8_isFit_86 : zJ cX8_isFit 86 (.ifCond .eq) 89 93 := ⟨7, by decide +kernel, rfl, by decide⟩
theorem dX8_isFit_89 : zD cX8_isFit 89 (.iconst 0) 1 90 := ⟨by decide +kernel, rfl⟩
theorem dX8_isFit_90 : zJ cX8_isFit 90 .goto 93 94 := ⟨4, by decide +kernel, rfl, by decide⟩
theorem dX8_isFit_93 : zD cX8_isFit 93 (.iconst 1) 1 94 := ⟨by decide +kernel, rfl⟩
theorem dX8_isFit_94 : zD cX8_isFit 94 .iadd 1 95 := ⟨by decide +kernel, rfl⟩
theorem dX8_isFit_95 : zD cX8_isFit 95 (.istore_n 3) 1 96 := ⟨by decide +kernel, rfl⟩
theorem dX8_isFit_96 : zD cX8_isFit 96 (.iload 6) 2 98 := ⟨by decide +kernel, rfl⟩
theorem dX8_isFit_98 : zJ cX8_isFit 98 (.ifCond .eq) 101 140 := ⟨42, by decide +kernel, rfl, by decide⟩
theorem dX8_isFit_101 : zD cX8_isFit 101 (.iload 7) 2 103 := ⟨by decide +kernel, rfl⟩
theorem dX8_isFit_103 : zD cX8_isFit 103 (.aload_n 0) 1 104 := ⟨by decide +kernel, rfl⟩
theorem dX8_isFit_104 : zD cX8_isFit 104 (.getfield 49) 3 107 := ⟨by decide +kernel, rfl⟩
theorem dX8_isFit_107 : zD cX8_isFit 107 (.iconst 0) 1 108 := ⟨by decide +kernel, rfl⟩
theorem dX8_isFit_108 : zD cX8_isFit 108 .iaload 1 109 := ⟨by decide +kernel, rfl⟩
theorem dX8_isFit_109 : zJ cX8_isFit 109 (.if_icmp .ge) 112 136 := ⟨27, by decide +kernel, rfl, by decide⟩
theorem dX8_isFit_112 : zD cX8_isFit 112 (.aload_n 0) 1 113 := ⟨by decide +kernel, rfl⟩
theorem dX8_isFit_113 : zD cX8_isFit 113 (.getfield 52) 3 116 := ⟨by decide +kernel, rfl⟩
theorem dX8_isFit_116 : zD cX8_isFit 116 (.iload 7) 2 118 := ⟨by decide +kernel, rfl⟩
theorem dX8_isFit_118 : zD cX8_isFit 118 .iaload 1 119 := ⟨by decide +kernel, rfl⟩
theorem dX8_isFit_119 : zD cX8_isFit 119 (.bipush 10) 2 121 := ⟨by decide +kernel, rfl⟩
theorem dX8_isFit_121 : zJ cX8_isFit 121 (.if_icmp .eq) 124 136 := ⟨15, by decide +kernel, rfl, by decide⟩
theorem dX8_isFit_124 : zD cX8_isFit 124 (.aload_n 0) 1 125 := ⟨by decide +kernel, rfl⟩
theorem dX8_isFit_125 : zD cX8_isFit 125 (.getfield 52) 3 128 := ⟨by decide +kernel, rfl⟩
theorem dX8_isFit_128 : zD cX8_isFit 128 (.iload 7) 2 130 := ⟨by decide +kernel, rfl⟩
theorem dX8_isFit_130 : zD cX8_isFit 130 .iaload 1 131 := ⟨by decide +kernel, rfl⟩
theorem dX8_isFit_131 : zD cX8_isFit 131 (.iload 8) 2 133 := ⟨by decide +kernel, rfl⟩
theorem dX8_isFit_133 : zJ cX8_isFit 133 (.if_icmp .ne) 136 140 := ⟨7, by decide +kernel, rfl, by decide⟩
theorem dX8_isFit_136 : zD cX8_isFit 136 (.iconst 1) 1 137 := ⟨by decide +kernel, rfl⟩
theorem dX8_isFit_137 : zJ cX8_isFit 137 .goto 140 141 := ⟨4, by decide +kernel, rfl, by decide⟩
theorem dX8_isFit_140 : zD cX8_isFit 140 (.iconst 0) 1 141 := ⟨by decide +kernel, rfl⟩
theorem dX8_isFit_141 : zD cX8_isFit 141 (.istore 6) 2 143 := ⟨by decide +kernel, rfl⟩
theorem dX8_isFit_143 : zD cX8_isFit 143 (.iinc 7 1) 3 146 := ⟨by decide +kernel, rfl⟩
theorem dX8_isFit_146 : zJ cX8_isFit 146 .goto 149 23 := ⟨-123, by decide +kernel, rfl, by decide⟩
theorem dX8_isFit_149 : zD cX8_isFit 149 (.iload 6) 2 151 := ⟨by decide +kernel, rfl⟩
theorem dX8_isFit_151 : zD cX8_isFit 151 .ireturn 1 152 := ⟨by decide +kernel, rfl⟩
theorem dX8_fits_0 : zD cX8_fits 0 (.iload_n 1) 1 1 := ⟨by decide +kernel, rfl⟩
theorem dX8_fits_1 : zD cX8_fits 1 .i2l 1 2 := ⟨by decide +kernel, rfl⟩
theorem dX8_fits_2 : zD cX8_fits 2 (.lconst 0) 1 3 := ⟨by decide +kernel, rfl⟩
theorem dX8_fits_3 : zD cX8_fits 3 (.lconst 1) 1 4 := ⟨by decide +kernel, rfl⟩
theorem dX8_fits_4 : zD cX8_fits 4 (.invokestatic 83) 3 7 := ⟨by decide +kernel, rfl⟩
theorem dX8_fits_7 : zJ cX8_fits 7 (.ifCond .ne) 10 12 := ⟨5, by decide +kernel, rfl, by decide⟩
theorem dX8_fits_10 : zD cX8_fits 10 (.iconst (-1)) 1 11 := ⟨by decide +kernel, rfl⟩
theorem dX8_fits_11 : zD cX8_fits 11 .ireturn 1 12 := ⟨by decide +kernel, rfl⟩
theorem dX8_fits_12 : zD cX8_fits 12 (.aload_n 0) 1 13 := ⟨by decide +kernel, rfl⟩
theorem dX8_fits_13 : zD cX8_fits 13 (.getfield 49) 3 16 := ⟨by decide +kernel, rfl⟩
theorem dX8_fits_16 : zD cX8_fits 16 (.iconst 1) 1 17 := ⟨by decide +kernel, rfl⟩
theorem dX8_fits_17 : zD cX8_fits 17 .iaload 1 18 := ⟨by decide +kernel, rfl⟩
theorem dX8_fits_18 : zJ cX8_fits 18 (.ifCond .eq) 21 36 := ⟨18, by decide +kernel, rfl, by decide⟩
theorem dX8_fits_21 : zD cX8_fits 21 (.aload_n 0) 1 22 := ⟨by decide +kernel, rfl⟩
theorem dX8_fits_22 : zD cX8_fits 22 (.getfield 49) 3 25 := ⟨by decide +kernel, rfl⟩
theorem dX8_fits_25 : zD cX8_fits 25 (.iconst 0) 1 26 := ⟨by decide +kernel, rfl⟩
theorem dX8_fits_26 : zD cX8_fits 26 .iaload 1 27 := ⟨by decide +kernel, rfl⟩
theorem dX8_fits_27 : zD cX8_fits 27 (.aload_n 0) 1 28 := ⟨by decide +kernel, rfl⟩
theorem dX8_fits_28 : zD cX8_fits 28 (.getfield 49) 3 31 := ⟨by decide +kernel, rfl⟩
theorem dX8_fits_31 : zD cX8_fits 31 (.iconst 1) 1 32 := ⟨by decide +kernel, rfl⟩
theorem dX8_fits_32 : zD cX8_fits 32 .iaload 1 33 := ⟨by decide +kernel, rfl⟩
theorem dX8_fits_33 : zJ cX8_fits 33 (.if_icmp .le) 36 39 := ⟨6, by decide +kernel, rfl, by decide⟩
theorem dX8_fits_36 : zD cX8_fits 36 (.bipush (-2)) 2 38 := ⟨by decide +kernel, rfl⟩
theorem dX8_fits_38 : zD cX8_fits 38 .ireturn 1 39 := ⟨by decide +kernel, rfl⟩
theorem dX8_fits_39 : zD cX8_fits 39 (.iconst 0) 1 40 := ⟨by decide +kernel, rfl⟩
theorem dX8_fits_40 : zD cX8_fits 40 (.istore_n 2) 1 41 := ⟨by decide +kernel, rfl⟩
theorem dX8_fits_41 : zD cX8_fits 41 (.bipush (-4)) 2 43 := ⟨by decide +kernel, rfl⟩
theorem dX8_fits_43 : zD cX8_fits 43 (.istore_n 3) 1 44 := ⟨by decide +kernel, rfl⟩
theorem dX8_fits_44 : zD cX8_fits 44 (.iconst 1) 1 45 := ⟨by decide +kernel, rfl⟩
theorem dX8_fits_45 : zD cX8_fits 45 (.aload_n 0) 1 46 := ⟨by decide +kernel, rfl⟩
theorem dX8_fits_46 : zD cX8_fits 46 (.getfield 49) 3 49 := ⟨by decide +kernel, rfl⟩
theorem dX8_fits_49 : zD cX8_fits 49 (.iconst 1) 1 50 := ⟨by decide +kernel, rfl⟩
theorem dX8_fits_50 : zD cX8_fits 50 .iaload 1 51 := ⟨by decide +kernel, rfl⟩
theorem dX8_fits_51 : zD cX8_fits 51 .ishl 1 52 := ⟨by decide +kernel, rfl⟩
theorem dX8_fits_52 : zD cX8_fits 52 (.iconst 1) 1 53 := ⟨by decide +kernel, rfl⟩
theorem dX8_fits_53 : zD cX8_fits 53 .isub 1 54 := ⟨by decide +kernel, rfl⟩
theorem dX8_fits_54 : zD cX8_fits 54 (.istore 4) 2 56 := ⟨by decide +kernel, rfl⟩
theorem dX8_fits_56 : zD cX8_fits 56 (.iload 4) 2 58 := ⟨by decide +kernel, rfl⟩
theorem dX8_fits_58 : zJ cX8_fits 58 (.ifCond .lt) 61 100 := ⟨42, by decide +kernel, rfl, by decide⟩
theorem dX8_fits_61 : zD cX8_fits 61 (.aload_n 0) 1 62 := ⟨by decide +kernel, rfl⟩
theorem dX8_fits_62 : zD cX8_fits 62 (.iload 4) 2 64 := ⟨by decide +kernel, rfl⟩
theorem dX8_fits_64 : zD cX8_fits 64 (.invokevirtual 255) 3 67 := ⟨by decide +kernel, rfl⟩
theorem dX8_fits_67 : zD cX8_fits 67 (.istore 5) 2 69 := ⟨by decide +kernel, rfl⟩
theorem dX8_fits_69 : zD cX8_fits 69 (.iload_n 2) 1 70 := ⟨by decide +kernel, rfl⟩
theorem dX8_fits_70 : zD cX8_fits 70 (.iload 5) 2 72 := ⟨by decide +kernel, rfl⟩
theorem dX8_fits_72 : zJ cX8_fits 72 (.ifCond .eq) 75 79 := ⟨7, by decide +kernel, rfl, by decide⟩
theorem dX8_fits_75 : zD cX8_fits 75 (.iconst 1) 1 76 := ⟨by decide +kernel, rfl⟩
theorem dX8_fits_76 : zJ cX8_fits 76 .goto 79 80 := ⟨4, by decide +kernel, rfl, by decide⟩
theorem dX8_fits_79 : zD cX8_fits 79 (.iconst 0) 1 80 := ⟨by decide +kernel, rfl⟩
theorem dX8_fits_80 : zD cX8_fits 80 .iadd 1 81 := ⟨by decide +kernel, rfl⟩
theorem dX8_fits_81 : zD cX8_fits 81 (.istore_n 2) 1 82 := ⟨by decide +kernel, rfl⟩
theorem dX8_fits_82 : zD cX8_fits 82 (.iload 5) 2 84 := ⟨by decide +kernel, rfl⟩
theorem dX8_fits_84 : zJ cX8_fits 84 (.ifCond .eq) 87 92 := ⟨8, by decide +kernel, rfl, by decide⟩
theorem dX8_fits_87 : zD cX8_fits 87 (.iload 4) 2 89 := ⟨by decide +kernel, rfl⟩
theorem dX8_fits_89 : zJ cX8_fits 89 .goto 92 93 := ⟨4, by decide +kernel, rfl, by decide⟩
theorem dX8_fits_92 : zD cX8_fits 92 (.iload_n 3) 1 93 := ⟨by decide +kernel, rfl⟩
theorem dX8_fits_93 : zD cX8_fits 93 (.istore_n 3) 1 94 := ⟨by decide +kernel, rfl⟩
theorem dX8_fits_94 : zD cX8_fits 94 (.iinc 4 (-1)) 3 97 := ⟨by decide +kernel, rfl⟩
theorem dX8_fits_97 : zJ cX8_fits 97 .goto 100 56 := ⟨-41, by decide +kernel, rfl, by decide⟩
theorem dX8_fits_100 : zD cX8_fits 100 (.iload_n 1) 1 101 := ⟨by decide +kernel, rfl⟩
theorem dX8_fits_101 : zJ cX8_fits 101 (.ifCond .ne) 104 108 := ⟨7, by decide +kernel, rfl, by decide⟩
theorem dX8_fits_104 : zD cX8_fits 104 (.iload_n 2) 1 105 := ⟨by decide +kernel, rfl⟩
theorem dX8_fits_105 : zJ cX8_fits 105 .goto 108 109 := ⟨4, by decide +kernel, rfl, by decide⟩
theorem dX8_fits_108 : zD cX8_fits 108 (.iload_n 3) 1 109 := ⟨by decide +kernel, rfl⟩
theorem dX8_fits_109 : zD cX8_fits 109 .ireturn 1 110 := ⟨by decide +kernel, rfl⟩
theorem dX8_drawn_0 : zD cX8_drawn 0 (.iload_n 1) 1 1 := ⟨by decide +kernel, rfl⟩
theorem dX8_drawn_1 : zD cX8_drawn 1 .i2l 1 2 := ⟨by decide +kernel, rfl⟩
theorem dX8_drawn_2 : zD cX8_drawn 2 (.lconst 0) 1 3 := ⟨by decide +kernel, rfl⟩
theorem dX8_drawn_3 : zD cX8_drawn 3 (.ldc2_w 258) 3 6 := ⟨by decide +kernel, rfl⟩
theorem dX8_drawn_6 : zD cX8_drawn 6 (.invokestatic 83) 3 9 := ⟨by decide +kernel, rfl⟩
theorem dX8_drawn_9 : zJ cX8_drawn 9 (.ifCond .eq) 12 24 := ⟨15, by decide +kernel, rfl, by decide⟩
theorem dX8_drawn_12 : zD cX8_drawn 12 (.iload_n 2) 1 13 := ⟨by decide +kernel, rfl⟩
theorem dX8_drawn_13 : zD cX8_drawn 13 .i2l 1 14 := ⟨by decide +kernel, rfl⟩
theorem dX8_drawn_14 : zD cX8_drawn 14 (.lconst 0) 1 15 := ⟨by decide +kernel, rfl⟩
theorem dX8_drawn_15 : zD cX8_drawn 15 (.ldc2_w 104) 3 18 := ⟨by decide +kernel, rfl⟩
theorem dX8_drawn_18 : zD cX8_drawn 18 (.invokestatic 83) 3 21 := ⟨by decide +kernel, rfl⟩
theorem dX8_drawn_21 : zJ cX8_drawn 21 (.ifCond .ne) 24 26 := ⟨5, by decide +kernel, rfl, by decide⟩
theorem dX8_drawn_24 : zD cX8_drawn 24 (.iconst (-1)) 1 25 := ⟨by decide +kernel, rfl⟩
theorem dX8_drawn_25 : zD cX8_drawn 25 .ireturn 1 26 := ⟨by decide +kernel, rfl⟩
theorem dX8_drawn_26 : zD cX8_drawn 26 (.aload_n 0) 1 27 := ⟨by decide +kernel, rfl⟩
theorem dX8_drawn_27 : zD cX8_drawn 27 (.invokevirtual 190) 3 30 := ⟨by decide +kernel, rfl⟩
theorem dX8_drawn_30 : zD cX8_drawn 30 (.aload_n 0) 1 31 := ⟨by decide +kernel, rfl⟩
theorem dX8_drawn_31 : zD cX8_drawn 31 (.iload_n 1) 1 32 := ⟨by decide +kernel, rfl⟩
theorem dX8_drawn_32 : zD cX8_drawn 32 (.putfield 142) 3 35 := ⟨by decide +kernel, rfl⟩
theorem dX8_drawn_35 : zD cX8_drawn 35 (.aload_n 0) 1 36 := ⟨by decide +kernel, rfl⟩
theorem dX8_drawn_36 : zD cX8_drawn 36 (.sipush 199) 3 39 := ⟨by decide +kernel, rfl⟩
theorem dX8_drawn_39 : zD cX8_drawn 39 (.invokevirtual 193) 3 42 := ⟨by decide +kernel, rfl⟩
theorem dX8_drawn_42 : zD cX8_drawn 42 (.iload_n 2) 1 43 := ⟨by decide +kernel, rfl⟩
theorem dX8_drawn_43 : zJ cX8_drawn 43 (.ifCond .ne) 46 54 := ⟨11, by decide +kernel, rfl, by decide⟩
theorem dX8_drawn_46 : zD cX8_drawn 46 (.aload_n 0) 1 47 := ⟨by decide +kernel, rfl⟩
theorem dX8_drawn_47 : zD cX8_drawn 47 (.iconst 0) 1 48 := ⟨by decide +kernel, rfl⟩
theorem dX8_drawn_48 : zD cX8_drawn 48 (.invokevirtual 208) 3 51 := ⟨by decide +kernel, rfl⟩
theorem dX8_drawn_51 : zJ cX8_drawn 51 .goto 54 70 := ⟨19, by decide +kernel, rfl, by decide⟩
theorem dX8_drawn_54 : zD cX8_drawn 54 (.iload_n 2) 1 55 := ⟨by decide +kernel, rfl⟩
theorem dX8_drawn_55 : zD cX8_drawn 55 (.iconst 1) 1 56 := ⟨by decide +kernel, rfl⟩
theorem dX8_drawn_56 : zJ cX8_drawn 56 (.if_icmp .ne) 59 66 := ⟨10, by decide +kernel, rfl, by decide⟩
theorem dX8_drawn_59 : zD cX8_drawn 59 (.aload_n 0) 1 60 := ⟨by decide +kernel, rfl⟩
theorem dX8_drawn_60 : zD cX8_drawn 60 (.getfield 171) 3 63 := ⟨by decide +kernel, rfl⟩
theorem dX8_drawn_63 : zJ cX8_drawn 63 .goto 66 70 := ⟨7, by decide +kernel, rfl, by decide⟩
theorem dX8_drawn_66 : zD cX8_drawn 66 (.aload_n 0) 1 67 := ⟨by decide +kernel, rfl⟩
theorem dX8_drawn_67 : zD cX8_drawn 67 (.invokevirtual 211) 3 70 := ⟨by decide +kernel, rfl⟩
theorem dX8_drawn_70 : zD cX8_drawn 70 .ireturn 1 71 := ⟨by decide +kernel, rfl⟩
theorem dX8_keep_0 : zD cX8_keep 0 (.aload_n 0) 1 1 := ⟨by decide +kernel, rfl⟩
theorem dX8_keep_1 : zD cX8_keep 1 (.getfield 124) 3 4 := ⟨by decide +kernel, rfl⟩
theorem dX8_keep_4 : zD cX8_keep 4 (.iconst 2) 1 5 := ⟨by decide +kernel, rfl⟩
theorem dX8_keep_5 : zJ cX8_keep 5 (.if_icmp .ne) 8 11 := ⟨6, by decide +kernel, rfl, by decide⟩
theorem dX8_keep_8 : zD cX8_keep 8 (.bipush (-3)) 2 10 := ⟨by decide +kernel, rfl⟩
theorem dX8_keep_10 : zD cX8_keep 10 .ireturn 1 11 := ⟨by decide +kernel, rfl⟩
theorem dX8_keep_11 : zD cX8_keep 11 (.aload_n 0) 1 12 := ⟨by decide +kernel, rfl⟩
theorem dX8_keep_12 : zD cX8_keep 12 .dup 1 13 := ⟨by decide +kernel, rfl⟩
theorem dX8_keep_13 : zD cX8_keep 13 (.getfield 124) 3 16 := ⟨by decide +kernel, rfl⟩
theorem dX8_keep_16 : zD cX8_keep 16 (.iconst 1) 1 17 := ⟨by decide +kernel, rfl⟩
theorem dX8_keep_17 : zD cX8_keep 17 .iadd 1 18 := ⟨by decide +kernel, rfl⟩
theorem dX8_keep_18 : zD cX8_keep 18 (.putfield 124) 3 21 := ⟨by decide +kernel, rfl⟩
theorem dX8_keep_21 : zD cX8_keep 21 (.aload_n 0) 1 22 := ⟨by decide +kernel, rfl⟩
theorem dX8_keep_22 : zD cX8_keep 22 (.iconst 0) 1 23 := ⟨by decide +kernel, rfl⟩
theorem dX8_keep_23 : zD cX8_keep 23 (.iconst 1) 1 24 := ⟨by decide +kernel, rfl⟩
theorem dX8_keep_24 : zD cX8_keep 24 (.aload_n 0) 1 25 := ⟨by decide +kernel, rfl⟩
theorem dX8_keep_25 : zD cX8_keep 25 (.getfield 124) 3 28 := ⟨by decide +kernel, rfl⟩
theorem dX8_keep_28 : zD cX8_keep 28 .iadd 1 29 := ⟨by decide +kernel, rfl⟩
theorem dX8_keep_29 : zD cX8_keep 29 (.invokevirtual 120) 3 32 := ⟨by decide +kernel, rfl⟩
theorem dX8_keep_32 : zD cX8_keep 32 (.aload_n 0) 1 33 := ⟨by decide +kernel, rfl⟩
theorem dX8_keep_33 : zD cX8_keep 33 (.getfield 124) 3 36 := ⟨by decide +kernel, rfl⟩
theorem dX8_keep_36 : zD cX8_keep 36 .ireturn 1 37 := ⟨by decide +kernel, rfl⟩
theorem dX8_back_0 : zD cX8_back 0 (.aload_n 0) 1 1 := ⟨by decide +kernel, rfl⟩
theorem dX8_back_1 : zD cX8_back 1 (.getfield 124) 3 4 := ⟨by decide +kernel, rfl⟩
theorem dX8_back_4 : zJ cX8_back 4 (.ifCond .ne) 7 10 := ⟨6, by decide +kernel, rfl, by decide⟩
theorem dX8_back_7 : zD cX8_back 7 (.bipush (-2)) 2 9 := ⟨by decide +kernel, rfl⟩
theorem dX8_back_9 : zD cX8_back 9 .ireturn 1 10 := ⟨by decide +kernel, rfl⟩
theorem dX8_back_10 : zD cX8_back 10 (.aload_n 0) 1 11 := ⟨by decide +kernel, rfl⟩
theorem dX8_back_11 : zD cX8_back 11 (.iconst 1) 1 12 := ⟨by decide +kernel, rfl⟩
theorem dX8_back_12 : zD cX8_back 12 (.aload_n 0) 1 13 := ⟨by decide +kernel, rfl⟩
theorem dX8_back_13 : zD cX8_back 13 (.getfield 124) 3 16 := ⟨by decide +kernel, rfl⟩
theorem dX8_back_16 : zD cX8_back 16 .iadd 1 17 := ⟨by decide +kernel, rfl⟩
theorem dX8_back_17 : zD cX8_back 17 (.iconst 0) 1 18 := ⟨by decide +kernel, rfl⟩
theorem dX8_back_18 : zD cX8_back 18 (.invokevirtual 120) 3 21 := ⟨by decide +kernel, rfl⟩
theorem dX8_back_21 : zD cX8_back 21 (.aload_n 0) 1 22 := ⟨by decide +kernel, rfl⟩
theorem dX8_back_22 : zD cX8_back 22 .dup 1 23 := ⟨by decide +kernel, rfl⟩
theorem dX8_back_23 : zD cX8_back 23 (.getfield 124) 3 26 := ⟨by decide +kernel, rfl⟩
theorem dX8_back_26 : zD cX8_back 26 (.iconst 1) 1 27 := ⟨by decide +kernel, rfl⟩
theorem dX8_back_27 : zD cX8_back 27 .isub 1 28 := ⟨by decide +kernel, rfl⟩
theorem dX8_back_28 : zD cX8_back 28 (.putfield 124) 3 31 := ⟨by decide +kernel, rfl⟩
theorem dX8_back_31 : zD cX8_back 31 (.aload_n 0) 1 32 := ⟨by decide +kernel, rfl⟩
theorem dX8_back_32 : zD cX8_back 32 (.iconst 0) 1 33 := ⟨by decide +kernel, rfl⟩
theorem dX8_back_33 : zD cX8_back 33 (.putfield 127) 3 36 := ⟨by decide +kernel, rfl⟩
theorem dX8_back_36 : zD cX8_back 36 (.aload_n 0) 1 37 := ⟨by decide +kernel, rfl⟩
theorem dX8_back_37 : zD cX8_back 37 (.getfield 124) 3 40 := ⟨by decide +kernel, rfl⟩
theorem dX8_back_40 : zD cX8_back 40 .ireturn 1 41 := ⟨by decide +kernel, rfl⟩
theorem dX8_count_0 : zD cX8_count 0 (.iload_n 1) 1 1 := ⟨by decide +kernel, rfl⟩
theorem dX8_count_1 : zD cX8_count 1 (.tableswitch 97 0 7 #[47, 54, 61, 66, 71, 78, 85, 90]) 47 48 := ⟨by decide +kernel, rfl⟩
theorem dX8_count_48 : zD cX8_count 48 (.aload_n 0) 1 49 := ⟨by decide +kernel, rfl⟩
theorem dX8_count_49 : zD cX8_count 49 (.getfield 13) 3 52 := ⟨by decide +kernel, rfl⟩
theorem dX8_count_52 : zD cX8_count 52 (.iconst 0) 1 53 := ⟨by decide +kernel, rfl⟩
theorem dX8_count_53 : zD cX8_count 53 .iaload 1 54 := ⟨by decide +kernel, rfl⟩
theorem dX8_count_54 : zD cX8_count 54 .ireturn 1 55 := ⟨by decide +kernel, rfl⟩
theorem dX8_count_55 : zD cX8_count 55 (.aload_n 0) 1 56 := ⟨by decide +kernel, rfl⟩
theorem dX8_count_56 : zD cX8_count 56 (.getfield 40) 3 59 := ⟨by decide +kernel, rfl⟩
theorem dX8_count_59 : zD cX8_count 59 (.iconst 0) 1 60 := ⟨by decide +kernel, rfl⟩
theorem dX8_count_60 : zD cX8_count 60 .iaload 1 61 := ⟨by decide +kernel, rfl⟩
theorem dX8_count_61 : zD cX8_count 61 .ireturn 1 62 := ⟨by decide +kernel, rfl⟩
theorem dX8_count_62 : zD cX8_count 62 (.aload_n 0) 1 63 := ⟨by decide +kernel, rfl⟩
theorem dX8_count_63 : zD cX8_count 63 (.getfield 127) 3 66 := ⟨by decide +kernel, rfl⟩
theorem dX8_count_66 : zD cX8_count 66 .ireturn 1 67 := ⟨by decide +kernel, rfl⟩
theorem dX8_count_67 : zD cX8_count 67 (.aload_n 0) 1 68 := ⟨by decide +kernel, rfl⟩
theorem dX8_count_68 : zD cX8_count 68 (.getfield 124) 3 71 := ⟨by decide +kernel, rfl⟩
theorem dX8_count_71 : zD cX8_count 71 .ireturn 1 72 := ⟨by decide +kernel, rfl⟩
theorem dX8_count_72 : zD cX8_count 72 (.aload_n 0) 1 73 := ⟨by decide +kernel, rfl⟩
theorem dX8_count_73 : zD cX8_count 73 (.getfield 49) 3 76 := ⟨by decide +kernel, rfl⟩
theorem dX8_count_76 : zD cX8_count 76 (.iconst 0) 1 77 := ⟨by decide +kernel, rfl⟩
theorem dX8_count_77 : zD cX8_count 77 .iaload 1 78 := ⟨by decide +kernel, rfl⟩
theorem dX8_count_78 : zD cX8_count 78 .ireturn 1 79 := ⟨by decide +kernel, rfl⟩
theorem dX8_count_79 : zD cX8_count 79 (.aload_n 0) 1 80 := ⟨by decide +kernel, rfl⟩
theorem dX8_count_80 : zD cX8_count 80 (.getfield 49) 3 83 := ⟨by decide +kernel, rfl⟩
theorem dX8_count_83 : zD cX8_count 83 (.iconst 1) 1 84 := ⟨by decide +kernel, rfl⟩
theorem dX8_count_84 : zD cX8_count 84 .iaload 1 85 := ⟨by decide +kernel, rfl⟩
theorem dX8_count_85 : zD cX8_count 85 .ireturn 1 86 := ⟨by decide +kernel, rfl⟩
theorem dX8_count_86 : zD cX8_count 86 (.aload_n 0) 1 87 := ⟨by decide +kernel, rfl⟩
theorem dX8_count_87 : zD cX8_count 87 (.getfield 87) 3 90 := ⟨by decide +kernel, rfl⟩
theorem dX8_count_90 : zD cX8_count 90 .ireturn 1 91 := ⟨by decide +kernel, rfl⟩
theorem dX8_count_91 : zD cX8_count 91 (.aload_n 0) 1 92 := ⟨by decide +kernel, rfl⟩
theorem dX8_count_92 : zD cX8_count 92 (.getfield 37) 3 95 := ⟨by decide +kernel, rfl⟩
theorem dX8_count_95 : zD cX8_count 95 (.iconst 0) 1 96 := ⟨by decide +kernel, rfl⟩
theorem dX8_count_96 : zD cX8_count 96 .iaload 1 97 := ⟨by decide +kernel, rfl⟩
theorem dX8_count_97 : zD cX8_count 97 .ireturn 1 98 := ⟨by decide +kernel, rfl⟩
theorem dX8_count_98 : zD cX8_count 98 (.iconst (-1)) 1 99 := ⟨by decide +kernel, rfl⟩
theorem dX8_count_99 : zD cX8_count 99 .ireturn 1 100 := ⟨by decide +kernel, rfl⟩
end
section
section ZCW
variable {Γ : zG} {own : String} {b : ByteArray} {mL d : Nat} {σ : zM} {pc q t : Nat} {ls : List (Option Value)} {rest : List Value} {c ci idx : Nat} {fs : List zF} {m : zQ6} {args : zW → List Value} {a1 a2 a3 a4 a5 a6 : Value}
theorem z_cVi0 (h : zOk Γ own b mL d) {P : Int → zM → Prop} (hd : zD b pc (.invokevirtual idx) 3 q) (hm : zMl own idx m 0) (hv : zMv m) (hci : (vwCl[ci]?).map (fun r => r.1) = some m.1.cls) (hc : zlay[c]? = some (.inl (ci, fs))) (hM : zCi m args σ P) (ha : args (zw Γ) = zr (zw Γ) c :: []) (hrest : (rest.map fun v => v.category).sum ≤ 8) (hdd : m.2.2.2.2 + 1 ≤ d) (kk : ∀ v σ', P v σ' → zV Γ σ' q ls (zi v :: rest)) : zV Γ σ pc ls (zr (zw Γ) c :: rest) :=
  z_callV h hd hm hv hci hc hM ha rfl rfl hrest hdd ⟨Nat.zero_le _, Nat.zero_le _⟩ (fun r σ' hp => by obtain ⟨v, rfl, hp⟩ := hp; exact kk v σ' hp)
theorem z_cVl0 (h : zOk Γ own b mL d) {P : Int → zM → Prop} (hd : zD b pc (.invokevirtual idx) 3 q) (hm : zMl own idx m 0) (hv : zMv m) (hci : (vwCl[ci]?).map (fun r => r.1) = some m.1.cls) (hc : zlay[c]? = some (.inl (ci, fs))) (hM : zCl m args σ P) (ha : args (zw Γ) = zr (zw Γ) c :: []) (hrest : (rest.map fun v => v.category).sum ≤ 8) (hdd : m.2.2.2.2 + 1 ≤ d) (kk : ∀ v σ', P v σ' → zV Γ σ' q ls (zl v :: rest)) : zV Γ σ pc ls (zr (zw Γ) c :: rest) :=
  z_callV h hd hm hv hci hc hM ha rfl rfl hrest hdd ⟨Nat.zero_le _, Nat.zero_le _⟩ (fun r σ' hp => by obtain ⟨v, rfl, hp⟩ := hp; exact kk v σ' hp)
theorem z_cVv0 (h : zOk Γ own b mL d) {P : zM → Prop} (hd : zD b pc (.invokevirtual idx) 3 q) (hm : zMl own idx m 0) (hv : zMv m) (hci : (vwCl[ci]?).map (fun r => r.1) = some m.1.cls) (hc : zlay[c]? = some (.inl (ci, fs))) (hM : zCv m args σ P) (ha : args (zw Γ) = zr (zw Γ) c :: []) (hrest : (rest.map fun v => v.category).sum ≤ 8) (hdd : m.2.2.2.2 + 1 ≤ d) (kk : ∀ σ', P σ' → zV Γ σ' q ls (rest)) : zV Γ σ pc ls (zr (zw Γ) c :: rest) :=
  z_callV h hd hm hv hci hc hM ha rfl rfl hrest hdd ⟨Nat.zero_le _, Nat.zero_le _⟩ (fun r σ' hp => by obtain ⟨rfl, hp⟩ := hp; exact kk σ' hp)
theorem z_cVi1 (h : zOk Γ own b mL d) {P : Int → zM → Prop} (hd : zD b pc (.invokevirtual idx) 3 q) (hm : zMl own idx m 1) (hv : zMv m) (hci : (vwCl[ci]?).map (fun r => r.1) = some m.1.cls) (hc : zlay[c]? = some (.inl (ci, fs))) (hM : zCi m args σ P) (ha : args (zw Γ) = zr (zw Γ) c :: [a1]) (hrest : (rest.map fun v => v.category).sum ≤ 8) (hdd : m.2.2.2.2 + 1 ≤ d) (kk : ∀ v σ', P v σ' → zV Γ σ' q ls (zi v :: rest)) : zV Γ σ pc ls (a1 :: zr (zw Γ) c :: rest) :=
  z_callV h hd hm hv hci hc hM ha rfl rfl hrest hdd ⟨Nat.zero_le _, Nat.zero_le _⟩ (fun r σ' hp => by obtain ⟨v, rfl, hp⟩ := hp; exact kk v σ' hp)
theorem z_cSi1 (h : zOk Γ own b mL d) {P : Int → zM → Prop} (hd : zD b pc (.invokestatic idx) 3 q) (hm : zMl own idx m 1) (hv : Cond.static m.1 ∈ zAL) (hM : zCi m args σ P) (ha : args (zw Γ) = [a1]) (hrest : (rest.map fun v => v.category).sum ≤ 8) (hdd : m.2.2.2.2 + 1 ≤ d) (kk : ∀ v σ', P v σ' → zV Γ σ' q ls (zi v :: rest)) : zV Γ σ pc ls (a1 :: rest) :=
  z_callS h hd hm hv hM ha rfl rfl hrest hdd ⟨Nat.zero_le _, Nat.zero_le _⟩ (fun r σ' hp => by obtain ⟨v, rfl, hp⟩ := hp; exact kk v σ' hp)
theorem z_cVl1 (h : zOk Γ own b mL d) {P : Int → zM → Prop} (hd : zD b pc (.invokevirtual idx) 3 q) (hm : zMl own idx m 1) (hv : zMv m) (hci : (vwCl[ci]?).map (fun r => r.1) = some m.1.cls) (hc : zlay[c]? = some (.inl (ci, fs))) (hM : zCl m args σ P) (ha : args (zw Γ) = zr (zw Γ) c :: [a1]) (hrest : (rest.map fun v => v.category).sum ≤ 8) (hdd : m.2.2.2.2 + 1 ≤ d) (kk : ∀ v σ', P v σ' → zV Γ σ' q ls (zl v :: rest)) : zV Γ σ pc ls (a1 :: zr (zw Γ) c :: rest) :=
  z_callV h hd hm hv hci hc hM ha rfl rfl hrest hdd ⟨Nat.zero_le _, Nat.zero_le _⟩ (fun r σ' hp => by obtain ⟨v, rfl, hp⟩ := hp; exact kk v σ' hp)
theorem z_cSl1 (h : zOk Γ own b mL d) {P : Int → zM → Prop} (hd : zD b pc (.invokestatic idx) 3 q) (hm : zMl own idx m 1) (hv : Cond.static m.1 ∈ zAL) (hM : zCl m args σ P) (ha : args (zw Γ) = [a1]) (hrest : (rest.map fun v => v.category).sum ≤ 8) (hdd : m.2.2.2.2 + 1 ≤ d) (kk : ∀ v σ', P v σ' → zV Γ σ' q ls (zl v :: rest)) : zV Γ σ pc ls (a1 :: rest) :=
  z_callS h hd hm hv hM ha rfl rfl hrest hdd ⟨Nat.zero_le _, Nat.zero_le _⟩ (fun r σ' hp => by obtain ⟨v, rfl, hp⟩ := hp; exact kk v σ' hp)
theorem z_cVv1 (h : zOk Γ own b mL d) {P : zM → Prop} (hd : zD b pc (.invokevirtual idx) 3 q) (hm : zMl own idx m 1) (hv : zMv m) (hci : (vwCl[ci]?).map (fun r => r.1) = some m.1.cls) (hc : zlay[c]? = some (.inl (ci, fs))) (hM : zCv m args σ P) (ha : args (zw Γ) = zr (zw Γ) c :: [a1]) (hrest : (rest.map fun v => v.category).sum ≤ 8) (hdd : m.2.2.2.2 + 1 ≤ d) (kk : ∀ σ', P σ' → zV Γ σ' q ls (rest)) : zV Γ σ pc ls (a1 :: zr (zw Γ) c :: rest) :=
  z_callV h hd hm hv hci hc hM ha rfl rfl hrest hdd ⟨Nat.zero_le _, Nat.zero_le _⟩ (fun r σ' hp => by obtain ⟨rfl, hp⟩ := hp; exact kk σ' hp)
theorem z_cSv1 (h : zOk Γ own b mL d) {P : zM → Prop} (hd : zD b pc (.invokestatic idx) 3 q) (hm : zMl own idx m 1) (hv : Cond.static m.1 ∈ zAL) (hM : zCv m args σ P) (ha : args (zw Γ) = [a1]) (hrest : (rest.map fun v => v.category).sum ≤ 8) (hdd : m.2.2.2.2 + 1 ≤ d) (kk : ∀ σ', P σ' → zV Γ σ' q ls (rest)) : zV Γ σ pc ls (a1 :: rest) :=
  z_callS h hd hm hv hM ha rfl rfl hrest hdd ⟨Nat.zero_le _, Nat.zero_le _⟩ (fun r σ' hp => by obtain ⟨rfl, hp⟩ := hp; exact kk σ' hp)
theorem z_cVi2 (h : zOk Γ own b mL d) {P : Int → zM → Prop} (hd : zD b pc (.invokevirtual idx) 3 q) (hm : zMl own idx m 2) (hv : zMv m) (hci : (vwCl[ci]?).map (fun r => r.1) = some m.1.cls) (hc : zlay[c]? = some (.inl (ci, fs))) (hM : zCi m args σ P) (ha : args (zw Γ) = zr (zw Γ) c :: [a1, a2]) (hrest : (rest.map fun v => v.category).sum ≤ 8) (hdd : m.2.2.2.2 + 1 ≤ d) (kk : ∀ v σ', P v σ' → zV Γ σ' q ls (zi v :: rest)) : zV Γ σ pc ls (a2 :: a1 :: zr (zw Γ) c :: rest) :=
  z_callV h hd hm hv hci hc hM ha rfl rfl hrest hdd ⟨Nat.zero_le _, Nat.zero_le _⟩ (fun r σ' hp => by obtain ⟨v, rfl, hp⟩ := hp; exact kk v σ' hp)
theorem z_cSi2 (h : zOk Γ own b mL d) {P : Int → zM → Prop} (hd : zD b pc (.invokestatic idx) 3 q) (hm : zMl own idx m 2) (hv : Cond.static m.1 ∈ zAL) (hM : zCi m args σ P) (ha : args (zw Γ) = [a1, a2]) (hrest : (rest.map fun v => v.category).sum ≤ 8) (hdd : m.2.2.2.2 + 1 ≤ d) (kk : ∀ v σ', P v σ' → zV Γ σ' q ls (zi v :: rest)) : zV Γ σ pc ls (a2 :: a1 :: rest) :=
  z_callS h hd hm hv hM ha rfl rfl hrest hdd ⟨Nat.zero_le _, Nat.zero_le _⟩ (fun r σ' hp => by obtain ⟨v, rfl, hp⟩ := hp; exact kk v σ' hp)
theorem z_cVl2 (h : zOk Γ own b mL d) {P : Int → zM → Prop} (hd : zD b pc (.invokevirtual idx) 3 q) (hm : zMl own idx m 2) (hv : zMv m) (hci : (vwCl[ci]?).map (fun r => r.1) = some m.1.cls) (hc : zlay[c]? = some (.inl (ci, fs))) (hM : zCl m args σ P) (ha : args (zw Γ) = zr (zw Γ) c :: [a1, a2]) (hrest : (rest.map fun v => v.category).sum ≤ 8) (hdd : m.2.2.2.2 + 1 ≤ d) (kk : ∀ v σ', P v σ' → zV Γ σ' q ls (zl v :: rest)) : zV Γ σ pc ls (a2 :: a1 :: zr (zw Γ) c :: rest) :=
  z_callV h hd hm hv hci hc hM ha rfl rfl hrest hdd ⟨Nat.zero_le _, Nat.zero_le _⟩ (fun r σ' hp => by obtain ⟨v, rfl, hp⟩ := hp; exact kk v σ' hp)
theorem z_cSl2 (h : zOk Γ own b mL d) {P : Int → zM → Prop} (hd : zD b pc (.invokestatic idx) 3 q) (hm : zMl own idx m 2) (hv : Cond.static m.1 ∈ zAL) (hM : zCl m args σ P) (ha : args (zw Γ) = [a1, a2]) (hrest : (rest.map fun v => v.category).sum ≤ 8) (hdd : m.2.2.2.2 + 1 ≤ d) (kk : ∀ v σ', P v σ' → zV Γ σ' q ls (zl v :: rest)) : zV Γ σ pc ls (a2 :: a1 :: rest) :=
  z_callS h hd hm hv hM ha rfl rfl hrest hdd ⟨Nat.zero_le _, Nat.zero_le _⟩ (fun r σ' hp => by obtain ⟨v, rfl, hp⟩ := hp; exact kk v σ' hp)
theorem z_cVv2 (h : zOk Γ own b mL d) {P : zM → Prop} (hd : zD b pc (.invokevirtual idx) 3 q) (hm : zMl own idx m 2) (hv : zMv m) (hci : (vwCl[ci]?).map (fun r => r.1) = some m.1.cls) (hc : zlay[c]? = some (.inl (ci, fs))) (hM : zCv m args σ P) (ha : args (zw Γ) = zr (zw Γ) c :: [a1, a2]) (hrest : (rest.map fun v => v.category).sum ≤ 8) (hdd : m.2.2.2.2 + 1 ≤ d) (kk : ∀ σ', P σ' → zV Γ σ' q ls (rest)) : zV Γ σ pc ls (a2 :: a1 :: zr (zw Γ) c :: rest) :=
  z_callV h hd hm hv hci hc hM ha rfl rfl hrest hdd ⟨Nat.zero_le _, Nat.zero_le _⟩ (fun r σ' hp => by obtain ⟨rfl, hp⟩ := hp; exact kk σ' hp)
theorem z_cSv2 (h : zOk Γ own b mL d) {P : zM → Prop} (hd : zD b pc (.invokestatic idx) 3 q) (hm : zMl own idx m 2) (hv : Cond.static m.1 ∈ zAL) (hM : zCv m args σ P) (ha : args (zw Γ) = [a1, a2]) (hrest : (rest.map fun v => v.category).sum ≤ 8) (hdd : m.2.2.2.2 + 1 ≤ d) (kk : ∀ σ', P σ' → zV Γ σ' q ls (rest)) : zV Γ σ pc ls (a2 :: a1 :: rest) :=
  z_callS h hd hm hv hM ha rfl rfl hrest hdd ⟨Nat.zero_le _, Nat.zero_le _⟩ (fun r σ' hp => by obtain ⟨rfl, hp⟩ := hp; exact kk σ' hp)
theorem z_cVi3 (h : zOk Γ own b mL d) {P : Int → zM → Prop} (hd : zD b pc (.invokevirtual idx) 3 q) (hm : zMl own idx m 3) (hv : zMv m) (hci : (vwCl[ci]?).map (fun r => r.1) = some m.1.cls) (hc : zlay[c]? = some (.inl (ci, fs))) (hM : zCi m args σ P) (ha : args (zw Γ) = zr (zw Γ) c :: [a1, a2, a3]) (hrest : (rest.map fun v => v.category).sum ≤ 8) (hdd : m.2.2.2.2 + 1 ≤ d) (kk : ∀ v σ', P v σ' → zV Γ σ' q ls (zi v :: rest)) : zV Γ σ pc ls (a3 :: a2 :: a1 :: zr (zw Γ) c :: rest) :=
  z_callV h hd hm hv hci hc hM ha rfl rfl hrest hdd ⟨Nat.zero_le _, Nat.zero_le _⟩ (fun r σ' hp => by obtain ⟨v, rfl, hp⟩ := hp; exact kk v σ' hp)
theorem z_cSi3 (h : zOk Γ own b mL d) {P : Int → zM → Prop} (hd : zD b pc (.invokestatic idx) 3 q) (hm : zMl own idx m 3) (hv : Cond.static m.1 ∈ zAL) (hM : zCi m args σ P) (ha : args (zw Γ) = [a1, a2, a3]) (hrest : (rest.map fun v => v.category).sum ≤ 8) (hdd : m.2.2.2.2 + 1 ≤ d) (kk : ∀ v σ', P v σ' → zV Γ σ' q ls (zi v :: rest)) : zV Γ σ pc ls (a3 :: a2 :: a1 :: rest) :=
  z_callS h hd hm hv hM ha rfl rfl hrest hdd ⟨Nat.zero_le _, Nat.zero_le _⟩ (fun r σ' hp => by obtain ⟨v, rfl, hp⟩ := hp; exact kk v σ' hp)
theorem z_cVl3 (h : zOk Γ own b mL d) {P : Int → zM → Prop} (hd : zD b pc (.invokevirtual idx) 3 q) (hm : zMl own idx m 3) (hv : zMv m) (hci : (vwCl[ci]?).map (fun r => r.1) = some m.1.cls) (hc : zlay[c]? = some (.inl (ci, fs))) (hM : zCl m args σ P) (ha : args (zw Γ) = zr (zw Γ) c :: [a1, a2, a3]) (hrest : (rest.map fun v => v.category).sum ≤ 8) (hdd : m.2.2.2.2 + 1 ≤ d) (kk : ∀ v σ', P v σ' → zV Γ σ' q ls (zl v :: rest)) : zV Γ σ pc ls (a3 :: a2 :: a1 :: zr (zw Γ) c :: rest) :=
  z_callV h hd hm hv hci hc hM ha rfl rfl hrest hdd ⟨Nat.zero_le _, Nat.zero_le _⟩ (fun r σ' hp => by obtain ⟨v, rfl, hp⟩ := hp; exact kk v σ' hp)
theorem z_cSl3 (h : zOk Γ own b mL d) {P : Int → zM → Prop} (hd : zD b pc (.invokestatic idx) 3 q) (hm : zMl own idx m 3) (hv : Cond.static m.1 ∈ zAL) (hM : zCl m args σ P) (ha : args (zw Γ) = [a1, a2, a3]) (hrest : (rest.map fun v => v.category).sum ≤ 8) (hdd : m.2.2.2.2 + 1 ≤ d) (kk : ∀ v σ', P v σ' → zV Γ σ' q ls (zl v :: rest)) : zV Γ σ pc ls (a3 :: a2 :: a1 :: rest) :=
  z_callS h hd hm hv hM ha rfl rfl hrest hdd ⟨Nat.zero_le _, Nat.zero_le _⟩ (fun r σ' hp => by obtain ⟨v, rfl, hp⟩ := hp; exact kk v σ' hp)
theorem z_cVv3 (h : zOk Γ own b mL d) {P : zM → Prop} (hd : zD b pc (.invokevirtual idx) 3 q) (hm : zMl own idx m 3) (hv : zMv m) (hci : (vwCl[ci]?).map (fun r => r.1) = some m.1.cls) (hc : zlay[c]? = some (.inl (ci, fs))) (hM : zCv m args σ P) (ha : args (zw Γ) = zr (zw Γ) c :: [a1, a2, a3]) (hrest : (rest.map fun v => v.category).sum ≤ 8) (hdd : m.2.2.2.2 + 1 ≤ d) (kk : ∀ σ', P σ' → zV Γ σ' q ls (rest)) : zV Γ σ pc ls (a3 :: a2 :: a1 :: zr (zw Γ) c :: rest) :=
  z_callV h hd hm hv hci hc hM ha rfl rfl hrest hdd ⟨Nat.zero_le _, Nat.zero_le _⟩ (fun r σ' hp => by obtain ⟨rfl, hp⟩ := hp; exact kk σ' hp)
theorem z_cSv3 (h : zOk Γ own b mL d) {P : zM → Prop} (hd : zD b pc (.invokestatic idx) 3 q) (hm : zMl own idx m 3) (hv : Cond.static m.1 ∈ zAL) (hM : zCv m args σ P) (ha : args (zw Γ) = [a1, a2, a3]) (hrest : (rest.map fun v => v.category).sum ≤ 8) (hdd : m.2.2.2.2 + 1 ≤ d) (kk : ∀ σ', P σ' → zV Γ σ' q ls (rest)) : zV Γ σ pc ls (a3 :: a2 :: a1 :: rest) :=
  z_callS h hd hm hv hM ha rfl rfl hrest hdd ⟨Nat.zero_le _, Nat.zero_le _⟩ (fun r σ' hp => by obtain ⟨rfl, hp⟩ := hp; exact kk σ' hp)
theorem z_cVi4 (h : zOk Γ own b mL d) {P : Int → zM → Prop} (hd : zD b pc (.invokevirtual idx) 3 q) (hm : zMl own idx m 4) (hv : zMv m) (hci : (vwCl[ci]?).map (fun r => r.1) = some m.1.cls) (hc : zlay[c]? = some (.inl (ci, fs))) (hM : zCi m args σ P) (ha : args (zw Γ) = zr (zw Γ) c :: [a1, a2, a3, a4]) (hrest : (rest.map fun v => v.category).sum ≤ 8) (hdd : m.2.2.2.2 + 1 ≤ d) (kk : ∀ v σ', P v σ' → zV Γ σ' q ls (zi v :: rest)) : zV Γ σ pc ls (a4 :: a3 :: a2 :: a1 :: zr (zw Γ) c :: rest) :=
  z_callV h hd hm hv hci hc hM ha rfl rfl hrest hdd ⟨Nat.zero_le _, Nat.zero_le _⟩ (fun r σ' hp => by obtain ⟨v, rfl, hp⟩ := hp; exact kk v σ' hp)
theorem z_cSi4 (h : zOk Γ own b mL d) {P : Int → zM → Prop} (hd : zD b pc (.invokestatic idx) 3 q) (hm : zMl own idx m 4) (hv : Cond.static m.1 ∈ zAL) (hM : zCi m args σ P) (ha : args (zw Γ) = [a1, a2, a3, a4]) (hrest : (rest.map fun v => v.category).sum ≤ 8) (hdd : m.2.2.2.2 + 1 ≤ d) (kk : ∀ v σ', P v σ' → zV Γ σ' q ls (zi v :: rest)) : zV Γ σ pc ls (a4 :: a3 :: a2 :: a1 :: rest) :=
  z_callS h hd hm hv hM ha rfl rfl hrest hdd ⟨Nat.zero_le _, Nat.zero_le _⟩ (fun r σ' hp => by obtain ⟨v, rfl, hp⟩ := hp; exact kk v σ' hp)
theorem z_cVl4 (h : zOk Γ own b mL d) {P : Int → zM → Prop} (hd : zD b pc (.invokevirtual idx) 3 q) (hm : zMl own idx m 4) (hv : zMv m) (hci : (vwCl[ci]?).map (fun r => r.1) = some m.1.cls) (hc : zlay[c]? = some (.inl (ci, fs))) (hM : zCl m args σ P) (ha : args (zw Γ) = zr (zw Γ) c :: [a1, a2, a3, a4]) (hrest : (rest.map fun v => v.category).sum ≤ 8) (hdd : m.2.2.2.2 + 1 ≤ d) (kk : ∀ v σ', P v σ' → zV Γ σ' q ls (zl v :: rest)) : zV Γ σ pc ls (a4 :: a3 :: a2 :: a1 :: zr (zw Γ) c :: rest) :=
  z_callV h hd hm hv hci hc hM ha rfl rfl hrest hdd ⟨Nat.zero_le _, Nat.zero_le _⟩ (fun r σ' hp => by obtain ⟨v, rfl, hp⟩ := hp; exact kk v σ' hp)
theorem z_cSl4 (h : zOk Γ own b mL d) {P : Int → zM → Prop} (hd : zD b pc (.invokestatic idx) 3 q) (hm : zMl own idx m 4) (hv : Cond.static m.1 ∈ zAL) (hM : zCl m args σ P) (ha : args (zw Γ) = [a1, a2, a3, a4]) (hrest : (rest.map fun v => v.category).sum ≤ 8) (hdd : m.2.2.2.2 + 1 ≤ d) (kk : ∀ v σ', P v σ' → zV Γ σ' q ls (zl v :: rest)) : zV Γ σ pc ls (a4 :: a3 :: a2 :: a1 :: rest) :=
  z_callS h hd hm hv hM ha rfl rfl hrest hdd ⟨Nat.zero_le _, Nat.zero_le _⟩ (fun r σ' hp => by obtain ⟨v, rfl, hp⟩ := hp; exact kk v σ' hp)
theorem z_cVv4 (h : zOk Γ own b mL d) {P : zM → Prop} (hd : zD b pc (.invokevirtual idx) 3 q) (hm : zMl own idx m 4) (hv : zMv m) (hci : (vwCl[ci]?).map (fun r => r.1) = some m.1.cls) (hc : zlay[c]? = some (.inl (ci, fs))) (hM : zCv m args σ P) (ha : args (zw Γ) = zr (zw Γ) c :: [a1, a2, a3, a4]) (hrest : (rest.map fun v => v.category).sum ≤ 8) (hdd : m.2.2.2.2 + 1 ≤ d) (kk : ∀ σ', P σ' → zV Γ σ' q ls (rest)) : zV Γ σ pc ls (a4 :: a3 :: a2 :: a1 :: zr (zw Γ) c :: rest) :=
  z_callV h hd hm hv hci hc hM ha rfl rfl hrest hdd ⟨Nat.zero_le _, Nat.zero_le _⟩ (fun r σ' hp => by obtain ⟨rfl, hp⟩ := hp; exact kk σ' hp)
theorem z_cSv4 (h : zOk Γ own b mL d) {P : zM → Prop} (hd : zD b pc (.invokestatic idx) 3 q) (hm : zMl own idx m 4) (hv : Cond.static m.1 ∈ zAL) (hM : zCv m args σ P) (ha : args (zw Γ) = [a1, a2, a3, a4]) (hrest : (rest.map fun v => v.category).sum ≤ 8) (hdd : m.2.2.2.2 + 1 ≤ d) (kk : ∀ σ', P σ' → zV Γ σ' q ls (rest)) : zV Γ σ pc ls (a4 :: a3 :: a2 :: a1 :: rest) :=
  z_callS h hd hm hv hM ha rfl rfl hrest hdd ⟨Nat.zero_le _, Nat.zero_le _⟩ (fun r σ' hp => by obtain ⟨rfl, hp⟩ := hp; exact kk σ' hp)
theorem z_cVi5 (h : zOk Γ own b mL d) {P : Int → zM → Prop} (hd : zD b pc (.invokevirtual idx) 3 q) (hm : zMl own idx m 5) (hv : zMv m) (hci : (vwCl[ci]?).map (fun r => r.1) = some m.1.cls) (hc : zlay[c]? = some (.inl (ci, fs))) (hM : zCi m args σ P) (ha : args (zw Γ) = zr (zw Γ) c :: [a1, a2, a3, a4, a5]) (hrest : (rest.map fun v => v.category).sum ≤ 8) (hdd : m.2.2.2.2 + 1 ≤ d) (kk : ∀ v σ', P v σ' → zV Γ σ' q ls (zi v :: rest)) : zV Γ σ pc ls (a5 :: a4 :: a3 :: a2 :: a1 :: zr (zw Γ) c :: rest) :=
  z_callV h hd hm hv hci hc hM ha rfl rfl hrest hdd ⟨Nat.zero_le _, Nat.zero_le _⟩ (fun r σ' hp => by obtain ⟨v, rfl, hp⟩ := hp; exact kk v σ' hp)
theorem z_cSi5 (h : zOk Γ own b mL d) {P : Int → zM → Prop} (hd : zD b pc (.invokestatic idx) 3 q) (hm : zMl own idx m 5) (hv : Cond.static m.1 ∈ zAL) (hM : zCi m args σ P) (ha : args (zw Γ) = [a1, a2, a3, a4, a5]) (hrest : (rest.map fun v => v.category).sum ≤ 8) (hdd : m.2.2.2.2 + 1 ≤ d) (kk : ∀ v σ', P v σ' → zV Γ σ' q ls (zi v :: rest)) : zV Γ σ pc ls (a5 :: a4 :: a3 :: a2 :: a1 :: rest) :=
  z_callS h hd hm hv hM ha rfl rfl hrest hdd ⟨Nat.zero_le _, Nat.zero_le _⟩ (fun r σ' hp => by obtain ⟨v, rfl, hp⟩ := hp; exact kk v σ' hp)
theorem z_cVl5 (h : zOk Γ own b mL d) {P : Int → zM → Prop} (hd : zD b pc (.invokevirtual idx) 3 q) (hm : zMl own idx m 5) (hv : zMv m) (hci : (vwCl[ci]?).map (fun r => r.1) = some m.1.cls) (hc : zlay[c]? = some (.inl (ci, fs))) (hM : zCl m args σ P) (ha : args (zw Γ) = zr (zw Γ) c :: [a1, a2, a3, a4, a5]) (hrest : (rest.map fun v => v.category).sum ≤ 8) (hdd : m.2.2.2.2 + 1 ≤ d) (kk : ∀ v σ', P v σ' → zV Γ σ' q ls (zl v :: rest)) : zV Γ σ pc ls (a5 :: a4 :: a3 :: a2 :: a1 :: zr (zw Γ) c :: rest) :=
  z_callV h hd hm hv hci hc hM ha rfl rfl hrest hdd ⟨Nat.zero_le _, Nat.zero_le _⟩ (fun r σ' hp => by obtain ⟨v, rfl, hp⟩ := hp; exact kk v σ' hp)
theorem z_cSl5 (h : zOk Γ own b mL d) {P : Int → zM → Prop} (hd : zD b pc (.invokestatic idx) 3 q) (hm : zMl own idx m 5) (hv : Cond.static m.1 ∈ zAL) (hM : zCl m args σ P) (ha : args (zw Γ) = [a1, a2, a3, a4, a5]) (hrest : (rest.map fun v => v.category).sum ≤ 8) (hdd : m.2.2.2.2 + 1 ≤ d) (kk : ∀ v σ', P v σ' → zV Γ σ' q ls (zl v :: rest)) : zV Γ σ pc ls (a5 :: a4 :: a3 :: a2 :: a1 :: rest) :=
  z_callS h hd hm hv hM ha rfl rfl hrest hdd ⟨Nat.zero_le _, Nat.zero_le _⟩ (fun r σ' hp => by obtain ⟨v, rfl, hp⟩ := hp; exact kk v σ' hp)
theorem z_cVv5 (h : zOk Γ own b mL d) {P : zM → Prop} (hd : zD b pc (.invokevirtual idx) 3 q) (hm : zMl own idx m 5) (hv : zMv m) (hci : (vwCl[ci]?).map (fun r => r.1) = some m.1.cls) (hc : zlay[c]? = some (.inl (ci, fs))) (hM : zCv m args σ P) (ha : args (zw Γ) = zr (zw Γ) c :: [a1, a2, a3, a4, a5]) (hrest : (rest.map fun v => v.category).sum ≤ 8) (hdd : m.2.2.2.2 + 1 ≤ d) (kk : ∀ σ', P σ' → zV Γ σ' q ls (rest)) : zV Γ σ pc ls (a5 :: a4 :: a3 :: a2 :: a1 :: zr (zw Γ) c :: rest) :=
  z_callV h hd hm hv hci hc hM ha rfl rfl hrest hdd ⟨Nat.zero_le _, Nat.zero_le _⟩ (fun r σ' hp => by obtain ⟨rfl, hp⟩ := hp; exact kk σ' hp)
theorem z_cSv5 (h : zOk Γ own b mL d) {P : zM → Prop} (hd : zD b pc (.invokestatic idx) 3 q) (hm : zMl own idx m 5) (hv : Cond.static m.1 ∈ zAL) (hM : zCv m args σ P) (ha : args (zw Γ) = [a1, a2, a3, a4, a5]) (hrest : (rest.map fun v => v.category).sum ≤ 8) (hdd : m.2.2.2.2 + 1 ≤ d) (kk : ∀ σ', P σ' → zV Γ σ' q ls (rest)) : zV Γ σ pc ls (a5 :: a4 :: a3 :: a2 :: a1 :: rest) :=
  z_callS h hd hm hv hM ha rfl rfl hrest hdd ⟨Nat.zero_le _, Nat.zero_le _⟩ (fun r σ' hp => by obtain ⟨rfl, hp⟩ := hp; exact kk σ' hp)
end ZCW
theorem zCi_mk {own : String} {m : zQ6} {args : zW → List Value} {σ : zM} {P : Int → zM → Prop} (hown : m.1.cls = own) (hy : plainName own = true) (ls : zW → List (Option Value)) (hls : ∀ w, zas 0 (ls w) = lv_args 0 (args w)) (hlen : ∀ w, (lg_sl (args w)).length ≤ m.2.2.1) (body : ∀ Γ, zOk Γ own m.2.1 m.2.2.1 m.2.2.2.2 → zRt Γ m.2.2.2.1 (fun r σ' => ∃ v, r = some (zi v) ∧ P v σ') → zV Γ σ 0 (ls (zw Γ)) []) : zCi m args σ P := zCT_mk hown hy ls hls hlen body
theorem zCl_mk {own : String} {m : zQ6} {args : zW → List Value} {σ : zM} {P : Int → zM → Prop} (hown : m.1.cls = own) (hy : plainName own = true) (ls : zW → List (Option Value)) (hls : ∀ w, zas 0 (ls w) = lv_args 0 (args w)) (hlen : ∀ w, (lg_sl (args w)).length ≤ m.2.2.1) (body : ∀ Γ, zOk Γ own m.2.1 m.2.2.1 m.2.2.2.2 → zRt Γ m.2.2.2.1 (fun r σ' => ∃ v, r = some (zl v) ∧ P v σ') → zV Γ σ 0 (ls (zw Γ)) []) : zCl m args σ P := zCT_mk hown hy ls hls hlen body
theorem zCv_mk {own : String} {m : zQ6} {args : zW → List Value} {σ : zM} {P : zM → Prop} (hown : m.1.cls = own) (hy : plainName own = true) (ls : zW → List (Option Value)) (hls : ∀ w, zas 0 (ls w) = lv_args 0 (args w)) (hlen : ∀ w, (lg_sl (args w)).length ≤ m.2.2.1) (body : ∀ Γ, zOk Γ own m.2.1 m.2.2.1 m.2.2.2.2 → zRt Γ m.2.2.2.1 (fun r σ' => r = none ∧ P σ') → zV Γ σ 0 (ls (zw Γ)) []) : zCv m args σ P := zCT_mk hown hy ls hls hlen body
theorem z_irI {Γ : zG} {own : String} {b : ByteArray} {mL d : Nat} {σ : zM} {pc q : Nat} {ls : List (Option Value)} {x : Int} {P : Int → zM → Prop} (h : zOk Γ own b mL d) (hr : zRt Γ (some .int) (fun r σ' => ∃ v, r = some (zi v) ∧ P v σ')) (hd : zD b pc .ireturn 1 q) (hp : P x σ) : zV Γ σ pc ls [zi x] := z_iret h hr hd ⟨x, rfl, hp⟩
theorem z_irZ {Γ : zG} {own : String} {b : ByteArray} {mL d : Nat} {σ : zM} {pc q : Nat} {ls : List (Option Value)} {x : Int} {P : Int → zM → Prop} (h : zOk Γ own b mL d) (hr : zRt Γ (some .boolean) (fun r σ' => ∃ v, r = some (zi v) ∧ P v σ')) (hd : zD b pc .ireturn 1 q) (hx : x = 0 ∨ x = 1) (hp : P x σ) : zV Γ σ pc ls [zi x] := z_zret h hr hd hx ⟨x, rfl, hp⟩
theorem z_irL {Γ : zG} {own : String} {b : ByteArray} {mL d : Nat} {σ : zM} {pc q : Nat} {ls : List (Option Value)} {x : Int} {P : Int → zM → Prop} (h : zOk Γ own b mL d) (hr : zRt Γ (some .long) (fun r σ' => ∃ v, r = some (zl v) ∧ P v σ')) (hd : zD b pc .lreturn 1 q) (hp : P x σ) : zV Γ σ pc ls [zl x] := z_lret h hr hd ⟨x, rfl, hp⟩
theorem z_irV {Γ : zG} {own : String} {b : ByteArray} {mL d : Nat} {σ : zM} {pc q : Nat} {ls : List (Option Value)} {P : zM → Prop} (h : zOk Γ own b mL d) (hr : zRt Γ none (fun r σ' => r = none ∧ P σ')) (hd : zD b pc .return_ 1 q) (hp : P σ) : zV Γ σ pc ls [] := z_vret h hr hd ⟨rfl, hp⟩
/-- fewer locals, by their values -/
theorem zV_eq {Γ : zG} {σ σ' : zM} {pc : Nat} {ls : List (Option Value)} {st : List Value} (e : σ' = σ) (kk : zV Γ σ pc ls st) : zV Γ σ' pc ls st := e ▸ kk
theorem zV_less {Γ : zG} {ws : va_W} {k n pc : Nat} {ls ls' : List (Option Value)} {st : List Value} (hs : ∀ i v, zg ls' i = some v → zg ls i = some v) (kk : zVw Γ ws k n pc ls' st) : zVw Γ ws k n pc ls st := fun H locs arr hP hD hS hl => kk H locs arr hP hD hS (zlok_mono hl (fun i v h => (zas_mem ls 0 (i, v)).mpr ⟨Nat.zero_le _, hs i v h⟩))
theorem zg_d {ls ls' : List (Option Value)} {a b : Option Value} (h : b = a ∨ b = none) (hs : ∀ i v, zg ls' i = some v → zg ls i = some v) : ∀ i v, zg (b :: ls') i = some v → zg (a :: ls) i = some v := by
  intro i v hv
  cases i with
  | zero => rcases h with rfl | rfl
            · exact hv
            · cases hv
  | succ i => exact hs i v hv

section ZHW
variable {Γ : zG} {own : String} {b : ByteArray} {mL d : Nat} {σ : zM} {k n : Nat} {pc q t : Nat} {ls : List (Option Value)} {st : List Value} {x y : Int} {c ci idx j : Nat} {fs : List zF}
theorem y_get (ji : Int) (h : zOk Γ own b mL d) (hd : zD b pc (.getfield idx) 3 q) (hf : zFl own idx ci j) (hc : zlay[c]? = some (.inl (ci, fs))) (hj : fs[j]? = some none) (e : (j : Int) = ji) (kk : zVw Γ (zwl (zw Γ) σ) k n q ls (zi (σ c ji) :: st)) : zVw Γ (zwl (zw Γ) σ) k n pc ls (zr (zw Γ) c :: st) := by subst e; exact z_get h hd hf hc hj kk
theorem y_getd (ji : Int) (h : zOk Γ own b mL d) {r : Nat} (hd : zD b pc (.getfield idx) 3 q) (hf : zFl own idx ci j) (hc : zlay[c]? = some (.inl (ci, fs))) (hj : fs[j]? = some (some none)) (e : (j : Int) = ji) (hr : σ c ji = r) (kk : zVw Γ (zwl (zw Γ) σ) k n q ls (zr (zw Γ) r :: st)) : zVw Γ (zwl (zw Γ) σ) k n pc ls (zr (zw Γ) c :: st) := by subst e; exact z_getd h hd hf hc hj hr kk
theorem y_put (ji : Int) (h : zOk Γ own b mL d) (hd : zD b pc (.putfield idx) 3 q) (hf : zFl own idx ci j) (hp : zFp ci j .int) (hc : zlay[c]? = some (.inl (ci, fs))) (hj : fs[j]? = some none) (e : (j : Int) = ji) (kk : zVw Γ (zwl (zw Γ) (zup σ c ji x)) k n q ls st) : zVw Γ (zwl (zw Γ) σ) k n pc ls (zi x :: zr (zw Γ) c :: st) := by subst e; exact z_put h hd hf hp hc hj kk
theorem y_putd (ji : Int) (h : zOk Γ own b mL d) {r : Nat} {ft : FieldType} (hd : zD b pc (.putfield idx) 3 q) (hf : zFl own idx ci j) (hp : zFp ci j ft) (hc : zlay[c]? = some (.inl (ci, fs))) (hj : fs[j]? = some (some none)) (e : (j : Int) = ji) (hn : ∀ a, narrow ft (.ref a) = .ref a) (hfit : ∀ a, fits ft (.ref a) = true) (kk : zVw Γ (zwl (zw Γ) (zup σ c ji r)) k n q ls st) : zVw Γ (zwl (zw Γ) σ) k n pc ls (zr (zw Γ) r :: zr (zw Γ) c :: st) := by subst e; exact z_putd h hd hf hp hc hj hn hfit kk
theorem y_alen (Ni : Int) (h : zOk Γ own b mL d) {ty N : Nat} (hd : zD b pc .arraylength 1 q) (hc : zlay[c]? = some (.inr (.inl (ty, N)))) (ht : ty < 4) (e : (N : Int) = Ni) (kk : zVw Γ (zwl (zw Γ) σ) k n q ls (zi Ni :: st)) : zVw Γ (zwl (zw Γ) σ) k n pc ls (zr (zw Γ) c :: st) := by subst e; exact z_alen h hd hc ht kk
end ZHW
set_option maxRecDepth 100000 in
theorem lmS : Cond.static Lib.Math.min.name ∈ zAL := zAL_of 502 (by rfl) rfl
set_option maxRecDepth 100000 in
theorem lmI : Cond.initialized "java/lang/Math" ∈ zAL := zAL_of 37 (by rfl) rfl
set_option maxRecDepth 100000 in
theorem lmC : Cond.code Lib.Math.min.name Lib.Math.min.code 2 (some .int) ∈ zAL := zAL_of 503 (by rfl) rfl
set_option maxRecDepth 100000 in
theorem lmX1_158 : Cond.methodLink RX1 158 Lib.Math.min.name ∈ zAL := zAL_of 501 (by rfl) rfl
end
section
/-! ===== words for the state ===== -/
/-- nothing but the cells lo .. hi has changed -/
def zfr (lo hi : Nat) (σ σ' : zM) : Prop := ∀ c, (c < lo ∨ hi < c) → ∀ i, σ' c i = σ c i
theorem zfr_rf {lo hi : Nat} {σ : zM} : zfr lo hi σ σ := fun _ _ _ => rfl
theorem zfr_tr {lo hi : Nat} {σ σ1 σ2 : zM} (h1 : zfr lo hi σ σ1) (h2 : zfr lo hi σ1 σ2) : zfr lo hi σ σ2 := fun c h i => (h2 c h i).trans (h1 c h i)
theorem zfr_mono {lo hi lo' hi' : Nat} {σ σ' : zM} (h : zfr lo hi σ σ') (h1 : lo' ≤ lo) (h2 : hi ≤ hi') : zfr lo' hi' σ σ' := fun c hc i => h c (by omega) i
theorem zfr_up {lo hi : Nat} {σ σ' : zM} {c : Nat} {i v : Int} (h : zfr lo hi σ σ') (h1 : lo ≤ c) (h2 : c ≤ hi) : zfr lo hi σ (zup σ' c i v) := fun c' hc j => by rw [zup_ne (by omega)]; exact h c' hc j
/-- bits of the minutes m -/
def zbn : List (Int × Int) → Int → Nat
  | [], _ => 0
  | p :: t, m => (if p.2 = m then 1 else 0) + 2 * zbn t m
theorem zbn_lt : ∀ (l : List (Int × Int)) (m : Int), zbn l m < 2 ^ l.length
  | [], _ => by simp [zbn]
  | p :: t, m => by
    have := zbn_lt t m
    simp only [zbn, List.length_cons, Nat.pow_succ]
    split <;> omega
theorem zbn_app : ∀ (l : List (Int × Int)) (p : Int × Int) (m : Int), zbn (l ++ [p]) m = zbn l m + (if p.2 = m then 2 ^ l.length else 0)
  | [], p, m => by simp [zbn]
  | q :: t, p, m => by
    simp only [List.cons_append, zbn, List.length_cons, Nat.pow_succ, zbn_app t p m]
    split <;> split <;> omega
theorem zbn_bit : ∀ (l : List (Int × Int)) (m : Int) (c : Nat), (zbn l m).testBit c = match l[c]? with | some p => decide (p.2 = m) | none => false
  | [], m, c => by simp [zbn]
  | p :: t, m, 0 => by
    simp only [zbn, Nat.testBit_zero, List.getElem?_cons_zero]
    split <;> simp_all <;> omega
  | p :: t, m, c + 1 => by
    have := zbn_bit t m c
    simp only [List.getElem?_cons_succ]
    rw [← this, zbn, Nat.testBit_succ]
    congr 1
    split <;> omega
theorem zshl_1 {k : Int} (h : 0 ≤ k ∧ k < 31) : zshl 1 k = 2 ^ k.toNat := by
  have : ∀ j : Fin 31, zshl 1 ((j.val : Nat) : Int) = 2 ^ j.val := by decide +kernel
  obtain ⟨n, rfl⟩ := Int.eq_ofNat_of_zero_le h.1
  exact this ⟨n, by omega⟩
theorem zor_p {a k : Nat} (hk : k < 8) (ha : a < 2 ^ k) : zor (a : Int) (2 ^ k) = (a : Int) + 2 ^ k := by
  have : ∀ k : Fin 8, ∀ a : Fin 128, a.val < 2 ^ k.val → zor ((a.val : Nat) : Int) (2 ^ k.val) = ((a.val : Nat) : Int) + 2 ^ k.val := by decide +kernel
  have h2 : 2 ^ k ≤ 2 ^ 7 := Nat.pow_le_pow_right (by decide) (by omega)
  exact this ⟨k, hk⟩ ⟨a, by omega⟩ ha
theorem zandn_p {a k : Nat} (hk : k < 8) (ha : a < 2 ^ k) : zand ((a : Int) + 2 ^ k) (zxor (2 ^ k) (-1)) = a ∧ zand (a : Int) (zxor (2 ^ k) (-1)) = a := by
  have : ∀ k : Fin 8, ∀ a : Fin 128, a.val < 2 ^ k.val → (zand (((a.val : Nat) : Int) + 2 ^ k.val) (zxor (2 ^ k.val) (-1)) = ((a.val : Nat) : Int) ∧ zand ((a.val : Nat) : Int) (zxor (2 ^ k.val) (-1)) = ((a.val : Nat) : Int)) := by decide +kernel
  have h2 : 2 ^ k ≤ 2 ^ 7 := Nat.pow_le_pow_right (by decide) (by omega)
  exact this ⟨k, hk⟩ ⟨a, by omega⟩ ha
/-- the class's list of cries at κ -/
def cCry (σ : zM) (κ : Nat) (l : List (Int × Int)) : Prop := σ κ 3 = l.length ∧ l.length ≤ 8 ∧ (∀ (k : Nat) (p : Int × Int), l[k]? = some p → σ (κ + 1) k = p.1 ∧ σ (κ + 2) k = p.2 ∧ 0 ≤ p.2 ∧ p.2 < 100) ∧ ∀ m : Int, 0 ≤ m → m < 100 → σ (κ + 3) m = zbn l m
theorem cCry_fr {σ σ' : zM} {κ : Nat} {l : List (Int × Int)} (h : cCry σ κ l) (hf : ∀ c, κ ≤ c → c ≤ κ + 3 → ∀ i, σ' c i = σ c i) : cCry σ' κ l := by
  obtain ⟨h1, h2, h3, h4⟩ := h
  refine ⟨by rw [hf κ (by omega) (by omega)]; exact h1, h2, fun k p hk => ?_, fun m a b => by rw [hf (κ + 3) (by omega) (by omega)]; exact h4 m a b⟩
  rw [hf (κ + 1) (by omega) (by omega), hf (κ + 2) (by omega) (by omega)]
  exact h3 k p hk
theorem cCry_add {σ : zM} {κ : Nat} {l : List (Int × Int)} {i m : Int} (h : cCry σ κ l) (hl : l.length < 8) (hm : 0 ≤ m ∧ m < 100) : cCry (zup (zup (zup (zup σ (κ + 1) (σ κ 3) i) (κ + 2) (σ κ 3) m) (κ + 3) m (zor (σ (κ + 3) m) (zshl 1 (σ κ 3)))) κ 3 (σ κ 3 + 1)) κ (l ++ [(i, m)]) := by
  obtain ⟨h1, h2, h3, h4⟩ := h
  refine ⟨by rw [zup_eq, h1]; simp, by simp; omega, fun k p hk => ?_, fun m' a b => ?_⟩
  · by_cases hkl : k < l.length
    · rw [List.getElem?_append_left hkl] at hk
      simp (disch := omega) only [zup_ne, zup_nei]
      exact h3 k p hk
    · have hkl' := (List.getElem?_eq_some_iff.mp hk).1
      simp at hkl'
      have e : k = l.length := by omega
      subst e
      rw [List.getElem?_append_right (by omega)] at hk
      simp at hk
      subst hk
      simp (disch := omega) only [zup_ne]
      rw [zup_eqi h1.symm, zup_eqi h1.symm]
      exact ⟨rfl, rfl, hm.1, hm.2⟩
  · rw [zup_ne (by omega), zbn_app]
    have hb := zbn_lt l m
    by_cases e : m' = m
    · subst e
      rw [zup_eq, h4 _ hm.1 hm.2, zshl_1 (by omega), h1]
      simp only [if_true, Int.toNat_natCast]
      rw [zor_p hl hb]
      simp
    · rw [zup_nei e, zup_ne (by omega), zup_ne (by omega), h4 m' a b, if_neg (fun z => e z.symm)]
      simp
theorem cCry_drop {σ : zM} {κ : Nat} {l : List (Int × Int)} {p : Int × Int} (h : cCry σ κ (l ++ [p])) : cCry (zup (zup σ κ 3 (σ κ 3 - 1)) (κ + 3) p.2 (zand (σ (κ + 3) p.2) (zxor (zshl 1 (σ κ 3 - 1)) (-1)))) κ l := by
  obtain ⟨h1, h2, h3, h4⟩ := h
  simp at h1 h2
  have hp := h3 l.length p (by simp)
  refine ⟨by rw [zup_ne (by omega), zup_eq, h1]; omega, by omega, fun k q hk => ?_, fun m' a b => ?_⟩
  · rw [zup_ne (by omega), zup_ne (by omega), zup_ne (by omega), zup_ne (by omega)]
    have hkl := (List.getElem?_eq_some_iff.mp hk).1
    exact h3 k q (by rw [List.getElem?_append_left hkl]; exact hk)
  · have hb := zbn_lt l m'
    by_cases e : m' = p.2
    · subst e
      rw [zup_eq, h4 _ a b, zbn_app, if_pos rfl, h1, show (l.length : Int) + 1 - 1 = l.length by omega, zshl_1 (by omega)]
      have := (zandn_p (a := zbn l p.2) (k := l.length) (by omega) hb).1
      simp only [Int.toNat_natCast, Int.natCast_add, Int.natCast_pow] at this ⊢
      exact this
    · rw [zup_nei e, zup_ne (by omega), h4 m' a b, zbn_app, if_neg (fun z => e z.symm)]
      rfl
theorem c_X0_add (σ : zM) (κ : Nat) (hc : zCy κ) (l : List (Int × Int)) (i m : Int) (hm : -2147483648 ≤ m ∧ m ≤ 2147483647) (hl : cCry σ κ l) : zCi mX0_add (fun w => [zr w κ, zi i, zi m]) σ (fun r σ' => (l.length < 8 ∧ 0 ≤ m ∧ m < 100 ∧ r = 1 ∧ cCry σ' κ (l ++ [(i, m)]) ∧ zfr κ (κ + 3) σ σ') ∨ (¬ (l.length < 8 ∧ 0 ≤ m ∧ m < 100) ∧ r = 0 ∧ σ' = σ)) := by
  refine zCi_mk (own := RX0) rfl (by decide +kernel) (fun w => [some (zr w κ), some (zi i), some (zi m)]) (fun _ => rfl) (fun _ => Nat.le_of_ble_eq_true rfl) ?_
  intro Γ h hr
  have h1 := hl.1
  have h2 := hl.2.1
  refine z_raload_n h dX0_add_0 rfl ?_
  refine y_get 3 h dX0_add_1 fX0_21 (zCy_o hc) rfl rfl ?_
  refine z_raload_n h dX0_add_4 rfl ?_
  refine z_getr h dX0_add_5 fX0_9 (zCy_o hc) rfl ?_
  refine y_alen 8 h dX0_add_8 (zCy_1 hc) (by decide) rfl ?_
  refine z_icmp_ge h dX0_add_9 (by omega) (by omega) (fun b9 => ?_) (fun b9 => ?_)
  · refine z_iconst h dX0_add_25 ?_
    refine z_irZ h hr dX0_add_26 (by first | decide | omega | simp_all) ?_
    exact Or.inr ⟨by omega, rfl, rfl⟩
  · refine z_iload_n h dX0_add_12 rfl ?_
    refine z_if_lt h dX0_add_13 (by omega) (fun b13 => ?_) (fun b13 => ?_)
    · refine z_iconst h dX0_add_25 ?_
      refine z_irZ h hr dX0_add_26 (by first | decide | omega | simp_all) ?_
      exact Or.inr ⟨by omega, rfl, rfl⟩
    · refine z_iload_n h dX0_add_16 rfl ?_
      refine z_raload_n h dX0_add_17 rfl ?_
      refine z_getr h dX0_add_18 fX0_18 (zCy_o hc) rfl ?_
      refine y_alen 100 h dX0_add_21 (zCy_3 hc) (by decide) rfl ?_
      refine z_icmp_lt h dX0_add_22 (by omega) (by omega) (fun b22 => ?_) (fun b22 => ?_)
      · refine z_raload_n h dX0_add_27 rfl ?_
        refine z_getr h dX0_add_28 fX0_9 (zCy_o hc) rfl ?_
        refine z_raload_n h dX0_add_31 rfl ?_
        refine y_get 3 h dX0_add_32 fX0_21 (zCy_o hc) rfl rfl ?_
        refine z_iload_n h dX0_add_35 rfl ?_
        refine z_iast h dX0_add_36 (zCy_1 hc) (by decide) (by omega) ?_
        refine z_raload_n h dX0_add_37 rfl ?_
        refine z_getr h dX0_add_38 fX0_15 (zCy_o hc) rfl ?_
        refine z_raload_n h dX0_add_41 rfl ?_
        refine y_get 3 h dX0_add_42 fX0_21 (zCy_o hc) rfl rfl ?_
        try simp (disch := omega) only [zup_eq, zup_ne, zup_nei]
        refine z_iload_n h dX0_add_45 rfl ?_
        refine z_iast h dX0_add_46 (zCy_2 hc) (by decide) (by omega) ?_
        refine z_raload_n h dX0_add_47 rfl ?_
        refine z_getr h dX0_add_48 fX0_18 (zCy_o hc) rfl ?_
        refine z_iload_n h dX0_add_51 rfl ?_
        refine z_dup2 h dX0_add_52 rfl rfl ?_
        refine z_iald h dX0_add_53 (zCy_3 hc) (by decide) (by omega) ?_
        try simp (disch := omega) only [zup_eq, zup_ne, zup_nei]
        refine z_iconst h dX0_add_54 ?_
        refine z_raload_n h dX0_add_55 rfl ?_
        refine y_get 3 h dX0_add_56 fX0_21 (zCy_o hc) rfl rfl ?_
        try simp (disch := omega) only [zup_eq, zup_ne, zup_nei]
        refine z_ishl h dX0_add_59 ?_
        refine z_ior h dX0_add_60 ?_
        refine z_iast h dX0_add_61 (zCy_3 hc) (by decide) (by omega) ?_
        refine z_raload_n h dX0_add_62 rfl ?_
        refine z_dup h dX0_add_63 rfl ?_
        refine y_get 3 h dX0_add_64 fX0_21 (zCy_o hc) rfl rfl ?_
        try simp (disch := omega) only [zup_eq, zup_ne, zup_nei]
        refine z_iconst h dX0_add_67 ?_
        refine z_iadd h dX0_add_68 ?_
        refine y_put 3 h dX0_add_69 fX0_21 pX0_3 (zCy_o hc) rfl rfl ?_
        refine z_iconst h dX0_add_72 ?_
        refine z_irZ h hr dX0_add_73 (by first | decide | omega | simp_all) ?_
        exact Or.inl ⟨by omega, by omega, by omega, rfl, cCry_add hl (by omega) (by omega), zfr_up (zfr_up (zfr_up (zfr_up zfr_rf (by omega) (by omega)) (by omega) (by omega)) (by omega) (by omega)) (by omega) (by omega)⟩
      · refine z_iconst h dX0_add_25 ?_
        refine z_irZ h hr dX0_add_26 (by first | decide | omega | simp_all) ?_
        exact Or.inr ⟨by omega, rfl, rfl⟩
theorem c_X0_dropLast (σ : zM) (κ : Nat) (hc : zCy κ) (l : List (Int × Int)) (hl : cCry σ κ l) : zCv mX0_dropLast (fun w => [zr w κ]) σ (fun σ' => cCry σ' κ l.dropLast ∧ zfr κ (κ + 3) σ σ') := by
  refine zCv_mk (own := RX0) rfl (by decide +kernel) (fun w => [some (zr w κ)]) (fun _ => rfl) (fun _ => Nat.le_of_ble_eq_true rfl) ?_
  intro Γ h hr
  have h1 := hl.1
  have h2 := hl.2.1
  rcases List.eq_nil_or_concat l with rfl | ⟨l', p, rfl⟩
  · simp only [List.length_nil] at h1 h2
    refine z_raload_n h dX0_dropLast_0 rfl ?_
    refine y_get 3 h dX0_dropLast_1 fX0_21 (zCy_o hc) rfl rfl ?_
    refine z_if_le h dX0_dropLast_4 (by omega) (fun b4 => ?_) (fun b4 => by exfalso; omega)
    refine z_irV h hr dX0_dropLast_42 ?_
    exact ⟨hl, zfr_rf⟩
  · simp only [List.concat_eq_append] at hl hr ⊢
    simp at h1 h2
    have hp := hl.2.2.1 l'.length p (by simp)
    have e2 : σ (κ + 2) (σ κ 3 - 1) = p.2 := by rw [h1, show (l'.length : Int) + 1 - 1 = l'.length by omega]; exact hp.2.1
    refine z_raload_n h dX0_dropLast_0 rfl ?_
    refine y_get 3 h dX0_dropLast_1 fX0_21 (zCy_o hc) rfl rfl ?_
    refine z_if_le h dX0_dropLast_4 (by omega) (fun b4 => by exfalso; omega) (fun b4 => ?_)
    refine z_raload_n h dX0_dropLast_7 rfl ?_
    refine z_dup h dX0_dropLast_8 rfl ?_
    refine y_get 3 h dX0_dropLast_9 fX0_21 (zCy_o hc) rfl rfl ?_
    refine z_iconst h dX0_dropLast_12 ?_
    refine z_isub h dX0_dropLast_13 ?_
    refine y_put 3 h dX0_dropLast_14 fX0_21 pX0_3 (zCy_o hc) rfl rfl ?_
    refine z_raload_n h dX0_dropLast_17 rfl ?_
    refine z_getr h dX0_dropLast_18 fX0_18 (zCy_o hc) rfl ?_
    refine z_raload_n h dX0_dropLast_21 rfl ?_
    refine z_getr h dX0_dropLast_22 fX0_15 (zCy_o hc) rfl ?_
    refine z_raload_n h dX0_dropLast_25 rfl ?_
    refine y_get 3 h dX0_dropLast_26 fX0_21 (zCy_o hc) rfl rfl ?_
    try simp (disch := omega) only [zup_eq, zup_ne, zup_nei]
    refine z_iald h dX0_dropLast_29 (zCy_2 hc) (by decide) (by omega) ?_
    try simp (disch := omega) only [zup_eq, zup_ne, zup_nei]
    refine z_dup2 h dX0_dropLast_30 rfl rfl ?_
    refine z_iald h dX0_dropLast_31 (zCy_3 hc) (by decide) (by omega) ?_
    try simp (disch := omega) only [zup_eq, zup_ne, zup_nei]
    refine z_iconst h dX0_dropLast_32 ?_
    refine z_raload_n h dX0_dropLast_33 rfl ?_
    refine y_get 3 h dX0_dropLast_34 fX0_21 (zCy_o hc) rfl rfl ?_
    try simp (disch := omega) only [zup_eq, zup_ne, zup_nei]
    refine z_ishl h dX0_dropLast_37 ?_
    refine z_iconst h dX0_dropLast_38 ?_
    refine z_ixor h dX0_dropLast_39 ?_
    refine z_iand h dX0_dropLast_40 ?_
    refine z_iast h dX0_dropLast_41 (zCy_3 hc) (by decide) (by omega) ?_
    refine z_irV h hr dX0_dropLast_42 ?_
    rw [e2, List.dropLast_concat]; exact ⟨cCry_drop hl, zfr_up (zfr_up zfr_rf (by omega) (by omega)) (by omega) (by omega)⟩
theorem c_X0_clear (σ : zM) (κ : Nat) (hc : zCy κ) (l : List (Int × Int)) (hl : cCry σ κ l) : zCv mX0_clear (fun w => [zr w κ]) σ (fun σ' => cCry σ' κ [] ∧ zfr κ (κ + 3) σ σ') := by
  refine zCv_mk (own := RX0) rfl (by decide +kernel) (fun w => [some (zr w κ), none]) (fun _ => rfl) (fun _ => Nat.le_of_ble_eq_true rfl) ?_
  intro Γ h hr
  have L : ∀ (n : Nat) (σ1 : zM) (l1 : List (Int × Int)), l1.length = n → cCry σ1 κ l1 → zfr κ (κ + 3) σ σ1 → zV Γ σ1 5 [some (zr (zw Γ) κ), some (zi n)] [] := by
    intro n
    induction n with
    | zero =>
      intro σ1 l1 hn h1 hf
      refine z_iload_n h dX0_clear_5 rfl ?_
      refine z_if_le h dX0_clear_6 (by omega) (fun b6 => ?_) (fun b6 => by exfalso; omega)
      refine z_irV h hr dX0_clear_19 ?_
      rw [List.length_eq_zero_iff.mp hn] at h1; exact ⟨h1, hf⟩
    | succ n ih =>
      intro σ1 l1 hn h1 hf
      have h2 := h1.2.1
      refine z_iload_n h dX0_clear_5 rfl ?_
      refine z_if_le h dX0_clear_6 (by omega) (fun b6 => by exfalso; omega) (fun b6 => ?_)
      refine z_raload_n h dX0_clear_9 rfl ?_
      refine z_cVv0 h dX0_clear_10 lX0_25 vX0_dropLast rfl (zCy_o hc) (c_X0_dropLast σ1 κ hc l1 h1) rfl (Nat.le_of_ble_eq_true rfl) (by decide) (fun σ2 h3 => ?_)
      refine z_iinc h dX0_clear_13 (by decide) rfl (zst1_1 rfl) ?_
      refine z_goto h dX0_clear_16 ?_
      rw [show ((n + 1 : Nat) : Int) + -1 = n by omega]; exact ih σ2 l1.dropLast (by simp [hn]) h3.1 (zfr_tr hf h3.2)
  have h1 := hl.1
  refine z_raload_n h dX0_clear_0 rfl ?_
  refine y_get 3 h dX0_clear_1 fX0_21 (zCy_o hc) rfl rfl ?_
  refine z_ist1_n h dX0_clear_4 (by decide) (zst1_1 rfl) ?_
  rw [h1]; exact L l.length σ l rfl hl zfr_rf
theorem c_X0_copyFrom (σ : zM) (κ κ' : Nat) (hc : zCy κ) (hc' : zCy κ') (hne : κ ≠ κ') (l l' : List (Int × Int)) (hl : cCry σ κ l) (hl' : cCry σ κ' l') : zCv mX0_copyFrom (fun w => [zr w κ, zr w κ']) σ (fun σ' => cCry σ' κ l' ∧ zfr κ (κ + 3) σ σ') := by
  refine zCv_mk (own := RX0) rfl (by decide +kernel) (fun w => [some (zr w κ), some (zr w κ'), none]) (fun _ => rfl) (fun _ => Nat.le_of_ble_eq_true rfl) ?_
  intro Γ h hr
  have hap : κ' + 3 < κ ∨ κ + 3 < κ' := by unfold zCy at hc hc'; omega
  have L : ∀ (n : Nat) (σ1 : zM) (c : Nat), c + n = l'.length → cCry σ1 κ (l'.take c) → zfr κ (κ + 3) σ σ1 → zV Γ σ1 6 [some (zr (zw Γ) κ), some (zr (zw Γ) κ'), some (zi c)] [] := by
    intro n
    induction n with
    | zero =>
      intro σ1 c hn h1 hf
      have h2 := (cCry_fr hl' (σ' := σ1) (fun c a b i => hf c (by omega) i))
      have h3 := h2.1
      have h4 := h2.2.1
      refine z_iload_n h dX0_copyFrom_6 rfl ?_
      refine z_raload_n h dX0_copyFrom_7 rfl ?_
      refine y_get 3 h dX0_copyFrom_8 fX0_21 (zCy_o hc') rfl rfl ?_
      refine z_icmp_ge h dX0_copyFrom_11 (by omega) (by omega) (fun b11 => ?_) (fun b11 => by exfalso; omega)
      refine z_irV h hr dX0_copyFrom_37 ?_
      rw [List.take_of_length_le (by omega)] at h1; exact ⟨h1, hf⟩
    | succ n ih =>
      intro σ1 c hn h1 hf
      have h2 := (cCry_fr hl' (σ' := σ1) (fun c a b i => hf c (by omega) i))
      have h3 := h2.1
      have h4 := h2.2.1
      have hlt : c < l'.length := by omega
      have h5 := h2.2.2.1 c l'[c] (List.getElem?_eq_getElem hlt)
      refine z_iload_n h dX0_copyFrom_6 rfl ?_
      refine z_raload_n h dX0_copyFrom_7 rfl ?_
      refine y_get 3 h dX0_copyFrom_8 fX0_21 (zCy_o hc') rfl rfl ?_
      refine z_icmp_ge h dX0_copyFrom_11 (by omega) (by omega) (fun b11 => by exfalso; omega) (fun b11 => ?_)
      refine z_raload_n h dX0_copyFrom_14 rfl ?_
      refine z_raload_n h dX0_copyFrom_15 rfl ?_
      refine z_getr h dX0_copyFrom_16 fX0_9 (zCy_o hc') rfl ?_
      refine z_iload_n h dX0_copyFrom_19 rfl ?_
      refine z_iald h dX0_copyFrom_20 (zCy_1 hc') (by decide) (by omega) ?_
      refine z_raload_n h dX0_copyFrom_21 rfl ?_
      refine z_getr h dX0_copyFrom_22 fX0_15 (zCy_o hc') rfl ?_
      refine z_iload_n h dX0_copyFrom_25 rfl ?_
      refine z_iald h dX0_copyFrom_26 (zCy_2 hc') (by decide) (by omega) ?_
      refine z_cVi2 h dX0_copyFrom_27 lX0_31 vX0_add rfl (zCy_o hc) (c_X0_add σ1 κ hc (l'.take c) _ _ (by omega) h1) rfl (Nat.le_of_ble_eq_true rfl) (by decide) (fun v σ2 h6 => ?_)
      refine z_pop h dX0_copyFrom_30 rfl ?_
      refine z_iinc h dX0_copyFrom_31 (by decide) rfl (zst1_2 rfl) ?_
      refine z_goto h dX0_copyFrom_34 ?_
      rcases h6 with ⟨-, -, -, -, h7, h8⟩ | ⟨h7, -⟩
      · rw [h5.1, h5.2.1] at h7
        rw [show (c : Int) + 1 = ((c + 1 : Nat) : Int) by omega]
        refine ih σ2 (c + 1) (by omega) ?_ (zfr_tr hf h8)
        rw [List.take_add_one, List.getElem?_eq_getElem hlt]
        exact h7
      · exfalso
        rw [List.length_take] at h7
        omega
  refine z_raload_n h dX0_copyFrom_0 rfl ?_
  refine z_cVv0 h dX0_copyFrom_1 lX0_28 vX0_clear rfl (zCy_o hc) (c_X0_clear σ κ hc l hl) rfl (Nat.le_of_ble_eq_true rfl) (by decide) (fun σ1 h1 => ?_)
  refine z_iconst h dX0_copyFrom_4 ?_
  refine z_ist1_n h dX0_copyFrom_5 (by decide) (zst1_2 rfl) ?_
  exact L l'.length σ1 0 (by omega) h1.1 h1.2
end
section
/-! ===== a plan ===== -/
abbrev zP : Type := List (Int × Int × Int) × List (Int × Int) × Int × Int × Int × Int × Int
/-- PERSONS as they come: pairs of minute and number -/
def zins (a n : Int) (l : List (Int × Int)) : List (Int × Int) := l.filter (fun x => decide (x.1 ≤ a)) ++ (a, n) :: l.filter (fun x => decide (a < x.1))
def zodl : List (Int × Int × Int) → Int → List (Int × Int) → List (Int × Int)
  | [], _, acc => acc
  | p :: t, n, acc => zodl t (n + 1) (zins p.1 n acc)
def zod (pe : List (Int × Int × Int)) : List (Int × Int) := zodl pe 0 []
theorem zodl_app : ∀ (l : List (Int × Int × Int)) (p : Int × Int × Int) (n : Int) (acc : List (Int × Int)), zodl (l ++ [p]) n acc = zins p.1 (n + l.length) (zodl l n acc)
  | [], p, n, acc => by simp [zodl]
  | q :: t, p, n, acc => by
    simp only [List.cons_append, zodl, zodl_app t p (n + 1), List.length_cons]
    congr 1
    push_cast
    omega
theorem zod_app (l : List (Int × Int × Int)) (p : Int × Int × Int) : zod (l ++ [p]) = zins p.1 l.length (zod l) := by
  unfold zod
  rw [zodl_app]
  simp
theorem zins_len (a n : Int) (l : List (Int × Int)) : (zins a n l).length = l.length + 1 := by
  unfold zins
  induction l with
  | nil => simp
  | cons x t ih =>
    simp only [List.filter_cons]
    by_cases h : x.1 ≤ a
    · have h2 : ¬ a < x.1 := by omega
      simp [h, h2] at ih ⊢
      omega
    · have h2 : a < x.1 := by omega
      simp [h, h2] at ih ⊢
      omega
theorem zrev {α : Type} {P : List α → Prop} (h0 : P []) (h1 : ∀ l p, P l → P (l ++ [p])) : ∀ l, P l := by
  intro l
  have : ∀ (n : Nat) (l : List α), l.length = n → P l := by
    intro n
    induction n with
    | zero => intro l hl; rw [List.length_eq_zero_iff.mp hl]; exact h0
    | succ n ih =>
      intro l hl
      rcases List.eq_nil_or_concat l with rfl | ⟨l', p, rfl⟩
      · exact h0
      · rw [List.concat_eq_append] at hl ⊢
        exact h1 l' p (ih l' (by simpa using hl))
  exact this l.length l rfl
theorem zod_len (pe : List (Int × Int × Int)) : (zod pe).length = pe.length := by
  refine zrev (P := fun pe => (zod pe).length = pe.length) rfl (fun l p ih => ?_) pe
  show (zod (l ++ [p])).length = (l ++ [p]).length
  rw [zod_app, zins_len, ih]
  simp
theorem zod_mem (pe : List (Int × Int × Int)) : ∀ x ∈ zod pe, 0 ≤ x.2 ∧ ∃ p, pe[x.2.toNat]? = some p ∧ p.1 = x.1 := by
  refine zrev (P := fun pe => ∀ x ∈ zod pe, 0 ≤ x.2 ∧ ∃ p, pe[x.2.toNat]? = some p ∧ p.1 = x.1) (by simp [zod, zodl]) (fun l p ih => ?_) pe
  · intro x hx
    rw [zod_app, zins] at hx
    have key : x ∈ zod l → 0 ≤ x.2 ∧ ∃ q, (l ++ [p])[x.2.toNat]? = some q ∧ q.1 = x.1 := by
      intro h
      obtain ⟨h1, q, h2, h3⟩ := ih x h
      refine ⟨h1, q, ?_, h3⟩
      rw [List.getElem?_append_left (List.getElem?_eq_some_iff.mp h2).1]
      exact h2
    rcases List.mem_append.mp hx with h | h
    · exact key (List.mem_filter.mp h).1
    · rcases List.mem_cons.mp h with rfl | h
      · exact ⟨by simp, p, by simp, rfl⟩
      · exact key (List.mem_filter.mp h).1
theorem zod_sorted (pe : List (Int × Int × Int)) : (zod pe).Pairwise (fun x y => x.1 ≤ y.1) := by
  refine zrev (P := fun pe => (zod pe).Pairwise (fun x y => x.1 ≤ y.1)) (by simp [zod, zodl]) (fun l p ih => ?_) pe
  · show (zod (l ++ [p])).Pairwise (fun x y => x.1 ≤ y.1)
    rw [zod_app, zins]
    refine List.pairwise_append.mpr ⟨ih.filter _, List.pairwise_cons.mpr ⟨?_, ih.filter _⟩, ?_⟩
    · intro y hy
      have := (List.mem_filter.mp hy).2
      simp at this
      simp; omega
    · intro x hx y hy
      have h1 := (List.mem_filter.mp hx).2
      simp at h1
      rcases List.mem_cons.mp hy with rfl | hy
      · exact h1
      · have h2 := (List.mem_filter.mp hy).2
        simp at h2
        omega
theorem zod_split (pe : List (Int × Int × Int)) (a : Int) (j : Nat) (hj : j ≤ (zod pe).length) (h1 : ∀ x, (zod pe)[j - 1]? = some x → 0 < j → x.1 ≤ a) (h2 : ∀ k x, (zod pe)[k]? = some x → j ≤ k → a < x.1) (n : Int) : zins a n (zod pe) = (zod pe).take j ++ (a, n) :: (zod pe).drop j := by
  have hs := zod_sorted pe
  have e := List.take_append_drop j (zod pe)
  have ht : ∀ x ∈ (zod pe).take j, x.1 ≤ a := by
    intro x hx
    obtain ⟨k, hk⟩ := List.getElem?_of_mem hx
    rw [List.getElem?_take] at hk
    split at hk
    · next hkj =>
      by_cases hlt : j - 1 < (zod pe).length
      · have hl := h1 _ (List.getElem?_eq_getElem hlt) (by omega)
        by_cases hkk : k = j - 1
        · subst hkk
          rw [List.getElem?_eq_getElem hlt] at hk
          cases hk
          exact hl
        · have hk' := (List.getElem?_eq_some_iff.mp hk)
          obtain ⟨hk1, hk2⟩ := hk'
          have := List.pairwise_iff_getElem.mp hs k (j - 1) hk1 hlt (by omega)
          rw [hk2] at this
          omega
      · exfalso; omega
    · cases hk
  have hd : ∀ x ∈ (zod pe).drop j, a < x.1 := by
    intro x hx
    obtain ⟨k, hk⟩ := List.getElem?_of_mem hx
    rw [List.getElem?_drop] at hk
    exact h2 (j + k) x hk (by omega)
  unfold zins
  conv => lhs; rw [← e]
  rw [List.filter_append, List.filter_append]
  rw [List.filter_eq_self.mpr (fun x hx => by simpa using ht x hx), List.filter_eq_nil_iff.mpr (fun x hx => by have := hd x hx; simp; omega), List.filter_eq_nil_iff.mpr (fun x hx => by have := ht x hx; simp; omega), List.filter_eq_self.mpr (fun x hx => by simpa using hd x hx)]
  simp
/-- what a plan holds is as the document says -/
def zPok (P : zP) : Prop := P.1.length ≤ 10 ∧ (∀ p ∈ P.1, 0 ≤ p.1 ∧ p.1 ≤ 99 ∧ (p.2.1 = 0 ∨ p.2.1 = 1) ∧ 1 ≤ p.2.2 ∧ p.2.2 ≤ 99) ∧ (∀ c ∈ P.2.1, 0 ≤ c.1 ∧ c.1 < P.1.length) ∧ (0 ≤ P.2.2.1 ∧ P.2.2.1 ≤ 30) ∧ (1 ≤ P.2.2.2.1 ∧ P.2.2.2.1 ≤ 9) ∧ (1 ≤ P.2.2.2.2.1 ∧ P.2.2.2.2.1 ≤ 9) ∧ (0 ≤ P.2.2.2.2.2.1 ∧ P.2.2.2.2.2.1 ≤ 99) ∧ (0 ≤ P.2.2.2.2.2.2 ∧ P.2.2.2.2.2.2 ≤ 3)
def zP0 : zP := ([], [], 0, 1, 2, 99, 0)
def cPlan (σ : zM) (π : Nat) (P : zP) : Prop := σ π 5 = P.1.length ∧ (∀ (k : Nat) (p : Int × Int × Int), P.1[k]? = some p → σ (π + 1) k = p.1 ∧ σ (π + 2) k = p.2.1 ∧ σ (π + 3) k = p.2.2) ∧ (∀ (k : Nat) (x : Int × Int), (zod P.1)[k]? = some x → σ (π + 4) k = x.2) ∧ cCry σ (π + 5) P.2.1 ∧ (σ π 6 = P.2.2.1 ∧ σ π 7 = P.2.2.2.1 ∧ σ π 8 = P.2.2.2.2.1 ∧ σ π 9 = P.2.2.2.2.2.1 ∧ σ π 10 = P.2.2.2.2.2.2) ∧ zPok P
theorem cPlan_fr {σ σ' : zM} {π : Nat} {P : zP} (h : cPlan σ π P) (hf : ∀ c, π ≤ c → c ≤ π + 8 → ∀ i, σ' c i = σ c i) : cPlan σ' π P := by
  obtain ⟨h1, h2, h3, h4, h5, h6⟩ := h
  refine ⟨by rw [hf π (by omega) (by omega)]; exact h1, fun k p hk => ?_, fun k x hk => ?_, cCry_fr h4 (fun c a b i => hf c (by omega) (by omega) i), ?_, h6⟩
  · rw [hf (π + 1) (by omega) (by omega), hf (π + 2) (by omega) (by omega), hf (π + 3) (by omega) (by omega)]
    exact h2 k p hk
  · rw [hf (π + 4) (by omega) (by omega)]
    exact h3 k x hk
  · simp only [hf π (by omega) (by omega)]
    exact h5
theorem c_X4_clear (σ : zM) (π : Nat) (hp : zPl π) (l : List (Int × Int)) (hl : cCry σ (π + 5) l) : zCv mX4_clear (fun w => [zr w π]) σ (fun σ' => cPlan σ' π zP0 ∧ zfr π (π + 8) σ σ') := by
  refine zCv_mk (own := RX4) rfl (by decide +kernel) (fun w => [some (zr w π)]) (fun _ => rfl) (fun _ => Nat.le_of_ble_eq_true rfl) ?_
  intro Γ h hr
  refine z_raload_n h dX4_clear_0 rfl ?_
  refine z_iconst h dX4_clear_1 ?_
  refine y_put 5 h dX4_clear_2 fX4_34 pX4_5 (zPl_o hp) rfl rfl ?_
  refine z_raload_n h dX4_clear_5 rfl ?_
  refine z_getr h dX4_clear_6 fX4_27 (zPl_o hp) rfl ?_
  refine z_cVv0 h dX4_clear_9 lX4_38 vX0_clear rfl (zCy_o (zPl_c hp)) (c_X0_clear (zup σ π 5 0) (π + 5) (zPl_c hp) l (cCry_fr hl (fun c a b i => zup_ne (by omega)))) rfl (Nat.le_of_ble_eq_true rfl) (by decide) (fun σ1 h1 => ?_)
  obtain ⟨h1, h2⟩ := h1
  have e := (h2 π (by omega) 5).trans (zup_eq σ π 5 0)
  refine z_raload_n h dX4_clear_12 rfl ?_
  refine z_iconst h dX4_clear_13 ?_
  refine y_put 6 h dX4_clear_14 fX4_39 pX4_6 (zPl_o hp) rfl rfl ?_
  refine z_raload_n h dX4_clear_17 rfl ?_
  refine z_iconst h dX4_clear_18 ?_
  refine y_put 7 h dX4_clear_19 fX4_42 pX4_7 (zPl_o hp) rfl rfl ?_
  refine z_raload_n h dX4_clear_22 rfl ?_
  refine z_iconst h dX4_clear_23 ?_
  refine y_put 8 h dX4_clear_24 fX4_45 pX4_8 (zPl_o hp) rfl rfl ?_
  refine z_raload_n h dX4_clear_27 rfl ?_
  refine z_bipush h dX4_clear_28 (by decide) ?_
  refine y_put 9 h dX4_clear_30 fX4_48 pX4_9 (zPl_o hp) rfl rfl ?_
  refine z_raload_n h dX4_clear_33 rfl ?_
  refine z_iconst h dX4_clear_34 ?_
  refine y_put 10 h dX4_clear_35 fX4_51 pX4_10 (zPl_o hp) rfl rfl ?_
  refine z_irV h hr dX4_clear_38 ?_
  refine ⟨⟨?_, by simp [zP0], by simp [zP0, zod, zodl], cCry_fr h1 (fun c a b i => ?_), ⟨?_, ?_, ?_, ?_, ?_⟩, ?_⟩, ?_⟩
  · simp (disch := omega) only [zup_eq, zup_nei, zup_ne]
    exact e
  · simp (disch := omega) only [zup_ne]
  · simp (disch := omega) only [zup_eq, zup_nei, zup_ne]
    rfl
  · simp (disch := omega) only [zup_eq, zup_nei, zup_ne]
    rfl
  · simp (disch := omega) only [zup_eq, zup_nei, zup_ne]
    rfl
  · simp (disch := omega) only [zup_eq, zup_nei, zup_ne]
    rfl
  · simp (disch := omega) only [zup_eq, zup_nei, zup_ne]
    rfl
  · simp [zPok, zP0]
  · exact zfr_up (zfr_up (zfr_up (zfr_up (zfr_up (zfr_tr (zfr_up zfr_rf (by omega) (by omega)) (zfr_mono h2 (by omega) (by omega))) (by omega) (by omega)) (by omega) (by omega)) (by omega) (by omega)) (by omega) (by omega)) (by omega) (by omega)
theorem c_X4_isTold (σ : zM) (π : Nat) (hp : zPl π) (i : Int) (hi : -2147483648 ≤ i ∧ i ≤ 2147483647) (h5 : 0 ≤ σ π 5 ∧ σ π 5 ≤ 10) : zCi mX4_isTold (fun w => [zr w π, zi i]) σ (fun r σ' => r = (if 0 ≤ i ∧ i < σ π 5 then 1 else 0) ∧ σ' = σ) := by
  refine zCi_mk (own := RX4) rfl (by decide +kernel) (fun w => [some (zr w π), some (zi i)]) (fun _ => rfl) (fun _ => Nat.le_of_ble_eq_true rfl) ?_
  intro Γ h hr
  refine z_iload_n h dX4_isTold_0 rfl ?_
  refine z_if_lt h dX4_isTold_1 (by omega) (fun b1 => ?_) (fun b1 => ?_)
  · refine z_iconst h dX4_isTold_16 ?_
    refine z_irZ h hr dX4_isTold_17 (by first | decide | omega | simp_all) ?_
    refine ⟨?_, rfl⟩
    split <;> omega
  · refine z_iload_n h dX4_isTold_4 rfl ?_
    refine z_raload_n h dX4_isTold_5 rfl ?_
    refine y_get 5 h dX4_isTold_6 fX4_34 (zPl_o hp) rfl rfl ?_
    refine z_icmp_ge h dX4_isTold_9 (by omega) (by omega) (fun b9 => ?_) (fun b9 => ?_)
    · refine z_iconst h dX4_isTold_16 ?_
      refine z_irZ h hr dX4_isTold_17 (by first | decide | omega | simp_all) ?_
      refine ⟨?_, rfl⟩
      split <;> omega
    · refine z_iconst h dX4_isTold_12 ?_
      refine z_goto h dX4_isTold_13 ?_
      refine z_irZ h hr dX4_isTold_17 (by first | decide | omega | simp_all) ?_
      refine ⟨?_, rfl⟩
      split <;> omega
/-- the child of PERSON i -/
def pK (P : zP) (i : Int) : Int := if 0 ≤ i ∧ i < P.1.length then (P.1.getD i.toNat (0, 0, 0)).2.1 else 0
theorem c_X4_hasChild (σ : zM) (π : Nat) (hp : zPl π) (P : zP) (hP : cPlan σ π P) (i : Int) (hi : -2147483648 ≤ i ∧ i ≤ 2147483647) : zCi mX4_hasChild (fun w => [zr w π, zi i]) σ (fun r σ' => r = (if pK P i = 1 then 1 else 0) ∧ σ' = σ) := by
  refine zCi_mk (own := RX4) rfl (by decide +kernel) (fun w => [some (zr w π), some (zi i)]) (fun _ => rfl) (fun _ => Nat.le_of_ble_eq_true rfl) ?_
  intro Γ h hr
  obtain ⟨h1, h2, h3, h4, h5, h6⟩ := hP
  have h7 := h6.1
  refine z_raload_n h dX4_hasChild_0 rfl ?_
  refine z_iload_n h dX4_hasChild_1 rfl ?_
  refine z_cVi1 h dX4_hasChild_2 lX4_54 vX4_isTold rfl (zPl_o hp) (c_X4_isTold σ π hp i hi (by omega)) rfl (Nat.le_of_ble_eq_true rfl) (by decide) (fun v σ1 h8 => ?_)
  obtain ⟨rfl, rfl⟩ := h8
  by_cases hin : 0 ≤ i ∧ i < σ1 π 5
  rotate_left
  · rw [if_neg hin]
    refine z_if_eq h dX4_hasChild_5 (by omega) (fun b5 => ?_) (fun b5 => by omega)
    refine z_iconst h dX4_hasChild_22 ?_
    refine z_irZ h hr dX4_hasChild_23 (by decide) ?_
    unfold pK
    have e0 : (if 0 ≤ i ∧ i < (P.1.length : Int) then (P.1.getD i.toNat (0, 0, 0)).2.1 else 0) = 0 := if_neg (by rw [← h1]; exact hin)
    rw [e0]
    simp
  rw [if_pos hin]
  have hlt : i.toNat < P.1.length := by omega
  have h9 := h2 i.toNat P.1[i.toNat] (List.getElem?_eq_getElem hlt)
  rw [Int.toNat_of_nonneg hin.1] at h9
  have h10 := h6.2.1 _ (List.getElem_mem hlt)
  have h11 : pK P i = P.1[i.toNat].2.1 := by (unfold pK; rw [if_pos (by omega), List.getD_eq_getElem?_getD, List.getElem?_eq_getElem hlt]; rfl)
  refine z_if_eq h dX4_hasChild_5 (by omega) (fun b5 => by exfalso; omega) (fun b5 => ?_)
  refine z_raload_n h dX4_hasChild_8 rfl ?_
  refine z_getr h dX4_hasChild_9 fX4_15 (zPl_o hp) rfl ?_
  refine z_iload_n h dX4_hasChild_12 rfl ?_
  refine z_iald h dX4_hasChild_13 (zPl_2 hp) (by decide) (by omega) ?_
  refine z_iconst h dX4_hasChild_14 ?_
  refine z_icmp_ne h dX4_hasChild_15 (by omega) (by omega) (fun b15 => ?_) (fun b15 => ?_)
  · refine z_iconst h dX4_hasChild_22 ?_
    refine z_irZ h hr dX4_hasChild_23 (by first | decide | omega | simp_all) ?_
    refine ⟨?_, rfl⟩
    rw [h11, ← h9.2.1]
    split <;> omega
  · refine z_iconst h dX4_hasChild_18 ?_
    refine z_goto h dX4_hasChild_19 ?_
    refine z_irZ h hr dX4_hasChild_23 (by first | decide | omega | simp_all) ?_
    refine ⟨?_, rfl⟩
    rw [h11, ← h9.2.1]
    split <;> omega
theorem c_X4_addCry (σ : zM) (π : Nat) (hp : zPl π) (P : zP) (hP : cPlan σ π P) (i m : Int) (hm : -2147483648 ≤ m ∧ m ≤ 2147483647) (hi : 0 ≤ i ∧ i < P.1.length) : zCi mX4_addCry (fun w => [zr w π, zi i, zi m]) σ (fun r σ' => (P.2.1.length < 8 ∧ 0 ≤ m ∧ m < 100 ∧ r = 1 ∧ cPlan σ' π (P.1, P.2.1 ++ [(i, m)], P.2.2) ∧ zfr (π + 5) (π + 8) σ σ') ∨ (¬ (P.2.1.length < 8 ∧ 0 ≤ m ∧ m < 100) ∧ r = 0 ∧ σ' = σ)) := by
  refine zCi_mk (own := RX4) rfl (by decide +kernel) (fun w => [some (zr w π), some (zi i), some (zi m)]) (fun _ => rfl) (fun _ => Nat.le_of_ble_eq_true rfl) ?_
  intro Γ h hr
  refine z_raload_n h dX4_addCry_0 rfl ?_
  refine z_getr h dX4_addCry_1 fX4_27 (zPl_o hp) rfl ?_
  refine z_iload_n h dX4_addCry_4 rfl ?_
  refine z_iload_n h dX4_addCry_5 rfl ?_
  refine z_cVi2 h dX4_addCry_6 lX4_72 vX0_add rfl (zCy_o (zPl_c hp)) (c_X0_add σ (π + 5) (zPl_c hp) P.2.1 i m hm hP.2.2.2.1) rfl (Nat.le_of_ble_eq_true rfl) (by decide) (fun v σ1 h1 => ?_)
  have hv : v = 0 ∨ v = 1 := by (rcases h1 with h1 | h1 <;> simp [h1])
  refine z_irZ h hr dX4_addCry_9 (by first | decide | omega | simp_all) ?_
  rcases h1 with ⟨a1, a2, a3, a4, a5, a6⟩ | h1
  · refine Or.inl ⟨a1, a2, a3, a4, ?_, a6⟩
    obtain ⟨h1, h2, h3, h4, h5, h6, h7, h8, h9⟩ := hP
    have e : ∀ c, c < π + 5 → ∀ i, σ1 c i = σ c i := fun c hc i => a6 c (Or.inl hc) i
    refine ⟨by rw [e π (by omega)]; exact h1, fun k p hk => ?_, fun k x hk => ?_, a5, ?_, ⟨h6, h7, ?_, h9⟩⟩
    · rw [e (π + 1) (by omega), e (π + 2) (by omega), e (π + 3) (by omega)]; exact h2 k p hk
    · rw [e (π + 4) (by omega)]; exact h3 k x hk
    · simp only [e π (by omega)]; exact h5
    · intro c hc
      rcases List.mem_append.mp hc with hc | hc
      · exact h8 c hc
      · simp at hc; subst hc; exact hi
  · exact Or.inr h1
theorem c_X4_setService (σ : zM) (π : Nat) (hp : zPl π) (n d : Int) (hn : -2147483648 ≤ n ∧ n ≤ 2147483647) (hd : -2147483648 ≤ d ∧ d ≤ 2147483647) : zCi mX4_setService (fun w => [zr w π, zi n, zi d]) σ (fun r σ' => r = (if 1 ≤ n ∧ n ≤ 9 ∧ 1 ≤ d ∧ d ≤ 9 then 1 else 0) ∧ σ' = zup (zup σ π 7 n) π 8 d) := by
  refine zCi_mk (own := RX4) rfl (by decide +kernel) (fun w => [some (zr w π), some (zi n), some (zi d)]) (fun _ => rfl) (fun _ => Nat.le_of_ble_eq_true rfl) ?_
  intro Γ h hr
  refine z_raload_n h dX4_setService_0 rfl ?_
  refine z_iload_n h dX4_setService_1 rfl ?_
  refine y_put 7 h dX4_setService_2 fX4_42 pX4_7 (zPl_o hp) rfl rfl ?_
  refine z_raload_n h dX4_setService_5 rfl ?_
  refine z_iload_n h dX4_setService_6 rfl ?_
  refine y_put 8 h dX4_setService_7 fX4_45 pX4_8 (zPl_o hp) rfl rfl ?_
  refine z_iload_n h dX4_setService_10 rfl ?_
  refine z_iconst h dX4_setService_11 ?_
  refine z_icmp_lt h dX4_setService_12 (by omega) (by omega) (fun b12 => ?_) (fun b12 => ?_)
  · refine z_iconst h dX4_setService_36 ?_
    refine z_irZ h hr dX4_setService_37 (by first | decide | omega | simp_all) ?_
    refine ⟨?_, rfl⟩
    split <;> omega
  · refine z_iload_n h dX4_setService_15 rfl ?_
    refine z_bipush h dX4_setService_16 (by decide) ?_
    refine z_icmp_gt h dX4_setService_18 (by omega) (by omega) (fun b18 => ?_) (fun b18 => ?_)
    · refine z_iconst h dX4_setService_36 ?_
      refine z_irZ h hr dX4_setService_37 (by first | decide | omega | simp_all) ?_
      refine ⟨?_, rfl⟩
      split <;> omega
    · refine z_iload_n h dX4_setService_21 rfl ?_
      refine z_iconst h dX4_setService_22 ?_
      refine z_icmp_lt h dX4_setService_23 (by omega) (by omega) (fun b23 => ?_) (fun b23 => ?_)
      · refine z_iconst h dX4_setService_36 ?_
        refine z_irZ h hr dX4_setService_37 (by first | decide | omega | simp_all) ?_
        refine ⟨?_, rfl⟩
        split <;> omega
      · refine z_iload_n h dX4_setService_26 rfl ?_
        refine z_bipush h dX4_setService_27 (by decide) ?_
        refine z_icmp_gt h dX4_setService_29 (by omega) (by omega) (fun b29 => ?_) (fun b29 => ?_)
        · refine z_iconst h dX4_setService_36 ?_
          refine z_irZ h hr dX4_setService_37 (by first | decide | omega | simp_all) ?_
          refine ⟨?_, rfl⟩
          split <;> omega
        · refine z_iconst h dX4_setService_32 ?_
          refine z_goto h dX4_setService_33 ?_
          refine z_irZ h hr dX4_setService_37 (by first | decide | omega | simp_all) ?_
          refine ⟨?_, rfl⟩
          split <;> omega
theorem cPlan_add {σ σ' : zM} {π : Nat} {P : zP} {a k b : Int} {j : Nat} (hP : cPlan σ π P) (hlt : P.1.length < 10) (hab : 0 ≤ a ∧ a ≤ 99 ∧ (k = 0 ∨ k = 1) ∧ 1 ≤ b ∧ b ≤ 99) (hj : j ≤ P.1.length) (h1 : ∀ x, (zod P.1)[j - 1]? = some x → 0 < j → x.1 ≤ a) (h2 : ∀ k x, (zod P.1)[k]? = some x → j ≤ k → a < x.1)
    (e5 : σ' π 5 = P.1.length + 1) (eo : ∀ i, i ≠ 5 → σ' π i = σ π i) (e1 : ∀ i : Int, σ' (π + 1) i = if i = P.1.length then a else σ (π + 1) i) (e2 : ∀ i : Int, σ' (π + 2) i = if i = P.1.length then k else σ (π + 2) i) (e3 : ∀ i : Int, σ' (π + 3) i = if i = P.1.length then b else σ (π + 3) i)
    (e4a : ∀ i : Nat, i < j → σ' (π + 4) i = σ (π + 4) i) (e4b : σ' (π + 4) j = P.1.length) (e4c : ∀ i : Nat, j ≤ i → i < P.1.length → σ' (π + 4) (i + 1) = σ (π + 4) i) (ec : ∀ c, π + 5 ≤ c → c ≤ π + 8 → ∀ i, σ' c i = σ c i) : cPlan σ' π (P.1 ++ [(a, k, b)], P.2) := by
  obtain ⟨q1, q2, q3, q4, q5, q6⟩ := hP
  refine ⟨by rw [e5]; simp, fun i p hi => ?_, fun i x hi => ?_, cCry_fr q4 (fun c a b i => ec c a (by omega) i), ?_, ?_⟩
  · rw [e1, e2, e3]
    by_cases hil : i < P.1.length
    · rw [List.getElem?_append_left hil] at hi
      rw [if_neg (by omega), if_neg (by omega), if_neg (by omega)]
      exact q2 i p hi
    · have := (List.getElem?_eq_some_iff.mp hi).1
      simp at this
      have e : i = P.1.length := by omega
      subst e
      simp at hi
      subst hi
      simp
  · have hi' : (zod (P.1 ++ [(a, k, b)]))[i]? = some x := hi
    rw [zod_app, zod_split P.1 a j (by rw [zod_len]; exact hj) h1 h2] at hi'
    have hl : ((zod P.1).take j).length = j := by rw [List.length_take, zod_len]; omega
    rcases Nat.lt_trichotomy i j with h | h | h
    · rw [List.getElem?_append_left (by omega), List.getElem?_take, if_pos h] at hi'
      rw [e4a i h]
      exact q3 i x hi'
    · subst h
      rw [List.getElem?_append_right (by omega), hl, Nat.sub_self] at hi'
      cases hi'
      exact e4b
    · rw [List.getElem?_append_right (by omega), hl, show i - j = (i - 1 - j) + 1 by omega, List.getElem?_cons_succ, List.getElem?_drop, show j + (i - 1 - j) = i - 1 by omega] at hi'
      have hz := (List.getElem?_eq_some_iff.mp hi').1
      rw [zod_len] at hz
      have := e4c (i - 1) (by omega) hz
      rw [show ((i - 1 : Nat) : Int) + 1 = i by omega] at this
      rw [this]
      exact q3 (i - 1) x hi'
  · rw [eo 6 (by omega), eo 7 (by omega), eo 8 (by omega), eo 9 (by omega), eo 10 (by omega)]
    exact q5
  · refine ⟨by simp; omega, fun p hp => ?_, fun c hc => ?_, q6.2.2.2⟩
    · rcases List.mem_append.mp hp with hp | hp
      · exact q6.2.1 p hp
      · simp at hp; subst hp; exact hab
    · have := q6.2.2.1 c hc
      simp
      omega
theorem c_X4_addPerson (σ : zM) (π : Nat) (hp : zPl π) (P : zP) (hP : cPlan σ π P) (a k b : Int) (ha : 0 ≤ a ∧ a ≤ 99) (hk : 0 ≤ k ∧ k ≤ 99) (hb : 0 ≤ b ∧ b ≤ 99) : zCi mX4_addPerson (fun w => [zr w π, zi a, zi k, zi b]) σ (fun r σ' => (P.1.length < 10 ∧ k ≤ 1 ∧ 1 ≤ b ∧ r = 1 ∧ cPlan σ' π (P.1 ++ [(a, k, b)], P.2) ∧ zfr π (π + 4) σ σ') ∨ (¬ (P.1.length < 10 ∧ k ≤ 1 ∧ 1 ≤ b) ∧ r = 0 ∧ σ' = σ)) := by
  refine zCi_mk (own := RX4) rfl (by decide +kernel) (fun w => [some (zr w π), some (zi a), some (zi k), some (zi b), none]) (fun _ => rfl) (fun _ => Nat.le_of_ble_eq_true rfl) ?_
  intro Γ h hr
  have q1 := hP.1
  have q2 := hP.2.1
  have q3 := hP.2.2.1
  have q6 := hP.2.2.2.2.2
  have q7 := q6.1
  have L : ∀ (j : Nat) (σ1 : zM), P.1.length < 10 → k ≤ 1 → 1 ≤ b → j ≤ P.1.length → (∀ c, c ≠ π + 4 → ∀ i, σ1 c i = zup (zup (zup σ (π + 1) (σ π 5) a) (π + 2) (σ π 5) k) (π + 3) (σ π 5) b c i) → (∀ i : Nat, i < j → σ1 (π + 4) i = σ (π + 4) i) → (∀ i : Nat, j ≤ i → i < P.1.length → σ1 (π + 4) (i + 1) = σ (π + 4) i) → (∀ k x, (zod P.1)[k]? = some x → j ≤ k → a < x.1) → zV Γ σ1 57 [some (zr (zw Γ) π), some (zi a), some (zi k), some (zi b), some (zi j)] [] := by
    intro j
    induction j with
    | zero =>
      intro σ1 r1 r2 r3 hj ho h1 h2 h3
      have e5 : σ1 π 5 = P.1.length := by rw [ho π (by omega)]; simp (disch := omega) only [zup_ne]; exact q1
      refine z_iload h dX4_addPerson_57 rfl ?_
      refine z_if_le h dX4_addPerson_59 (by omega) (fun b59 => ?_) (fun b59 => by exfalso; omega)
      refine z_raload_n h dX4_addPerson_102 rfl ?_
      refine z_getr h dX4_addPerson_103 fX4_21 (zPl_o hp) rfl ?_
      refine z_iload h dX4_addPerson_106 rfl ?_
      refine z_raload_n h dX4_addPerson_108 rfl ?_
      refine y_get 5 h dX4_addPerson_109 fX4_34 (zPl_o hp) rfl rfl ?_
      refine z_iast h dX4_addPerson_112 (zPl_4 hp) (by decide) (by omega) ?_
      refine z_raload_n h dX4_addPerson_113 rfl ?_
      refine z_dup h dX4_addPerson_114 rfl ?_
      refine y_get 5 h dX4_addPerson_115 fX4_34 (zPl_o hp) rfl rfl ?_
      try simp (disch := omega) only [zup_eq, zup_ne, zup_nei]
      refine z_iconst h dX4_addPerson_118 ?_
      refine z_iadd h dX4_addPerson_119 ?_
      refine y_put 5 h dX4_addPerson_120 fX4_34 pX4_5 (zPl_o hp) rfl rfl ?_
      refine z_iconst h dX4_addPerson_123 ?_
      refine z_irZ h hr dX4_addPerson_124 (by first | decide | omega | simp_all) ?_
      refine Or.inl ⟨r1, r2, r3, rfl, cPlan_add (j := 0) hP r1 (by omega) (by omega) (fun x _ h => by omega) h3 ?_ ?_ ?_ ?_ ?_ (fun i hi => by omega) ?_ ?_ ?_, ?_⟩
      · rw [zup_eq, e5]
      · intro i hi; rw [zup_nei hi, zup_ne (by omega), ho π (by omega)]; simp (disch := omega) only [zup_ne]
      · intro i; rw [zup_ne (by omega), zup_ne (by omega), ho _ (by omega)]; simp (disch := omega) only [zup_ne]; rw [zup, q1]; simp
      · intro i; rw [zup_ne (by omega), zup_ne (by omega), ho _ (by omega)]; simp (disch := omega) only [zup_ne]; rw [zup, q1]; simp (disch := omega) only [zup_ne]; simp
      · intro i; rw [zup_ne (by omega), zup_ne (by omega), ho _ (by omega)]; rw [zup, q1]; simp (disch := omega) only [zup_ne]; simp
      · rw [zup_ne (by omega), zup_eqi (by simp), e5]
      · intro i h4 h5; rw [zup_ne (by omega), zup_nei (by omega)]; exact h2 i h4 h5
      · intro c h4 h5 i; rw [zup_ne (by omega), zup_ne (by omega), ho c (by omega)]; simp (disch := omega) only [zup_ne]
      · intro c hc i; rw [zup_ne (by omega), zup_ne (by omega), ho c (by omega)]; simp (disch := omega) only [zup_ne]
    | succ j ih =>
      intro σ1 r1 r2 r3 hj ho h1 h2 h3
      have e5 : σ1 π 5 = P.1.length := by rw [ho π (by omega)]; simp (disch := omega) only [zup_ne]; exact q1
      have hlt : j < (zod P.1).length := by rw [zod_len]; omega
      have hx := List.getElem?_eq_getElem hlt
      obtain ⟨x, hxe⟩ : ∃ x, x = (zod P.1)[j] := ⟨_, rfl⟩
      rw [← hxe] at hx
      obtain ⟨g1, p, g2, g3⟩ := zod_mem P.1 x (List.mem_of_getElem? hx)
      have g4 := (List.getElem?_eq_some_iff.mp g2).1
      have g5 := q2 _ p g2
      rw [Int.toNat_of_nonneg g1] at g5
      have g6 : σ1 (π + 4) j = x.2 := by rw [h1 j (by omega)]; exact q3 j x hx
      have g7 : σ1 (π + 1) x.2 = x.1 := by rw [ho _ (by omega)]; simp (disch := omega) only [zup_ne, zup_nei]; rw [g5.1, g3]
      have g8 := (q6.2.1 p (List.mem_of_getElem? g2))
      have ej : ((j + 1 : Nat) : Int) - 1 = j := by omega
      refine z_iload h dX4_addPerson_57 rfl ?_
      refine z_if_le h dX4_addPerson_59 (by omega) (fun b59 => by exfalso; omega) (fun b59 => ?_)
      refine z_raload_n h dX4_addPerson_62 rfl ?_
      refine z_getr h dX4_addPerson_63 fX4_9 (zPl_o hp) rfl ?_
      refine z_raload_n h dX4_addPerson_66 rfl ?_
      refine z_getr h dX4_addPerson_67 fX4_21 (zPl_o hp) rfl ?_
      refine z_iload h dX4_addPerson_70 rfl ?_
      refine z_iconst h dX4_addPerson_72 ?_
      refine z_isub h dX4_addPerson_73 ?_
      rw [ej]
      refine z_iald h dX4_addPerson_74 (zPl_4 hp) (by decide) (by omega) ?_
      rw [g6]
      refine z_iald h dX4_addPerson_75 (zPl_1 hp) (by decide) (by omega) ?_
      rw [g7]
      refine z_iload_n h dX4_addPerson_76 rfl ?_
      refine z_icmp_le h dX4_addPerson_77 (by omega) (by omega) (fun b77 => ?_) (fun b77 => ?_)
      · refine z_raload_n h dX4_addPerson_102 rfl ?_
        refine z_getr h dX4_addPerson_103 fX4_21 (zPl_o hp) rfl ?_
        refine z_iload h dX4_addPerson_106 rfl ?_
        refine z_raload_n h dX4_addPerson_108 rfl ?_
        refine y_get 5 h dX4_addPerson_109 fX4_34 (zPl_o hp) rfl rfl ?_
        refine z_iast h dX4_addPerson_112 (zPl_4 hp) (by decide) (by omega) ?_
        refine z_raload_n h dX4_addPerson_113 rfl ?_
        refine z_dup h dX4_addPerson_114 rfl ?_
        refine y_get 5 h dX4_addPerson_115 fX4_34 (zPl_o hp) rfl rfl ?_
        try simp (disch := omega) only [zup_eq, zup_ne, zup_nei]
        refine z_iconst h dX4_addPerson_118 ?_
        refine z_iadd h dX4_addPerson_119 ?_
        refine y_put 5 h dX4_addPerson_120 fX4_34 pX4_5 (zPl_o hp) rfl rfl ?_
        refine z_iconst h dX4_addPerson_123 ?_
        refine z_irZ h hr dX4_addPerson_124 (by first | decide | omega | simp_all) ?_
        refine Or.inl ⟨r1, r2, r3, rfl, cPlan_add (j := j + 1) hP r1 (by omega) (by omega) (fun y hy _ => by rw [Nat.add_sub_cancel, hx] at hy; cases hy; omega) h3 ?_ ?_ ?_ ?_ ?_ ?_ ?_ ?_ ?_, ?_⟩
        · rw [zup_eq, e5]
        · intro i hi; rw [zup_nei hi, zup_ne (by omega), ho π (by omega)]; simp (disch := omega) only [zup_ne]
        · intro i; rw [zup_ne (by omega), zup_ne (by omega), ho _ (by omega)]; simp (disch := omega) only [zup_ne]; rw [zup, q1]; simp
        · intro i; rw [zup_ne (by omega), zup_ne (by omega), ho _ (by omega)]; simp (disch := omega) only [zup_ne]; rw [zup, q1]; simp (disch := omega) only [zup_ne]; simp
        · intro i; rw [zup_ne (by omega), zup_ne (by omega), ho _ (by omega)]; rw [zup, q1]; simp (disch := omega) only [zup_ne]; simp
        · intro i hi; rw [zup_ne (by omega), zup_nei (by omega)]; exact h1 i hi
        · rw [zup_ne (by omega), zup_eqi rfl, e5]
        · intro i h4 h5; rw [zup_ne (by omega), zup_nei (by omega)]; exact h2 i h4 h5
        · intro c h4 h5 i; rw [zup_ne (by omega), zup_ne (by omega), ho c (by omega)]; simp (disch := omega) only [zup_ne]
        · intro c hc i; rw [zup_ne (by omega), zup_ne (by omega), ho c (by omega)]; simp (disch := omega) only [zup_ne]
      · refine z_raload_n h dX4_addPerson_80 rfl ?_
        refine z_getr h dX4_addPerson_81 fX4_21 (zPl_o hp) rfl ?_
        refine z_iload h dX4_addPerson_84 rfl ?_
        refine z_raload_n h dX4_addPerson_86 rfl ?_
        refine z_getr h dX4_addPerson_87 fX4_21 (zPl_o hp) rfl ?_
        refine z_iload h dX4_addPerson_90 rfl ?_
        refine z_iconst h dX4_addPerson_92 ?_
        refine z_isub h dX4_addPerson_93 ?_
        rw [ej]
        refine z_iald h dX4_addPerson_94 (zPl_4 hp) (by decide) (by omega) ?_
        rw [g6]
        refine z_iast h dX4_addPerson_95 (zPl_4 hp) (by decide) (by omega) ?_
        refine z_iinc h dX4_addPerson_96 (by decide) rfl (zst1_4 rfl) ?_
        refine z_goto h dX4_addPerson_99 ?_
        rw [show ((j + 1 : Nat) : Int) + -1 = j by omega]
        refine ih _ r1 r2 r3 (by omega) (fun c hc i => by rw [zup_ne hc]; exact ho c hc i) (fun i hi => by rw [zup_nei (by omega)]; exact h1 i (by omega)) (fun i hi hi2 => ?_) (fun k y hk hk2 => ?_)
        · by_cases e : i = j
          · subst e; rw [zup_eqi (by omega), ← q3 i x hx]
          · rw [zup_nei (by omega)]; exact h2 i (by omega) hi2
        · by_cases e : k = j
          · subst e; rw [hx] at hk; cases hk; omega
          · exact h3 k y hk (by omega)
  refine z_raload_n h dX4_addPerson_0 rfl ?_
  refine y_get 5 h dX4_addPerson_1 fX4_34 (zPl_o hp) rfl rfl ?_
  refine z_bipush h dX4_addPerson_4 (by decide) ?_
  refine z_icmp_ge h dX4_addPerson_6 (by omega) (by omega) (fun b6 => ?_) (fun b6 => ?_)
  · refine z_iconst h dX4_addPerson_19 ?_
    refine z_irZ h hr dX4_addPerson_20 (by first | decide | omega | simp_all) ?_
    exact Or.inr ⟨by omega, rfl, rfl⟩
  · refine z_iload_n h dX4_addPerson_9 rfl ?_
    refine z_iconst h dX4_addPerson_10 ?_
    refine z_icmp_gt h dX4_addPerson_11 (by omega) (by omega) (fun b11 => ?_) (fun b11 => ?_)
    · refine z_iconst h dX4_addPerson_19 ?_
      refine z_irZ h hr dX4_addPerson_20 (by first | decide | omega | simp_all) ?_
      exact Or.inr ⟨by omega, rfl, rfl⟩
    · refine z_iload_n h dX4_addPerson_14 rfl ?_
      refine z_iconst h dX4_addPerson_15 ?_
      refine z_icmp_ge h dX4_addPerson_16 (by omega) (by omega) (fun b16 => ?_) (fun b16 => ?_)
      · refine z_raload_n h dX4_addPerson_21 rfl ?_
        refine z_getr h dX4_addPerson_22 fX4_9 (zPl_o hp) rfl ?_
        refine z_raload_n h dX4_addPerson_25 rfl ?_
        refine y_get 5 h dX4_addPerson_26 fX4_34 (zPl_o hp) rfl rfl ?_
        refine z_iload_n h dX4_addPerson_29 rfl ?_
        refine z_iast h dX4_addPerson_30 (zPl_1 hp) (by decide) (by omega) ?_
        refine z_raload_n h dX4_addPerson_31 rfl ?_
        refine z_getr h dX4_addPerson_32 fX4_15 (zPl_o hp) rfl ?_
        refine z_raload_n h dX4_addPerson_35 rfl ?_
        refine y_get 5 h dX4_addPerson_36 fX4_34 (zPl_o hp) rfl rfl ?_
        try simp (disch := omega) only [zup_eq, zup_ne, zup_nei]
        refine z_iload_n h dX4_addPerson_39 rfl ?_
        refine z_iast h dX4_addPerson_40 (zPl_2 hp) (by decide) (by omega) ?_
        refine z_raload_n h dX4_addPerson_41 rfl ?_
        refine z_getr h dX4_addPerson_42 fX4_18 (zPl_o hp) rfl ?_
        refine z_raload_n h dX4_addPerson_45 rfl ?_
        refine y_get 5 h dX4_addPerson_46 fX4_34 (zPl_o hp) rfl rfl ?_
        try simp (disch := omega) only [zup_eq, zup_ne, zup_nei]
        refine z_iload_n h dX4_addPerson_49 rfl ?_
        refine z_iast h dX4_addPerson_50 (zPl_3 hp) (by decide) (by omega) ?_
        refine z_raload_n h dX4_addPerson_51 rfl ?_
        refine y_get 5 h dX4_addPerson_52 fX4_34 (zPl_o hp) rfl rfl ?_
        try simp (disch := omega) only [zup_eq, zup_ne, zup_nei]
        refine z_ist1 h dX4_addPerson_55 (by decide) (zst1_4 rfl) ?_
        rw [q1]
        refine L P.1.length _ (by omega) (by omega) (by omega) (Nat.le_refl _) (fun c _ i => by rw [q1]) (fun i hi => by simp (disch := omega) only [zup_ne]) (fun i hi hi2 => by omega) (fun k x hk hk2 => ?_)
        have := (List.getElem?_eq_some_iff.mp hk).1
        rw [zod_len] at this
        omega
      · refine z_iconst h dX4_addPerson_19 ?_
        refine z_irZ h hr dX4_addPerson_20 (by first | decide | omega | simp_all) ?_
        exact Or.inr ⟨by omega, rfl, rfl⟩
end
section
/-- an ITEM told by its letter and numbers -/
def pTake (P : zP) (lt a b c : Int) : Option zP :=
  if lt = 112 then (if P.1.length < 10 ∧ b ≤ 1 ∧ 1 ≤ c then some (P.1 ++ [(a, b, c)], P.2) else none)
  else if lt = 99 then (if pK P a = 1 ∧ P.2.1.length < 8 then some (P.1, P.2.1 ++ [(a, b)], P.2.2) else none)
  else if lt = 115 then (if 1 ≤ a ∧ a ≤ 9 ∧ 1 ≤ b ∧ b ≤ 9 then some (P.1, P.2.1, P.2.2.1, a, b, P.2.2.2.2.2) else none)
  else if lt = 113 then (if a ≤ 30 then some (P.1, P.2.1, a, P.2.2.2) else none)
  else if lt = 98 then some (P.1, P.2.1, P.2.2.1, P.2.2.2.1, P.2.2.2.2.1, a, P.2.2.2.2.2.2)
  else if lt = 108 then (if a ≤ 3 then some (P.1, P.2.1, P.2.2.1, P.2.2.2.1, P.2.2.2.2.1, P.2.2.2.2.2.1, a) else none)
  else none
theorem cPlan_of {σ σ' : zM} {π : Nat} {P : zP} (hP : cPlan σ π P) (q n d b l : Int) (hf : ∀ c, c ≠ π → ∀ i, σ' c i = σ c i) (h5 : σ' π 5 = σ π 5) (h6 : σ' π 6 = q) (h7 : σ' π 7 = n) (h8 : σ' π 8 = d) (h9 : σ' π 9 = b) (h10 : σ' π 10 = l) (ok : (0 ≤ q ∧ q ≤ 30) ∧ (1 ≤ n ∧ n ≤ 9) ∧ (1 ≤ d ∧ d ≤ 9) ∧ (0 ≤ b ∧ b ≤ 99) ∧ (0 ≤ l ∧ l ≤ 3)) : cPlan σ' π (P.1, P.2.1, q, n, d, b, l) := by
  obtain ⟨q1, q2, q3, q4, q5, q6⟩ := hP
  refine ⟨by rw [h5]; exact q1, fun k p hk => ?_, fun k x hk => ?_, cCry_fr q4 (fun c a b i => hf c (by omega) i), ⟨h6, h7, h8, h9, h10⟩, ⟨q6.1, q6.2.1, q6.2.2.1, ok⟩⟩
  · rw [hf (π + 1) (by omega), hf (π + 2) (by omega), hf (π + 3) (by omega)]; exact q2 k p hk
  · rw [hf (π + 4) (by omega)]; exact q3 k x hk
theorem cCry_in {σ σ' : zM} {π : Nat} {P : zP} (hP : cPlan σ π P) (hf : ∀ c, c ≠ π → ∀ i, σ' c i = σ c i) : ∃ l, cCry σ' (π + 5) l := ⟨_, cCry_fr hP.2.2.2.1 (fun c _ _ i => hf c (by omega) i)⟩
theorem pK_in {P : zP} {a : Int} (h : pK P a = 1) : 0 ≤ a ∧ a < P.1.length := by
  unfold pK at h
  split at h
  · assumption
  · omega
theorem c_X4_take (σ : zM) (π : Nat) (hp : zPl π) (P : zP) (hP : cPlan σ π P) (lt a b c : Int) (hlt : -1 ≤ lt ∧ lt ≤ 255) (ha : 0 ≤ a ∧ a ≤ 99) (hb : -1 ≤ b ∧ b ≤ 99) (hc : -1 ≤ c ∧ c ≤ 99) (h2 : lt = 112 ∨ lt = 99 ∨ lt = 115 → 0 ≤ b) (h3 : lt = 112 → 0 ≤ c) : zCi mX4_take (fun w => [zr w π, zi lt, zi a, zi b, zi c]) σ (fun r σ' => zfr π (π + 8) σ σ' ∧ ((∃ P', pTake P lt a b c = some P' ∧ r = 1 ∧ cPlan σ' π P') ∨ (pTake P lt a b c = none ∧ r = 0 ∧ ∃ l, cCry σ' (π + 5) l))) := by
  refine zCi_mk (own := RX4) rfl (by decide +kernel) (fun w => [some (zr w π), some (zi lt), some (zi a), some (zi b), some (zi c)]) (fun _ => rfl) (fun _ => Nat.le_of_ble_eq_true rfl) ?_
  intro Γ h hr
  have q5 := hP.2.2.2.2.1
  have q6 := hP.2.2.2.2.2
  by_cases e1 : lt = 112
  · have hb' := h2 (Or.inl e1)
    have hc' := h3 e1
    have et : pTake P lt a b c = (if P.1.length < 10 ∧ b ≤ 1 ∧ 1 ≤ c then some (P.1 ++ [(a, b, c)], P.2) else none) := by unfold pTake; rw [if_pos e1]
    rw [et] at hr
    refine z_iload_n h dX4_take_0 rfl ?_
    refine z_tabIn (t := 88) h (112) dX4_take_1 (e1) (by decide) (by rfl) (by decide) ?_
    refine z_raload_n h dX4_take_88 rfl ?_
    refine z_iload_n h dX4_take_89 rfl ?_
    refine z_iload_n h dX4_take_90 rfl ?_
    refine z_iload h dX4_take_91 rfl ?_
    refine z_cVi3 h dX4_take_93 lX4_58 vX4_addPerson rfl (zPl_o hp) (c_X4_addPerson σ π hp P hP a b c ha (by omega) (by omega)) rfl (Nat.le_of_ble_eq_true rfl) (by decide) (fun v σ1 h4 => ?_)
    have hv : v = 0 ∨ v = 1 := by (rcases h4 with h4 | h4 <;> simp [h4])
    refine z_irZ h hr dX4_take_96 (by first | decide | omega | simp_all) ?_
    rcases h4 with ⟨a1, a2, a3, rfl, a5, a6⟩ | ⟨a1, rfl, rfl⟩
    · refine ⟨zfr_mono a6 (by omega) (by omega), Or.inl ⟨_, if_pos ⟨a1, a2, a3⟩, rfl, a5⟩⟩
    · exact ⟨zfr_rf, Or.inr ⟨if_neg a1, rfl, _, hP.2.2.2.1⟩⟩
  by_cases e2 : lt = 99
  · have hb' := h2 (Or.inr (Or.inl e2))
    have et : pTake P lt a b c = (if pK P a = 1 ∧ P.2.1.length < 8 then some (P.1, P.2.1 ++ [(a, b)], P.2.2) else none) := by unfold pTake; rw [if_neg e1, if_pos e2]
    rw [et] at hr
    refine z_iload_n h dX4_take_0 rfl ?_
    refine z_tabIn (t := 97) h (99) dX4_take_1 (e2) (by decide) (by rfl) (by decide) ?_
    refine z_raload_n h dX4_take_97 rfl ?_
    refine z_iload_n h dX4_take_98 rfl ?_
    refine z_cVi1 h dX4_take_99 lX4_62 vX4_hasChild rfl (zPl_o hp) (c_X4_hasChild σ π hp P hP a (by omega)) rfl (Nat.le_of_ble_eq_true rfl) (by decide) (fun v σ1 h4 => ?_)
    obtain ⟨rfl, rfl⟩ := h4
    refine z_if_eq h dX4_take_102 (by split <;> omega) (fun b102 => ?_) (fun b102 => ?_)
    · have hK : ¬ pK P a = 1 := fun z => by rw [if_pos z] at b102; omega
      refine z_iconst h dX4_take_118 ?_
      refine z_irZ h hr dX4_take_119 (by decide) ?_
      exact ⟨zfr_rf, Or.inr ⟨if_neg (fun z => hK z.1), rfl, _, hP.2.2.2.1⟩⟩
    · have hK : pK P a = 1 := by (by_cases z : pK P a = 1; exact z; rw [if_neg z] at b102; omega)
      refine z_raload_n h dX4_take_105 rfl ?_
      refine z_iload_n h dX4_take_106 rfl ?_
      refine z_iload_n h dX4_take_107 rfl ?_
      refine z_cVi2 h dX4_take_108 lX4_65 vX4_addCry rfl (zPl_o hp) (c_X4_addCry σ1 π hp P hP a b (by omega) (pK_in hK)) rfl (Nat.le_of_ble_eq_true rfl) (by decide) (fun v2 σ2 h5 => ?_)
      have hv : v2 = 0 ∨ v2 = 1 := by (rcases h5 with h5 | h5 <;> simp [h5])
      refine z_if_eq h dX4_take_111 (by omega) (fun b111 => ?_) (fun b111 => ?_)
      · refine z_iconst h dX4_take_118 ?_
        refine z_irZ h hr dX4_take_119 (by first | decide | omega | simp_all) ?_
        rcases h5 with ⟨a1, a2, a3, a4, a5, a6⟩ | ⟨a1, a4, rfl⟩
        · first | (exfalso; omega) | exact ⟨zfr_mono a6 (by omega) (by omega), Or.inl ⟨_, if_pos ⟨hK, a1⟩, rfl, a5⟩⟩
        · first | (exfalso; omega) | exact ⟨zfr_rf, Or.inr ⟨if_neg (fun z => a1 ⟨z.2, by omega, by omega⟩), rfl, _, hP.2.2.2.1⟩⟩
      · refine z_iconst h dX4_take_114 ?_
        refine z_goto h dX4_take_115 ?_
        refine z_irZ h hr dX4_take_119 (by first | decide | omega | simp_all) ?_
        rcases h5 with ⟨a1, a2, a3, a4, a5, a6⟩ | ⟨a1, a4, rfl⟩
        · first | (exfalso; omega) | exact ⟨zfr_mono a6 (by omega) (by omega), Or.inl ⟨_, if_pos ⟨hK, a1⟩, rfl, a5⟩⟩
        · first | (exfalso; omega) | exact ⟨zfr_rf, Or.inr ⟨if_neg (fun z => a1 ⟨z.2, by omega, by omega⟩), rfl, _, hP.2.2.2.1⟩⟩
  by_cases e3 : lt = 115
  · have hb' := h2 (Or.inr (Or.inr e3))
    have et : pTake P lt a b c = (if 1 ≤ a ∧ a ≤ 9 ∧ 1 ≤ b ∧ b ≤ 9 then some (P.1, P.2.1, P.2.2.1, a, b, P.2.2.2.2.2) else none) := by unfold pTake; rw [if_neg e1, if_neg e2, if_pos e3]
    rw [et] at hr
    refine z_iload_n h dX4_take_0 rfl ?_
    refine z_tabIn (t := 120) h (115) dX4_take_1 (e3) (by decide) (by rfl) (by decide) ?_
    refine z_raload_n h dX4_take_120 rfl ?_
    refine z_iload_n h dX4_take_121 rfl ?_
    refine z_iload_n h dX4_take_122 rfl ?_
    refine z_cVi2 h dX4_take_123 lX4_69 vX4_setService rfl (zPl_o hp) (c_X4_setService σ π hp a b (by omega) (by omega)) rfl (Nat.le_of_ble_eq_true rfl) (by decide) (fun v σ1 h4 => ?_)
    obtain ⟨rfl, rfl⟩ := h4
    have hv : ∀ p : Prop, ∀ _ : Decidable p, (if p then (1 : Int) else 0) = 0 ∨ (if p then (1 : Int) else 0) = 1 := fun p _ => by split <;> simp
    refine z_irZ h hr dX4_take_126 (by first | decide | omega | simp_all) ?_
    refine ⟨zfr_up (zfr_up zfr_rf (by omega) (by omega)) (by omega) (by omega), ?_⟩
    by_cases z : 1 ≤ a ∧ a ≤ 9 ∧ 1 ≤ b ∧ b ≤ 9
    · refine Or.inl ⟨_, if_pos z, if_pos z, cPlan_of hP _ _ _ _ _ ?_ ?_ ?_ ?_ ?_ ?_ ?_ ?_⟩
      · intro c hc i; simp (disch := omega) only [zup_ne]
      · simp (disch := omega) only [zup_nei]
      · simp (disch := omega) only [zup_nei]; exact q5.1
      · simp (disch := omega) only [zup_nei, zup_eq]
      · simp (disch := omega) only [zup_nei, zup_eq]
      · simp (disch := omega) only [zup_nei, zup_eq]; exact q5.2.2.2.1
      · simp (disch := omega) only [zup_nei, zup_eq]; exact q5.2.2.2.2
      · exact ⟨q6.2.2.2.1, by omega, by omega, q6.2.2.2.2.2.2⟩
    · exact Or.inr ⟨if_neg z, if_neg z, cCry_in hP (fun c hc i => by simp (disch := omega) only [zup_ne])⟩
  by_cases e4 : lt = 113
  · have et : pTake P lt a b c = (if a ≤ 30 then some (P.1, P.2.1, a, P.2.2.2) else none) := by unfold pTake; rw [if_neg e1, if_neg e2, if_neg e3, if_pos e4]
    rw [et] at hr
    refine z_iload_n h dX4_take_0 rfl ?_
    refine z_tabIn (t := 127) h (113) dX4_take_1 (e4) (by decide) (by rfl) (by decide) ?_
    refine z_raload_n h dX4_take_127 rfl ?_
    refine z_iload_n h dX4_take_128 rfl ?_
    refine y_put 6 h dX4_take_129 fX4_39 pX4_6 (zPl_o hp) rfl rfl ?_
    refine z_iload_n h dX4_take_132 rfl ?_
    refine z_bipush h dX4_take_133 (by decide) ?_
    refine z_icmp_gt h dX4_take_135 (by omega) (by omega) (fun b135 => ?_) (fun b135 => ?_)
    · refine z_iconst h dX4_take_142 ?_
      refine z_irZ h hr dX4_take_143 (by first | decide | omega | simp_all) ?_
      refine ⟨zfr_up zfr_rf (by omega) (by omega), ?_⟩
      by_cases z : a ≤ 30
      · first | (exfalso; omega) | (refine Or.inl ⟨_, if_pos z, rfl, cPlan_of hP _ _ _ _ _ (fun c hc i => zup_ne hc) (zup_nei (by omega)) (zup_eq _ _ _ _) ((zup_nei (by omega)).trans q5.2.1) ((zup_nei (by omega)).trans q5.2.2.1) ((zup_nei (by omega)).trans q5.2.2.2.1) ((zup_nei (by omega)).trans q5.2.2.2.2) ⟨by omega, q6.2.2.2.2⟩⟩)
      · first | (exfalso; omega) | exact Or.inr ⟨if_neg z, rfl, cCry_in hP (fun c hc i => zup_ne hc)⟩
    · refine z_iconst h dX4_take_138 ?_
      refine z_goto h dX4_take_139 ?_
      refine z_irZ h hr dX4_take_143 (by first | decide | omega | simp_all) ?_
      refine ⟨zfr_up zfr_rf (by omega) (by omega), ?_⟩
      by_cases z : a ≤ 30
      · first | (exfalso; omega) | (refine Or.inl ⟨_, if_pos z, rfl, cPlan_of hP _ _ _ _ _ (fun c hc i => zup_ne hc) (zup_nei (by omega)) (zup_eq _ _ _ _) ((zup_nei (by omega)).trans q5.2.1) ((zup_nei (by omega)).trans q5.2.2.1) ((zup_nei (by omega)).trans q5.2.2.2.1) ((zup_nei (by omega)).trans q5.2.2.2.2) ⟨by omega, q6.2.2.2.2⟩⟩)
      · first | (exfalso; omega) | exact Or.inr ⟨if_neg z, rfl, cCry_in hP (fun c hc i => zup_ne hc)⟩
  by_cases e5 : lt = 98
  · have et : pTake P lt a b c = some (P.1, P.2.1, P.2.2.1, P.2.2.2.1, P.2.2.2.2.1, a, P.2.2.2.2.2.2) := by unfold pTake; rw [if_neg e1, if_neg e2, if_neg e3, if_neg e4, if_pos e5]
    rw [et] at hr
    refine z_iload_n h dX4_take_0 rfl ?_
    refine z_tabIn (t := 144) h (98) dX4_take_1 (e5) (by decide) (by rfl) (by decide) ?_
    refine z_raload_n h dX4_take_144 rfl ?_
    refine z_iload_n h dX4_take_145 rfl ?_
    refine y_put 9 h dX4_take_146 fX4_48 pX4_9 (zPl_o hp) rfl rfl ?_
    refine z_iconst h dX4_take_149 ?_
    refine z_irZ h hr dX4_take_150 (by first | decide | omega | simp_all) ?_
    refine ⟨zfr_up zfr_rf (by omega) (by omega), Or.inl ⟨_, rfl, rfl, cPlan_of hP _ _ _ _ _ (fun c hc i => zup_ne hc) (zup_nei (by omega)) ((zup_nei (by omega)).trans q5.1) ((zup_nei (by omega)).trans q5.2.1) ((zup_nei (by omega)).trans q5.2.2.1) (zup_eq _ _ _ _) ((zup_nei (by omega)).trans q5.2.2.2.2) ⟨q6.2.2.2.1, q6.2.2.2.2.1, q6.2.2.2.2.2.1, by omega, q6.2.2.2.2.2.2.2⟩⟩⟩
  by_cases e6 : lt = 108
  · have et : pTake P lt a b c = (if a ≤ 3 then some (P.1, P.2.1, P.2.2.1, P.2.2.2.1, P.2.2.2.2.1, P.2.2.2.2.2.1, a) else none) := by unfold pTake; rw [if_neg e1, if_neg e2, if_neg e3, if_neg e4, if_neg e5, if_pos e6]
    rw [et] at hr
    refine z_iload_n h dX4_take_0 rfl ?_
    refine z_tabIn (t := 151) h (108) dX4_take_1 (e6) (by decide) (by rfl) (by decide) ?_
    refine z_raload_n h dX4_take_151 rfl ?_
    refine z_iload_n h dX4_take_152 rfl ?_
    refine y_put 10 h dX4_take_153 fX4_51 pX4_10 (zPl_o hp) rfl rfl ?_
    refine z_iload_n h dX4_take_156 rfl ?_
    refine z_iconst h dX4_take_157 ?_
    refine z_icmp_gt h dX4_take_158 (by omega) (by omega) (fun b158 => ?_) (fun b158 => ?_)
    · refine z_iconst h dX4_take_165 ?_
      refine z_irZ h hr dX4_take_166 (by first | decide | omega | simp_all) ?_
      refine ⟨zfr_up zfr_rf (by omega) (by omega), ?_⟩
      by_cases z : a ≤ 3
      · first | (exfalso; omega) | (refine Or.inl ⟨_, if_pos z, rfl, cPlan_of hP _ _ _ _ _ (fun c hc i => zup_ne hc) (zup_nei (by omega)) ((zup_nei (by omega)).trans q5.1) ((zup_nei (by omega)).trans q5.2.1) ((zup_nei (by omega)).trans q5.2.2.1) ((zup_nei (by omega)).trans q5.2.2.2.1) (zup_eq _ _ _ _) ⟨q6.2.2.2.1, q6.2.2.2.2.1, q6.2.2.2.2.2.1, q6.2.2.2.2.2.2.1, by omega⟩⟩)
      · first | (exfalso; omega) | exact Or.inr ⟨if_neg z, rfl, cCry_in hP (fun c hc i => zup_ne hc)⟩
    · refine z_iconst h dX4_take_161 ?_
      refine z_goto h dX4_take_162 ?_
      refine z_irZ h hr dX4_take_166 (by first | decide | omega | simp_all) ?_
      refine ⟨zfr_up zfr_rf (by omega) (by omega), ?_⟩
      by_cases z : a ≤ 3
      · first | (exfalso; omega) | (refine Or.inl ⟨_, if_pos z, rfl, cPlan_of hP _ _ _ _ _ (fun c hc i => zup_ne hc) (zup_nei (by omega)) ((zup_nei (by omega)).trans q5.1) ((zup_nei (by omega)).trans q5.2.1) ((zup_nei (by omega)).trans q5.2.2.1) ((zup_nei (by omega)).trans q5.2.2.2.1) (zup_eq _ _ _ _) ⟨q6.2.2.2.1, q6.2.2.2.2.1, q6.2.2.2.2.2.1, q6.2.2.2.2.2.2.1, by omega⟩⟩)
      · first | (exfalso; omega) | exact Or.inr ⟨if_neg z, rfl, cCry_in hP (fun c hc i => zup_ne hc)⟩
  have et : pTake P lt a b c = none := by unfold pTake; rw [if_neg e1, if_neg e2, if_neg e3, if_neg e4, if_neg e5, if_neg e6]
  rw [et] at hr
  refine z_iload_n h dX4_take_0 rfl ?_
  by_cases ho : lt < 98 ∨ 115 < lt
  · refine z_tabOut (t := 167) h dX4_take_1 (by omega) ho (by decide) ?_
    refine z_iconst h dX4_take_167 ?_
    refine z_irZ h hr dX4_take_168 (by first | decide | omega | simp_all) ?_
    exact ⟨zfr_rf, Or.inr ⟨rfl, rfl, _, hP.2.2.2.1⟩⟩
  · refine z_tabIn (t := 167) (off := 166) h lt dX4_take_1 rfl (by omega) (by rcases (show lt = 100 ∨ lt = 101 ∨ lt = 102 ∨ lt = 103 ∨ lt = 104 ∨ lt = 105 ∨ lt = 106 ∨ lt = 107 ∨ lt = 109 ∨ lt = 110 ∨ lt = 111 ∨ lt = 114 by omega) with rfl | rfl | rfl | rfl | rfl | rfl | rfl | rfl | rfl | rfl | rfl | rfl <;> rfl) (by decide) ?_
    refine z_iconst h dX4_take_167 ?_
    refine z_irZ h hr dX4_take_168 (by first | decide | omega | simp_all) ?_
    exact ⟨zfr_rf, Or.inr ⟨rfl, rfl, _, hP.2.2.2.1⟩⟩
end
section
/-! ===== THE TEXT ===== -/
def zsb (x : Int) : Int := if x < 128 then x else x - 256
def cText (σ : zM) (tx : List Int) : Prop := σ 1 2 = tx.length ∧ tx.length ≤ 300 ∧ (∀ (k : Nat) (x : Int), tx[k]? = some x → 0 ≤ x ∧ x ≤ 255 ∧ σ 2 k = zsb x) ∧ (∀ k : Int, 0 ≤ k → k < 3 → -1 ≤ σ 3 k ∧ σ 3 k ≤ 99)
def pFig (tx : List Int) (k : Nat) : Int := match tx[k]? with
  | some x => if 48 ≤ x ∧ x ≤ 57 then x - 48 else -1
  | none => -1
theorem pFig_rg (tx : List Int) (k : Nat) : -1 ≤ pFig tx k ∧ pFig tx k ≤ 9 := by
  unfold pFig
  split
  · split <;> omega
  · omega
def pNv (tx : List Int) (k : Nat) : Int × Nat := if pFig tx k < 0 then (-1, k) else if pFig tx (k + 1) < 0 then (pFig tx k, k + 1) else (10 * pFig tx k + pFig tx (k + 1), k + 2)
theorem pNv_rg (tx : List Int) (k : Nat) : -1 ≤ (pNv tx k).1 ∧ (pNv tx k).1 ≤ 99 := by
  have h1 := pFig_rg tx k
  have h2 := pFig_rg tx (k + 1)
  unfold pNv
  split
  · simp
  · split <;> simp <;> omega
def pNa (tx : List Int) : Nat → Nat → List Int → Option (List Int × Nat)
  | 0, k, acc => some (acc, k)
  | r + 1, k, acc => if (pNv tx k).1 < 0 then none else if tx[(pNv tx k).2]? = some (if r = 0 then 59 else 44) then pNa tx r ((pNv tx k).2 + 1) (acc ++ [(pNv tx k).1]) else none
def pOf (lt : Int) : Nat := if lt = 112 then 3 else if lt = 99 ∨ lt = 115 then 2 else if lt = 113 ∨ lt = 98 ∨ lt = 108 then 1 else 0
def pIt3 (P : zP) (lt : Int) (o : Option (List Int × Nat)) : Option (zP × Nat) := match o with
  | none => none
  | some (l, k') => (pTake P lt (l.getD 0 0) (l.getD 1 0) (l.getD 2 0)).map (fun P' => (P', k'))
def pItem (tx : List Int) (k : Nat) (P : zP) : Option (zP × Nat) := match tx[k]? with
  | none => none
  | some lt => if pOf lt = 0 then none else pIt3 P lt (pNa tx (pOf lt) (k + 1) [])
/-- all ITEMS from place k on: FAULT or -4, and the plan -/
def pAll (tx : List Int) : Nat → Nat → zP → Int × zP
  | 0, _, P => (-4, P)
  | f + 1, k, P => if k < tx.length then (match pItem tx k P with
    | none => ((k : Int), P)
    | some (P', k') => pAll tx f k' P') else (-4, P)
theorem cText_fr {σ σ' : zM} {tx : List Int} (h : cText σ tx) (h1 : σ' 1 2 = σ 1 2) (h2 : ∀ i, σ' 2 i = σ 2 i) (h3 : ∀ k : Int, 0 ≤ k → k < 3 → -1 ≤ σ' 3 k ∧ σ' 3 k ≤ 99) : cText σ' tx :=
  ⟨by rw [h1]; exact h.1, h.2.1, fun k x hk => by rw [h2]; exact h.2.2.1 k x hk, h3⟩
theorem zand_255 {x : Int} (h : 0 ≤ x ∧ x ≤ 255) : zand (zsb x) 255 = x := by
  have : ∀ j : Fin 256, zand (zsb ((j.val : Nat) : Int)) 255 = ((j.val : Nat) : Int) := by decide +kernel
  obtain ⟨n, rfl⟩ := Int.eq_ofNat_of_zero_le h.1
  exact this ⟨n, by omega⟩
theorem c_X6_figureAt (σ : zM) (tx : List Int) (k : Nat) (hx : cText σ tx) (hk : σ 1 3 = k) (hk2 : k ≤ 1000) : zCi mX6_figureAt (fun w => [zr w 1]) σ (fun r σ' => r = pFig tx k ∧ σ' = σ) := by
  refine zCi_mk (own := RX6) rfl (by decide +kernel) (fun w => [some (zr w 1)]) (fun _ => rfl) (fun _ => Nat.le_of_ble_eq_true rfl) ?_
  intro Γ h hr
  have h1 := hx.1
  have h2 := hx.2.1
  by_cases hlt : k < tx.length
  · have h3 := hx.2.2.1 k _ (List.getElem?_eq_getElem hlt)
    rw [← hk] at h3
    have h4 : pFig tx k = if 48 ≤ tx[k] ∧ tx[k] ≤ 57 then tx[k] - 48 else -1 := by unfold pFig; rw [List.getElem?_eq_getElem hlt]
    rw [h4] at hr
    have h5 : (σ 2 (σ 1 3) = tx[k] ∧ tx[k] < 128) ∨ (σ 2 (σ 1 3) = tx[k] - 256 ∧ 128 ≤ tx[k]) := by rw [h3.2.2]; unfold zsb; split <;> omega
    refine z_raload_n h dX6_figureAt_0 rfl ?_
    refine y_get 3 h dX6_figureAt_1 fX6_23 L1 rfl rfl ?_
    refine z_if_lt h dX6_figureAt_4 (by omega) (fun b4 => by exfalso; omega) (fun b4 => ?_)
    refine z_raload_n h dX6_figureAt_7 rfl ?_
    refine y_get 3 h dX6_figureAt_8 fX6_23 L1 rfl rfl ?_
    refine z_raload_n h dX6_figureAt_11 rfl ?_
    refine y_get 2 h dX6_figureAt_12 fX6_19 L1 rfl rfl ?_
    refine z_icmp_ge h dX6_figureAt_15 (by omega) (by omega) (fun b15 => by exfalso; omega) (fun b15 => ?_)
    refine z_raload_n h dX6_figureAt_18 rfl ?_
    refine z_getr h dX6_figureAt_19 fX6_9 L1 rfl ?_
    refine z_raload_n h dX6_figureAt_22 rfl ?_
    refine y_get 3 h dX6_figureAt_23 fX6_23 L1 rfl rfl ?_
    refine z_bald h dX6_figureAt_26 L2 (by decide) (by omega) ?_
    refine z_bipush h dX6_figureAt_27 (by decide) ?_
    refine z_icmp_lt h dX6_figureAt_29 (by omega) (by omega) (fun b29 => ?_) (fun b29 => ?_)
    · refine z_iconst h dX6_figureAt_46 ?_
      refine z_irI h hr dX6_figureAt_47 ?_
      refine ⟨?_, rfl⟩
      split <;> omega
    · refine z_raload_n h dX6_figureAt_32 rfl ?_
      refine z_getr h dX6_figureAt_33 fX6_9 L1 rfl ?_
      refine z_raload_n h dX6_figureAt_36 rfl ?_
      refine y_get 3 h dX6_figureAt_37 fX6_23 L1 rfl rfl ?_
      refine z_bald h dX6_figureAt_40 L2 (by decide) (by omega) ?_
      refine z_bipush h dX6_figureAt_41 (by decide) ?_
      refine z_icmp_le h dX6_figureAt_43 (by omega) (by omega) (fun b43 => ?_) (fun b43 => ?_)
      · refine z_raload_n h dX6_figureAt_48 rfl ?_
        refine z_getr h dX6_figureAt_49 fX6_9 L1 rfl ?_
        refine z_raload_n h dX6_figureAt_52 rfl ?_
        refine y_get 3 h dX6_figureAt_53 fX6_23 L1 rfl rfl ?_
        refine z_bald h dX6_figureAt_56 L2 (by decide) (by omega) ?_
        refine z_bipush h dX6_figureAt_57 (by decide) ?_
        refine z_isub h dX6_figureAt_59 ?_
        refine z_irI h hr dX6_figureAt_60 ?_
        refine ⟨?_, rfl⟩
        split <;> omega
      · refine z_iconst h dX6_figureAt_46 ?_
        refine z_irI h hr dX6_figureAt_47 ?_
        refine ⟨?_, rfl⟩
        split <;> omega
  · have h4 : pFig tx k = -1 := by unfold pFig; rw [List.getElem?_eq_none (by omega)]
    rw [h4] at hr
    refine z_raload_n h dX6_figureAt_0 rfl ?_
    refine y_get 3 h dX6_figureAt_1 fX6_23 L1 rfl rfl ?_
    refine z_if_lt h dX6_figureAt_4 (by omega) (fun b4 => by exfalso; omega) (fun b4 => ?_)
    refine z_raload_n h dX6_figureAt_7 rfl ?_
    refine y_get 3 h dX6_figureAt_8 fX6_23 L1 rfl rfl ?_
    refine z_raload_n h dX6_figureAt_11 rfl ?_
    refine y_get 2 h dX6_figureAt_12 fX6_19 L1 rfl rfl ?_
    refine z_icmp_ge h dX6_figureAt_15 (by omega) (by omega) (fun b15 => ?_) (fun b15 => by exfalso; omega)
    refine z_iconst h dX6_figureAt_46 ?_
    refine z_irI h hr dX6_figureAt_47 ?_
    exact ⟨rfl, rfl⟩
theorem c_X6_nextByte (σ : zM) (tx : List Int) (k : Nat) (hx : cText σ tx) (hk : σ 1 3 = k) (hk2 : k ≤ 1000) : zCi mX6_nextByte (fun w => [zr w 1]) σ (fun r σ' => (∃ x, tx[k]? = some x ∧ r = x ∧ σ' = zup σ 1 3 (k + 1)) ∨ (tx[k]? = none ∧ r = -1 ∧ σ' = σ)) := by
  refine zCi_mk (own := RX6) rfl (by decide +kernel) (fun w => [some (zr w 1), none]) (fun _ => rfl) (fun _ => Nat.le_of_ble_eq_true rfl) ?_
  intro Γ h hr
  have h1 := hx.1
  have h2 := hx.2.1
  by_cases hlt : k < tx.length
  · have h3 := hx.2.2.1 k _ (List.getElem?_eq_getElem hlt)
    rw [← hk] at h3
    refine z_raload_n h dX6_nextByte_0 rfl ?_
    refine y_get 3 h dX6_nextByte_1 fX6_23 L1 rfl rfl ?_
    refine z_if_lt h dX6_nextByte_4 (by omega) (fun b4 => by exfalso; omega) (fun b4 => ?_)
    refine z_raload_n h dX6_nextByte_7 rfl ?_
    refine y_get 3 h dX6_nextByte_8 fX6_23 L1 rfl rfl ?_
    refine z_raload_n h dX6_nextByte_11 rfl ?_
    refine y_get 2 h dX6_nextByte_12 fX6_19 L1 rfl rfl ?_
    refine z_icmp_lt h dX6_nextByte_15 (by omega) (by omega) (fun b15 => ?_) (fun b15 => by exfalso; omega)
    refine z_raload_n h dX6_nextByte_20 rfl ?_
    refine z_getr h dX6_nextByte_21 fX6_9 L1 rfl ?_
    refine z_raload_n h dX6_nextByte_24 rfl ?_
    refine y_get 3 h dX6_nextByte_25 fX6_23 L1 rfl rfl ?_
    refine z_bald h dX6_nextByte_28 L2 (by decide) (by omega) ?_
    refine z_sipush h dX6_nextByte_29 (by decide) ?_
    refine z_iand h dX6_nextByte_32 ?_
    rw [h3.2.2, zand_255 ⟨h3.1, h3.2.1⟩]
    refine z_ist1_n h dX6_nextByte_33 (by decide) (zst1_1 rfl) ?_
    refine z_raload_n h dX6_nextByte_34 rfl ?_
    refine z_dup h dX6_nextByte_35 rfl ?_
    refine y_get 3 h dX6_nextByte_36 fX6_23 L1 rfl rfl ?_
    refine z_iconst h dX6_nextByte_39 ?_
    refine z_iadd h dX6_nextByte_40 ?_
    refine y_put 3 h dX6_nextByte_41 fX6_23 pX6_3 L1 rfl rfl ?_
    refine z_iload_n h dX6_nextByte_44 rfl ?_
    refine z_irI h hr dX6_nextByte_45 ?_
    rw [hk]
    exact Or.inl ⟨tx[k], List.getElem?_eq_getElem hlt, rfl, rfl⟩
  · refine z_raload_n h dX6_nextByte_0 rfl ?_
    refine y_get 3 h dX6_nextByte_1 fX6_23 L1 rfl rfl ?_
    refine z_if_lt h dX6_nextByte_4 (by omega) (fun b4 => by exfalso; omega) (fun b4 => ?_)
    refine z_raload_n h dX6_nextByte_7 rfl ?_
    refine y_get 3 h dX6_nextByte_8 fX6_23 L1 rfl rfl ?_
    refine z_raload_n h dX6_nextByte_11 rfl ?_
    refine y_get 2 h dX6_nextByte_12 fX6_19 L1 rfl rfl ?_
    refine z_icmp_lt h dX6_nextByte_15 (by omega) (by omega) (fun b15 => by exfalso; omega) (fun b15 => ?_)
    refine z_iconst h dX6_nextByte_18 ?_
    refine z_irI h hr dX6_nextByte_19 ?_
    exact Or.inr ⟨List.getElem?_eq_none (by omega), rfl, rfl⟩
theorem c_X6_readNumber (σ : zM) (tx : List Int) (k : Nat) (hx : cText σ tx) (hk : σ 1 3 = k) (hk2 : k ≤ 900) : zCi mX6_readNumber (fun w => [zr w 1]) σ (fun r σ' => r = (pNv tx k).1 ∧ σ' 1 3 = (pNv tx k).2 ∧ (∀ c i, ¬ (c = 1 ∧ i = 3) → σ' c i = σ c i)) := by
  refine zCi_mk (own := RX6) rfl (by decide +kernel) (fun w => [some (zr w 1), none, none]) (fun _ => rfl) (fun _ => Nat.le_of_ble_eq_true rfl) ?_
  intro Γ h hr
  have g1 := pFig_rg tx k
  have g2 := pFig_rg tx (k + 1)
  have hne : ∀ (v : Int) c i, ¬ (c = 1 ∧ i = 3) → zup σ 1 3 v c i = σ c i := fun v c i h => by rw [zup, if_neg h]
  refine z_raload_n h dX6_readNumber_0 rfl ?_
  refine z_cVi0 h dX6_readNumber_1 lX6_54 vX6_figureAt rfl L1 (c_X6_figureAt σ tx k hx hk (by omega)) rfl (Nat.le_of_ble_eq_true rfl) (by decide) (fun v σ1 h1 => ?_)
  obtain ⟨rfl, rfl⟩ := h1
  refine z_ist1_n h dX6_readNumber_4 (by decide) (zst1_1 rfl) ?_
  refine z_iload_n h dX6_readNumber_5 rfl ?_
  refine z_if_ge h dX6_readNumber_6 (by omega) (fun b6 => ?_) (fun b6 => ?_)
  · refine z_raload_n h dX6_readNumber_11 rfl ?_
    refine z_dup h dX6_readNumber_12 rfl ?_
    refine y_get 3 h dX6_readNumber_13 fX6_23 L1 rfl rfl ?_
    refine z_iconst h dX6_readNumber_16 ?_
    refine z_iadd h dX6_readNumber_17 ?_
    refine y_put 3 h dX6_readNumber_18 fX6_23 pX6_3 L1 rfl rfl ?_
    refine z_raload_n h dX6_readNumber_21 rfl ?_
    refine z_cVi0 h dX6_readNumber_22 lX6_54 vX6_figureAt rfl L1 (c_X6_figureAt _ tx (k + 1) (cText_fr hx (zup_nei (by omega)) (fun i => zup_ne (by omega)) (fun k a b => by rw [zup_ne (by omega)]; exact hx.2.2.2 k a b)) (by rw [zup_eq, hk]; omega) (by omega)) rfl (Nat.le_of_ble_eq_true rfl) (by decide) (fun v2 σ2 h2 => ?_)
    obtain ⟨rfl, rfl⟩ := h2
    refine z_ist1_n h dX6_readNumber_25 (by decide) (zst1_2 rfl) ?_
    refine z_iload_n h dX6_readNumber_26 rfl ?_
    refine z_if_ge h dX6_readNumber_27 (by omega) (fun b27 => ?_) (fun b27 => ?_)
    · refine z_raload_n h dX6_readNumber_32 rfl ?_
      refine z_dup h dX6_readNumber_33 rfl ?_
      refine y_get 3 h dX6_readNumber_34 fX6_23 L1 rfl rfl ?_
      try simp (disch := omega) only [zup_eq, zup_ne, zup_nei]
      refine z_iconst h dX6_readNumber_37 ?_
      refine z_iadd h dX6_readNumber_38 ?_
      refine y_put 3 h dX6_readNumber_39 fX6_23 pX6_3 L1 rfl rfl ?_
      refine z_bipush h dX6_readNumber_42 (by decide) ?_
      refine z_iload_n h dX6_readNumber_44 rfl ?_
      refine z_imul h dX6_readNumber_45 ?_
      refine z_iload_n h dX6_readNumber_46 rfl ?_
      refine z_iadd h dX6_readNumber_47 ?_
      refine z_irI h hr dX6_readNumber_48 ?_
      have e : pNv tx k = (10 * pFig tx k + pFig tx (k + 1), k + 2) := by (unfold pNv; rw [if_neg (by omega), if_neg (by omega)])
      rw [e]
      refine ⟨rfl, by rw [zup_eq, hk]; simp; omega, fun c i hci => ?_⟩
      rw [zup, if_neg hci]
      exact hne _ c i hci
    · refine z_iload_n h dX6_readNumber_30 rfl ?_
      refine z_irI h hr dX6_readNumber_31 ?_
      have e : pNv tx k = (pFig tx k, k + 1) := by (unfold pNv; rw [if_neg (by omega), if_pos (by omega)])
      rw [e]
      exact ⟨rfl, by rw [zup_eq, hk]; rfl, hne _⟩
  · refine z_iload_n h dX6_readNumber_9 rfl ?_
    refine z_irI h hr dX6_readNumber_10 ?_
    have e : pNv tx k = (-1, k) := by (unfold pNv; rw [if_pos (by omega)])
    rw [e]
    exact ⟨by omega, hk, fun _ _ _ => rfl⟩
theorem c_X6_numbersOf (σ : zM) (lt : Int) (hlt : -1 ≤ lt ∧ lt ≤ 255) : zCi mX6_numbersOf (fun w => [zi lt]) σ (fun r σ' => r = pOf lt ∧ σ' = σ) := by
  refine zCi_mk (own := RX6) rfl (by decide +kernel) (fun w => [some (zi lt)]) (fun _ => rfl) (fun _ => Nat.le_of_ble_eq_true rfl) ?_
  intro Γ h hr
  by_cases ho : lt < 98 ∨ 115 < lt
  · have e : pOf lt = 0 := by unfold pOf; rw [if_neg (by omega), if_neg (by omega), if_neg (by omega)]
    rw [e] at hr
    refine z_iload_n h dX6_numbersOf_0 rfl ?_
    refine z_tabOut (t := 94) h dX6_numbersOf_1 (by omega) (ho) (by decide) ?_
    refine z_iconst h dX6_numbersOf_94 ?_
    refine z_irI h hr dX6_numbersOf_95 ?_
    exact ⟨rfl, rfl⟩
  · by_cases e1 : lt = 112
    · have e : pOf lt = 3 := by unfold pOf; rw [if_pos e1]
      rw [e] at hr
      refine z_iload_n h dX6_numbersOf_0 rfl ?_
      refine z_tabIn (t := 88) h (112) dX6_numbersOf_1 (e1) (by decide) (by rfl) (by decide) ?_
      refine z_iconst h dX6_numbersOf_88 ?_
      refine z_irI h hr dX6_numbersOf_89 ?_
      exact ⟨rfl, rfl⟩
    · by_cases e2 : lt = 99 ∨ lt = 115
      · have e : pOf lt = 2 := by unfold pOf; rw [if_neg e1, if_pos e2]
        rw [e] at hr
        refine z_iload_n h dX6_numbersOf_0 rfl ?_
        refine z_tabIn (t := 90) (off := 89) h lt dX6_numbersOf_1 rfl (by omega) (by rcases e2 with rfl | rfl <;> rfl) (by decide) ?_
        refine z_iconst h dX6_numbersOf_90 ?_
        refine z_irI h hr dX6_numbersOf_91 ?_
        exact ⟨rfl, rfl⟩
      · by_cases e3 : lt = 113 ∨ lt = 98 ∨ lt = 108
        · have e : pOf lt = 1 := by unfold pOf; rw [if_neg e1, if_neg e2, if_pos e3]
          rw [e] at hr
          refine z_iload_n h dX6_numbersOf_0 rfl ?_
          refine z_tabIn (t := 92) (off := 91) h lt dX6_numbersOf_1 rfl (by omega) (by rcases e3 with rfl | rfl | rfl <;> rfl) (by decide) ?_
          refine z_iconst h dX6_numbersOf_92 ?_
          refine z_irI h hr dX6_numbersOf_93 ?_
          exact ⟨rfl, rfl⟩
        · have e : pOf lt = 0 := by unfold pOf; rw [if_neg e1, if_neg e2, if_neg e3]
          rw [e] at hr
          refine z_iload_n h dX6_numbersOf_0 rfl ?_
          refine z_tabIn (t := 94) (off := 93) h lt dX6_numbersOf_1 rfl (by omega) (by rcases (show lt = 100 ∨ lt = 101 ∨ lt = 102 ∨ lt = 103 ∨ lt = 104 ∨ lt = 105 ∨ lt = 106 ∨ lt = 107 ∨ lt = 109 ∨ lt = 110 ∨ lt = 111 ∨ lt = 114 by omega) with rfl | rfl | rfl | rfl | rfl | rfl | rfl | rfl | rfl | rfl | rfl | rfl <;> rfl) (by decide) ?_
          refine z_iconst h dX6_numbersOf_94 ?_
          refine z_irI h hr dX6_numbersOf_95 ?_
          exact ⟨rfl, rfl⟩
end
section
theorem pNv_le (tx : List Int) (k : Nat) : (pNv tx k).2 ≤ k + 2 := by
  unfold pNv
  split
  · simp
  · split <;> simp
abbrev zNB (tx : List Int) (k : Nat) (σ : zM) (v : Int) (σ' : zM) : Prop := (∃ x, tx[k]? = some x ∧ v = x ∧ σ' = zup σ 1 3 (k + 1)) ∨ (tx[k]? = none ∧ v = -1 ∧ σ' = σ)
theorem zNB_v {tx : List Int} {k : Nat} {σ σ' : zM} {v : Int} (hx : cText σ tx) (h : zNB tx k σ v σ') : -1 ≤ v ∧ v ≤ 255 := by
  rcases h with ⟨x, a1, rfl, a3⟩ | ⟨a1, rfl, a3⟩
  · have := hx.2.2.1 _ _ a1
    omega
  · omega
theorem zNB_t {tx : List Int} {k : Nat} {σ σ' : zM} {v : Int} (hx : cText σ tx) (h : zNB tx k σ v σ') : cText σ' tx := by
  rcases h with ⟨x, a1, a2, rfl⟩ | ⟨a1, a2, rfl⟩
  · exact cText_fr hx (zup_nei (by omega)) (fun i => zup_ne (by omega)) (fun i a b => by rw [zup_ne (by omega)]; exact hx.2.2.2 i a b)
  · exact hx
theorem zNB_f {tx : List Int} {k : Nat} {σ σ' : zM} {v : Int} (h : zNB tx k σ v σ') : ∀ c, c ≠ 1 → ∀ i, σ' c i = σ c i := by
  rcases h with ⟨x, a1, a2, rfl⟩ | ⟨a1, a2, rfl⟩
  · exact fun c hc i => zup_ne hc
  · exact fun _ _ _ => rfl
theorem zNB_ne {tx : List Int} {k : Nat} {σ σ' : zM} {v s : Int} (h : zNB tx k σ v σ') (hv : v ≠ s) (hs : 0 ≤ s) : ¬ tx[k]? = some s := by
  intro z
  rcases h with ⟨x, a1, rfl, a3⟩ | ⟨a1, rfl, a3⟩
  · rw [a1] at z; exact hv (Option.some.inj z)
  · rw [a1] at z; cases z
theorem zT3 {tx : List Int} {σ1 σ2 : zM} {j v : Int} (hx : cText σ1 tx) (hv : -1 ≤ v ∧ v ≤ 99) (h : ∀ i, σ2 3 i = σ1 3 i) : ∀ i : Int, 0 ≤ i → i < 3 → -1 ≤ zup σ2 3 j v 3 i ∧ zup σ2 3 j v 3 i ≤ 99 := by
  intro i a b
  by_cases e : i = j
  · rw [e, zup_eq]; exact hv
  · rw [zup_nei e, h]; exact hx.2.2.2 i a b
theorem zAcc {σ1 σ2 : zM} {acc : List Int} {v w : Int} (h7 : ∀ (i : Nat) v, acc[i]? = some v → σ1 3 i = v ∧ 0 ≤ v ∧ v ≤ 99) (h : ∀ i, σ2 3 i = σ1 3 i) (hv : 0 ≤ v ∧ v ≤ 99) : ∀ (i : Nat) u, (acc ++ [v])[i]? = some u → zup (zup σ2 3 acc.length v) 1 3 w 3 i = u ∧ 0 ≤ u ∧ u ≤ 99 := by
  intro i u hu
  rw [zup_ne (by omega)]
  by_cases e : i < acc.length
  · rw [List.getElem?_append_left e] at hu
    rw [zup_nei (by omega), h]
    exact h7 i u hu
  · have e2 := (List.getElem?_eq_some_iff.mp hu).1
    simp at e2
    have e3 : i = acc.length := by omega
    subst e3
    simp at hu
    subst hu
    rw [zup_eq]
    exact ⟨rfl, hv⟩
theorem c_X6_readNumbers (σ : zM) (tx : List Int) (k mn : Nat) (hx : cText σ tx) (hk : σ 1 3 = k) (hk2 : k ≤ 301) (hmn : mn ≤ 3) : zCi mX6_readNumbers (fun w => [zr w 1, zi mn]) σ (fun r σ' => cText σ' tx ∧ zfr 1 3 σ σ' ∧ ((∃ l k', pNa tx mn k [] = some (l, k') ∧ r = 1 ∧ l.length = mn ∧ (∀ (i : Nat) v, l[i]? = some v → σ' 3 i = v ∧ 0 ≤ v ∧ v ≤ 99) ∧ σ' 1 3 = k' ∧ k' ≤ 301) ∨ (pNa tx mn k [] = none ∧ r = 0))) := by
  refine zCi_mk (own := RX6) rfl (by decide +kernel) (fun w => [some (zr w 1), some (zi mn), none]) (fun _ => rfl) (fun _ => Nat.le_of_ble_eq_true rfl) ?_
  intro Γ h hr
  have L : ∀ (r : Nat) (σ1 : zM) (acc : List Int) (kj : Nat), acc.length + r = mn → pNa tx mn k [] = pNa tx r kj acc → σ1 1 3 = kj → kj ≤ 301 → cText σ1 tx → zfr 1 3 σ σ1 → (∀ (i : Nat) v, acc[i]? = some v → σ1 3 i = v ∧ 0 ≤ v ∧ v ≤ 99) → zV Γ σ1 2 [some (zr (zw Γ) 1), some (zi mn), some (zi acc.length)] [] := by
    intro r
    induction r with
    | zero =>
      intro σ1 acc kj h1 h2 h3 h4 h5 h6 h7
      refine z_iload_n h dX6_readNumbers_2 rfl ?_
      refine z_iload_n h dX6_readNumbers_3 rfl ?_
      refine z_icmp_ge h dX6_readNumbers_4 (by omega) (by omega) (fun b4 => ?_) (fun b4 => by exfalso; omega)
      refine z_iconst h dX6_readNumbers_64 ?_
      refine z_irZ h hr dX6_readNumbers_65 (by first | decide | omega | simp_all) ?_
      refine ⟨h5, h6, Or.inl ⟨acc, kj, by rw [h2]; rfl, rfl, by omega, h7, h3, h4⟩⟩
    | succ r ih =>
      intro σ1 acc kj h1 h2 h3 h4 h5 h6 h7
      have g1 := pNv_rg tx kj
      have g2 := pNv_le tx kj
      rw [show pNa tx (r + 1) kj acc = (if (pNv tx kj).1 < 0 then none else if tx[(pNv tx kj).2]? = some (if r = 0 then 59 else 44) then pNa tx r ((pNv tx kj).2 + 1) (acc ++ [(pNv tx kj).1]) else none) from rfl] at h2
      refine z_iload_n h dX6_readNumbers_2 rfl ?_
      refine z_iload_n h dX6_readNumbers_3 rfl ?_
      refine z_icmp_ge h dX6_readNumbers_4 (by omega) (by omega) (fun b4 => by exfalso; omega) (fun b4 => ?_)
      refine z_iload_n h dX6_readNumbers_7 rfl ?_
      refine z_raload_n h dX6_readNumbers_8 rfl ?_
      refine z_getr h dX6_readNumbers_9 fX6_15 L1 rfl ?_
      refine y_alen 3 h dX6_readNumbers_12 L3 (by decide) rfl ?_
      refine z_icmp_ge h dX6_readNumbers_13 (by omega) (by omega) (fun b13 => by exfalso; omega) (fun b13 => ?_)
      refine z_raload_n h dX6_readNumbers_16 rfl ?_
      refine z_getr h dX6_readNumbers_17 fX6_15 L1 rfl ?_
      refine z_iload_n h dX6_readNumbers_20 rfl ?_
      refine z_raload_n h dX6_readNumbers_21 rfl ?_
      refine z_cVi0 h dX6_readNumbers_22 lX6_51 vX6_readNumber rfl L1 (c_X6_readNumber σ1 tx kj h5 h3 (by omega)) rfl (Nat.le_of_ble_eq_true rfl) (by decide) (fun v σ2 h8 => ?_)
      obtain ⟨rfl, h9, h10⟩ := h8
      have h11 : cText (zup σ2 3 acc.length (pNv tx kj).1) tx := cText_fr h5 (by rw [zup_ne (by omega)]; exact h10 1 2 (by omega)) (fun i => by rw [zup_ne (by omega)]; exact h10 2 i (by omega)) (zT3 h5 (by omega) (fun i => h10 3 i (by omega)))
      have h12 : zfr 1 3 σ (zup σ2 3 acc.length (pNv tx kj).1) := zfr_up (zfr_tr h6 (fun c hc i => h10 c i (by omega))) (by omega) (by omega)
      refine z_iast h dX6_readNumbers_25 L3 (by decide) (by omega) ?_
      refine z_raload_n h dX6_readNumbers_26 rfl ?_
      refine z_getr h dX6_readNumbers_27 fX6_15 L1 rfl ?_
      refine z_iload_n h dX6_readNumbers_30 rfl ?_
      refine z_iald h dX6_readNumbers_31 L3 (by decide) (by omega) ?_
      try simp (disch := omega) only [zup_eq, zup_ne, zup_nei]
      refine z_if_lt h dX6_readNumbers_32 (by omega) (fun b32 => ?_) (fun b32 => ?_)
      · refine z_iconst h dX6_readNumbers_56 ?_
        refine z_irZ h hr dX6_readNumbers_57 (by first | decide | omega | simp_all) ?_
        refine ⟨by first | exact h15 | exact h11, by first | exact h16 | exact h12, Or.inr ⟨?_, rfl⟩⟩
        rw [h2]
        by_cases e : (pNv tx kj).1 < 0
        · rw [if_pos e]
        · rw [if_neg e]
          first | (exfalso; omega) | exact if_neg (zNB_ne h13 (by split <;> omega) (by split <;> omega))
      · refine z_raload_n h dX6_readNumbers_35 rfl ?_
        refine z_cVi0 h dX6_readNumbers_36 lX6_35 vX6_nextByte rfl L1 (c_X6_nextByte _ tx (pNv tx kj).2 h11 (by rw [zup_ne (by omega)]; exact h9) (by omega)) rfl (Nat.le_of_ble_eq_true rfl) (by decide) (fun v2 σ3 h13 => ?_)
        have h14 := zNB_v h11 h13
        have h15 : cText σ3 tx := zNB_t h11 h13
        have h16 : zfr 1 3 σ σ3 := zfr_tr h12 (fun c hc i => zNB_f h13 c (by omega) i)
        refine z_iload_n h dX6_readNumbers_39 rfl ?_
        refine z_iload_n h dX6_readNumbers_40 rfl ?_
        refine z_iconst h dX6_readNumbers_41 ?_
        refine z_isub h dX6_readNumbers_42 ?_
        refine z_icmp_ne h dX6_readNumbers_43 (by omega) (by omega) (fun b43 => ?_) (fun b43 => ?_)
        · refine z_bipush h dX6_readNumbers_51 (by decide) ?_
          refine z_icmp_eq h dX6_readNumbers_53 (by omega) (by omega) (fun b53 => ?_) (fun b53 => ?_)
          · refine z_iinc h dX6_readNumbers_58 (by decide) rfl (zst1_2 rfl) ?_
            refine z_goto h dX6_readNumbers_61 ?_
            rw [if_neg (by omega)] at h2
            rcases h13 with ⟨x, a1, rfl, rfl⟩ | ⟨a1, rfl, a3⟩
            rotate_left
            · exfalso; omega
            have hlt := (List.getElem?_eq_some_iff.mp a1).1
            have h17 := h5.2.1
            rw [if_pos (by rw [a1]; congr 1; split <;> omega)] at h2
            have h18 := zAcc (w := (pNv tx kj).2 + 1) h7 (fun i => h10 3 i (by omega)) (show 0 ≤ (pNv tx kj).1 ∧ (pNv tx kj).1 ≤ 99 by omega)
            have h19 := ih _ (acc ++ [(pNv tx kj).1]) ((pNv tx kj).2 + 1) (by simp; omega) h2 (by rw [zup_eq]; rfl) (by omega) h15 h16 h18
            rw [List.length_append, List.length_singleton] at h19
            exact h19
          · refine z_iconst h dX6_readNumbers_56 ?_
            refine z_irZ h hr dX6_readNumbers_57 (by first | decide | omega | simp_all) ?_
            refine ⟨by first | exact h15 | exact h11, by first | exact h16 | exact h12, Or.inr ⟨?_, rfl⟩⟩
            rw [h2]
            by_cases e : (pNv tx kj).1 < 0
            · rw [if_pos e]
            · rw [if_neg e]
              first | (exfalso; omega) | exact if_neg (zNB_ne h13 (by split <;> omega) (by split <;> omega))
        · refine z_bipush h dX6_readNumbers_46 (by decide) ?_
          refine z_goto h dX6_readNumbers_48 ?_
          refine z_icmp_eq h dX6_readNumbers_53 (by omega) (by omega) (fun b53 => ?_) (fun b53 => ?_)
          · refine z_iinc h dX6_readNumbers_58 (by decide) rfl (zst1_2 rfl) ?_
            refine z_goto h dX6_readNumbers_61 ?_
            rw [if_neg (by omega)] at h2
            rcases h13 with ⟨x, a1, rfl, rfl⟩ | ⟨a1, rfl, a3⟩
            rotate_left
            · exfalso; omega
            have hlt := (List.getElem?_eq_some_iff.mp a1).1
            have h17 := h5.2.1
            rw [if_pos (by rw [a1]; congr 1; split <;> omega)] at h2
            have h18 := zAcc (w := (pNv tx kj).2 + 1) h7 (fun i => h10 3 i (by omega)) (show 0 ≤ (pNv tx kj).1 ∧ (pNv tx kj).1 ≤ 99 by omega)
            have h19 := ih _ (acc ++ [(pNv tx kj).1]) ((pNv tx kj).2 + 1) (by simp; omega) h2 (by rw [zup_eq]; rfl) (by omega) h15 h16 h18
            rw [List.length_append, List.length_singleton] at h19
            exact h19
          · refine z_iconst h dX6_readNumbers_56 ?_
            refine z_irZ h hr dX6_readNumbers_57 (by first | decide | omega | simp_all) ?_
            refine ⟨by first | exact h15 | exact h11, by first | exact h16 | exact h12, Or.inr ⟨?_, rfl⟩⟩
            rw [h2]
            by_cases e : (pNv tx kj).1 < 0
            · rw [if_pos e]
            · rw [if_neg e]
              first | (exfalso; omega) | exact if_neg (zNB_ne h13 (by split <;> omega) (by split <;> omega))
  refine z_iconst h dX6_readNumbers_0 ?_
  refine z_ist1_n h dX6_readNumbers_1 (by decide) (zst1_2 rfl) ?_
  exact L mn σ [] k (by simp) rfl hk hk2 hx zfr_rf (by simp)
theorem pTake_1 {P : zP} {lt a b c : Int} (h : pOf lt = 1) : pTake P lt a b c = pTake P lt a 0 0 := by
  unfold pOf at h
  unfold pTake
  split at h
  · omega
  · split at h
    · omega
    · next h1 h2 =>
      have n1 : ¬ lt = 99 := by omega
      have n2 : ¬ lt = 115 := by omega
      rw [if_neg h1, if_neg n1, if_neg n2, if_neg h1, if_neg n1, if_neg n2]
theorem pTake_2 {P : zP} {lt a b c : Int} (h : pOf lt = 2) : pTake P lt a b c = pTake P lt a b 0 := by
  unfold pOf at h
  unfold pTake
  split at h
  · omega
  · next h1 => rw [if_neg h1, if_neg h1]
theorem pOf_3 {lt : Int} : (pOf lt = 3 → lt = 112) ∧ (pOf lt = 2 → lt = 99 ∨ lt = 115) ∧ (lt = 112 → pOf lt = 3) ∧ (lt = 99 ∨ lt = 115 → pOf lt = 2) ∧ pOf lt ≤ 3 := by
  unfold pOf
  refine ⟨?_, ?_, ?_, ?_, ?_⟩ <;> split <;> (try split) <;> (try split) <;> omega
theorem zTk {P : zP} {lt : Int} {a b c a' b' c' : Int} (e0 : a' = a) (e1 : 2 ≤ pOf lt → b' = b) (e2 : 3 ≤ pOf lt → c' = c) (h : pOf lt ≠ 0) : pTake P lt a b c = pTake P lt a' b' c' := by
  have h7 := @pOf_3 lt
  rw [e0]
  rcases (show pOf lt = 1 ∨ pOf lt = 2 ∨ pOf lt = 3 by omega) with e | e | e
  · rw [pTake_1 e, pTake_1 (b := b') e]
  · rw [e1 (by omega), pTake_2 e, pTake_2 (c := c') e]
  · rw [e1 (by omega), e2 (by omega)]
theorem c_X6_readItem (σ : zM) (tx : List Int) (k : Nat) (π : Nat) (hp : zPl π) (P : zP) (hP : cPlan σ π P) (hx : cText σ tx) (hk : σ 1 3 = k) (hk2 : k ≤ 300) : zCi mX6_readItem (fun w => [zr w 1, zr w π]) σ (fun r σ' => cText σ' tx ∧ (∀ c, (c < 1 ∨ 3 < c) → (c < π ∨ π + 8 < c) → ∀ i, σ' c i = σ c i) ∧ ((∃ P' k', pItem tx k P = some (P', k') ∧ r = 1 ∧ cPlan σ' π P' ∧ σ' 1 3 = k' ∧ k' ≤ 301) ∨ (pItem tx k P = none ∧ r = 0 ∧ ∃ l, cCry σ' (π + 5) l))) := by
  refine zCi_mk (own := RX6) rfl (by decide +kernel) (fun w => [some (zr w 1), some (zr w π), none, none]) (fun _ => rfl) (fun _ => Nat.le_of_ble_eq_true rfl) ?_
  intro Γ h hr
  have hpi : 39 ≤ π := by unfold zPl at hp; omega
  refine z_raload_n h dX6_readItem_0 rfl ?_
  refine z_cVi0 h dX6_readItem_1 lX6_35 vX6_nextByte rfl L1 (c_X6_nextByte σ tx k hx hk (by omega)) rfl (Nat.le_of_ble_eq_true rfl) (by decide) (fun lt σ1 h1 => ?_)
  have h2 := zNB_v hx h1
  have h3 : cText σ1 tx := zNB_t hx h1
  have h4 : ∀ c, c ≠ 1 → ∀ i, σ1 c i = σ c i := zNB_f h1
  have h5 : cPlan σ1 π P := cPlan_fr hP (fun c a b i => h4 c (by omega) i)
  refine z_ist1_n h dX6_readItem_4 (by decide) (zst1_2 rfl) ?_
  refine z_iload_n h dX6_readItem_5 rfl ?_
  refine z_cSi1 h dX6_readItem_6 lX6_39 vX6_numbersOf (c_X6_numbersOf σ1 lt h2) rfl (Nat.le_of_ble_eq_true rfl) (by decide) (fun mn σ2 h6 => ?_)
  obtain ⟨rfl, rfl⟩ := h6
  have h7 := @pOf_3 lt
  refine z_ist1_n h dX6_readItem_9 (by decide) (zst1_3 rfl) ?_
  refine z_iload_n h dX6_readItem_10 rfl ?_
  refine z_if_le h dX6_readItem_11 (by omega) (fun b11 => ?_) (fun b11 => ?_)
  · refine z_iconst h dX6_readItem_52 ?_
    refine z_irZ h hr dX6_readItem_53 (by decide) ?_
    refine ⟨h3, fun c a b i => h4 c (by omega) i, Or.inr ⟨?_, rfl, _, h5.2.2.2.1⟩⟩
    unfold pItem
    rcases h1 with ⟨x, a1, rfl, a3⟩ | ⟨a1, rfl, a3⟩
    · rw [a1]
      show (if pOf lt = 0 then none else _) = none
      rw [if_pos (by omega)]
    · rw [a1]
  · rcases h1 with ⟨x, a1, rfl, rfl⟩ | ⟨a1, rfl, a3⟩
    rotate_left
    · exfalso; revert b11; decide
    have h8 : pItem tx k P = pIt3 P lt (pNa tx (pOf lt) (k + 1) []) := by (unfold pItem; rw [a1]; exact if_neg (by omega))
    refine z_raload_n h dX6_readItem_14 rfl ?_
    refine z_iload_n h dX6_readItem_15 rfl ?_
    refine z_cVi1 h dX6_readItem_16 lX6_43 vX6_readNumbers rfl L1 (c_X6_readNumbers _ tx (k + 1) (pOf lt) h3 (by rw [zup_eq]; rfl) (by omega) (by omega)) rfl (Nat.le_of_ble_eq_true rfl) (by decide) (fun v σ3 h9 => ?_)
    obtain ⟨h10, h11, h12⟩ := h9
    have hv : v = 0 ∨ v = 1 := by (rcases h12 with ⟨l, k', a2, rfl, -⟩ | ⟨a2, rfl⟩ <;> simp)
    have h13 : cPlan σ3 π P := cPlan_fr h5 (fun c a b i => h11 c (by omega) i)
    refine z_if_eq h dX6_readItem_19 (by omega) (fun b19 => ?_) (fun b19 => ?_)
    · refine z_iconst h dX6_readItem_52 ?_
      refine z_irZ h hr dX6_readItem_53 (by decide) ?_
      refine ⟨h10, fun c a b i => (h11 c a i).trans (h4 c (by omega) i), Or.inr ⟨?_, rfl, _, h13.2.2.2.1⟩⟩
      rcases h12 with ⟨l, k', a2, rfl, -⟩ | ⟨a2, rfl⟩
      · exfalso; omega
      · rw [h8, a2]; rfl
    · rcases h12 with ⟨l, k', a2, -, a4, a5, a6, a7⟩ | ⟨a2, rfl⟩
      rotate_left
      · exfalso; omega
      rw [a2] at h8
      have h8 : pItem tx k P = (pTake P lt (l.getD 0 0) (l.getD 1 0) (l.getD 2 0)).map (fun P' => (P', k')) := h8
      have c0 : σ3 3 0 = l.getD 0 0 ∧ 0 ≤ l.getD 0 0 ∧ l.getD 0 0 ≤ 99 := by (have hl : 0 < l.length := (by omega); have := a5 0 _ (List.getElem?_eq_getElem hl); rw [List.getD_eq_getElem?_getD, List.getElem?_eq_getElem hl]; exact this)
      have c1 : 2 ≤ pOf lt → (σ3 3 1 = l.getD 1 0 ∧ 0 ≤ l.getD 1 0 ∧ l.getD 1 0 ≤ 99) := by (intro z; have hl : 1 < l.length := (by omega); have := a5 1 _ (List.getElem?_eq_getElem hl); rw [List.getD_eq_getElem?_getD, List.getElem?_eq_getElem hl]; exact this)
      have c2 : 3 ≤ pOf lt → (σ3 3 2 = l.getD 2 0 ∧ 0 ≤ l.getD 2 0 ∧ l.getD 2 0 ≤ 99) := by (intro z; have hl : 2 < l.length := (by omega); have := a5 2 _ (List.getElem?_eq_getElem hl); rw [List.getD_eq_getElem?_getD, List.getElem?_eq_getElem hl]; exact this)
      have r1 := h10.2.2.2 1 (by omega) (by omega)
      have r2 := h10.2.2.2 2 (by omega) (by omega)
      have h14 := zTk c0.1 (fun z => (c1 z).1) (fun z => (c2 z).1) (P := P) (by omega)
      rw [h14] at h8
      refine z_raload_n h dX6_readItem_22 rfl ?_
      refine z_iload_n h dX6_readItem_23 rfl ?_
      refine z_raload_n h dX6_readItem_24 rfl ?_
      refine z_getr h dX6_readItem_25 fX6_15 L1 rfl ?_
      refine z_iconst h dX6_readItem_28 ?_
      refine z_iald h dX6_readItem_29 L3 (by decide) (by omega) ?_
      refine z_raload_n h dX6_readItem_30 rfl ?_
      refine z_getr h dX6_readItem_31 fX6_15 L1 rfl ?_
      refine z_iconst h dX6_readItem_34 ?_
      refine z_iald h dX6_readItem_35 L3 (by decide) (by omega) ?_
      refine z_raload_n h dX6_readItem_36 rfl ?_
      refine z_getr h dX6_readItem_37 fX6_15 L1 rfl ?_
      refine z_iconst h dX6_readItem_40 ?_
      refine z_iald h dX6_readItem_41 L3 (by decide) (by omega) ?_
      refine z_cVi4 h dX6_readItem_42 lX6_47 vX4_take rfl (zPl_o hp) (c_X4_take σ3 π hp P h13 lt (σ3 3 0) (σ3 3 1) (σ3 3 2) h2 (by omega) (by omega) (by omega) (fun z => by (have z1 : 2 ≤ pOf lt := (by omega); have := c1 z1; omega)) (fun z => by (have z1 : 3 ≤ pOf lt := (by omega); have := c2 z1; omega))) rfl (Nat.le_of_ble_eq_true rfl) (by decide) (fun v2 σ4 h15 => ?_)
      obtain ⟨h16, h17⟩ := h15
      have hv2 : v2 = 0 ∨ v2 = 1 := by (rcases h17 with ⟨P', b1, rfl, b3⟩ | ⟨b1, rfl, b3⟩ <;> simp)
      have h18 : cText σ4 tx := cText_fr h10 (h16 1 (by omega) 2) (fun i => h16 2 (by omega) i) (fun i a b => by rw [h16 3 (by omega)]; exact h10.2.2.2 i a b)
      have h19 : ∀ c, (c < 1 ∨ 3 < c) → (c < π ∨ π + 8 < c) → ∀ i, σ4 c i = σ c i := fun c a b i => ((h16 c b i).trans (h11 c a i)).trans (h4 c (by omega) i)
      refine z_if_eq h dX6_readItem_45 (by omega) (fun b45 => ?_) (fun b45 => ?_)
      · refine z_iconst h dX6_readItem_52 ?_
        refine z_irZ h hr dX6_readItem_53 (by first | decide | omega | simp_all) ?_
        refine ⟨h18, h19, ?_⟩
        rcases h17 with ⟨P', b1, rfl, b3⟩ | ⟨b1, rfl, b3⟩
        · first | (exfalso; omega) | exact Or.inl ⟨P', k', by rw [h8, b1]; rfl, rfl, b3, by rw [h16 1 (by omega)]; exact a6, a7⟩
        · first | (exfalso; omega) | exact Or.inr ⟨by rw [h8, b1]; rfl, rfl, b3⟩
      · refine z_iconst h dX6_readItem_48 ?_
        refine z_goto h dX6_readItem_49 ?_
        refine z_irZ h hr dX6_readItem_53 (by first | decide | omega | simp_all) ?_
        refine ⟨h18, h19, ?_⟩
        rcases h17 with ⟨P', b1, rfl, b3⟩ | ⟨b1, rfl, b3⟩
        · first | (exfalso; omega) | exact Or.inl ⟨P', k', by rw [h8, b1]; rfl, rfl, b3, by rw [h16 1 (by omega)]; exact a6, a7⟩
        · first | (exfalso; omega) | exact Or.inr ⟨by rw [h8, b1]; rfl, rfl, b3⟩
end
section
theorem c_X6_append (σ : zM) (tx : List Int) (x : Int) (hx : cText σ tx) (hl : tx.length < 300) (hb : 0 ≤ x ∧ x ≤ 255) : zCv mX6_append (fun w => [zr w 1, zi (zsb x)]) σ (fun σ' => cText σ' (tx ++ [x]) ∧ zfr 1 2 σ σ') := by
  refine zCv_mk (own := RX6) rfl (by decide +kernel) (fun w => [some (zr w 1), some (zi (zsb x))]) (fun _ => rfl) (fun _ => Nat.le_of_ble_eq_true rfl) ?_
  intro Γ h hr
  have h1 := hx.1
  have h2 : -128 ≤ zsb x ∧ zsb x < 128 := by unfold zsb; split <;> omega
  refine z_raload_n h dX6_append_0 rfl ?_
  refine y_get 2 h dX6_append_1 fX6_19 L1 rfl rfl ?_
  refine z_raload_n h dX6_append_4 rfl ?_
  refine z_getr h dX6_append_5 fX6_9 L1 rfl ?_
  refine y_alen 300 h dX6_append_8 L2 (by decide) rfl ?_
  refine z_icmp_ge h dX6_append_9 (by omega) (by omega) (fun b9 => by exfalso; omega) (fun b9 => ?_)
  refine z_raload_n h dX6_append_12 rfl ?_
  refine z_getr h dX6_append_13 fX6_9 L1 rfl ?_
  refine z_raload_n h dX6_append_16 rfl ?_
  refine y_get 2 h dX6_append_17 fX6_19 L1 rfl rfl ?_
  refine z_iload_n h dX6_append_20 rfl ?_
  refine z_bast h dX6_append_21 L2 (by decide) (by omega) (by omega) ?_
  refine z_raload_n h dX6_append_22 rfl ?_
  refine z_dup h dX6_append_23 rfl ?_
  refine y_get 2 h dX6_append_24 fX6_19 L1 rfl rfl ?_
  try simp (disch := omega) only [zup_eq, zup_ne, zup_nei]
  refine z_iconst h dX6_append_27 ?_
  refine z_iadd h dX6_append_28 ?_
  refine y_put 2 h dX6_append_29 fX6_19 pX6_2 L1 rfl rfl ?_
  refine z_irV h hr dX6_append_32 ?_
  refine ⟨⟨by rw [zup_eq, h1]; simp, by simp; omega, fun k y hk => ?_, fun k a b => ?_⟩, zfr_up (zfr_up zfr_rf (by omega) (by omega)) (by omega) (by omega)⟩
  · rw [zup_ne (by omega)]
    by_cases e : k < tx.length
    · rw [List.getElem?_append_left e] at hk
      rw [zup_nei (by omega)]
      exact hx.2.2.1 k y hk
    · have e2 := (List.getElem?_eq_some_iff.mp hk).1
      simp at e2
      have e3 : k = tx.length := by omega
      subst e3
      simp at hk
      subst hk
      rw [zup_eqi h1.symm]
      exact ⟨hb.1, hb.2, rfl⟩
  · rw [zup_ne (by omega), zup_ne (by omega)]
    exact hx.2.2.2 k a b
theorem c_X6_readInto (σ : zM) (tx : List Int) (π : Nat) (hp : zPl π) (l0 : List (Int × Int)) (hl0 : cCry σ (π + 5) l0) (hx : cText σ tx) : zCi mX6_readInto (fun w => [zr w 1, zr w π]) σ (fun r σ' => cText σ' tx ∧ (∀ c, (c < 1 ∨ 3 < c) → (c < π ∨ π + 8 < c) → ∀ i, σ' c i = σ c i) ∧ r = (pAll tx 300 0 zP0).1 ∧ (r = -4 → cPlan σ' π (pAll tx 300 0 zP0).2) ∧ ∃ l, cCry σ' (π + 5) l) := by
  refine zCi_mk (own := RX6) rfl (by decide +kernel) (fun w => [some (zr w 1), some (zr w π), none, none]) (fun _ => rfl) (fun _ => Nat.le_of_ble_eq_true rfl) ?_
  intro Γ h hr
  have hpi : 39 ≤ π := by unfold zPl at hp; omega
  have L : ∀ (f : Nat) (σ1 : zM) (k : Nat) (P1 : zP), f ≤ 300 → k ≤ 301 → cPlan σ1 π P1 → cText σ1 tx → (∀ c, (c < 1 ∨ 3 < c) → (c < π ∨ π + 8 < c) → ∀ i, σ1 c i = σ c i) → pAll tx 300 0 zP0 = pAll tx f k P1 → zV Γ σ1 8 [some (zr (zw Γ) 1), some (zr (zw Γ) π), some (zi k), some (zi (300 - f))] [] := by
    intro f
    induction f with
    | zero =>
      intro σ1 k P1 hf hk h1 h2 h3 h4
      refine z_iload_n h dX6_readInto_8 rfl ?_
      refine z_sipush h dX6_readInto_9 (by decide) ?_
      refine z_icmp_ge h dX6_readInto_12 (by omega) (by omega) (fun b12 => ?_) (fun b12 => by exfalso; omega)
      refine z_bipush h dX6_readInto_49 (by decide) ?_
      refine z_irI h hr dX6_readInto_51 ?_
      rw [h4]
      exact ⟨h2, h3, rfl, fun _ => h1, _, h1.2.2.2.1⟩
    | succ f ih =>
      intro σ1 k P1 hf hk h1 h2 h3 h4
      have g1 := h2.1
      have g2 := h2.2.1
      rw [show pAll tx (f + 1) k P1 = (if k < tx.length then (match pItem tx k P1 with
        | none => ((k : Int), P1)
        | some (P', k') => pAll tx f k' P') else (-4, P1)) from rfl] at h4
      refine z_iload_n h dX6_readInto_8 rfl ?_
      refine z_sipush h dX6_readInto_9 (by decide) ?_
      refine z_icmp_ge h dX6_readInto_12 (by omega) (by omega) (fun b12 => by exfalso; omega) (fun b12 => ?_)
      refine z_iload_n h dX6_readInto_15 rfl ?_
      refine z_raload_n h dX6_readInto_16 rfl ?_
      refine y_get 2 h dX6_readInto_17 fX6_19 L1 rfl rfl ?_
      refine z_icmp_ge h dX6_readInto_20 (by omega) (by omega) (fun b20 => ?_) (fun b20 => ?_)
      · refine z_bipush h dX6_readInto_49 (by decide) ?_
        refine z_irI h hr dX6_readInto_51 ?_
        rw [if_neg (by omega)] at h4
        rw [h4]
        exact ⟨h2, h3, rfl, fun _ => h1, _, h1.2.2.2.1⟩
      · refine z_raload_n h dX6_readInto_23 rfl ?_
        refine z_iload_n h dX6_readInto_24 rfl ?_
        refine y_put 3 h dX6_readInto_25 fX6_23 pX6_3 L1 rfl rfl ?_
        refine z_raload_n h dX6_readInto_28 rfl ?_
        refine z_raload_n h dX6_readInto_29 rfl ?_
        refine z_cVi1 h dX6_readInto_30 lX6_31 vX6_readItem rfl L1 (c_X6_readItem (zup σ1 1 3 k) tx k π hp P1 (cPlan_fr h1 (fun c a b i => zup_ne (by omega))) (cText_fr h2 (zup_nei (by omega)) (fun i => zup_ne (by omega)) (fun i a b => by rw [zup_ne (by omega)]; exact h2.2.2.2 i a b)) (zup_eq _ _ _ _) (by omega)) rfl (Nat.le_of_ble_eq_true rfl) (by decide) (fun v σ2 h5 => ?_)
        obtain ⟨h6, h7, h8⟩ := h5
        have h9 : ∀ c, (c < 1 ∨ 3 < c) → (c < π ∨ π + 8 < c) → ∀ i, σ2 c i = σ c i := fun c a b i => ((h7 c a b i).trans (zup_ne (by omega))).trans (h3 c a b i)
        have hv : v = 0 ∨ v = 1 := by rcases h8 with ⟨P', k', a1, rfl, a3⟩ | ⟨a1, rfl, a3⟩ <;> simp
        rw [if_pos (by omega)] at h4
        refine z_if_ne h dX6_readInto_33 (by omega) (fun b33 => ?_) (fun b33 => ?_)
        · rcases h8 with ⟨P', k', a1, -, a3, a4, a5⟩ | ⟨a1, rfl, a3⟩
          rotate_left
          · exfalso; omega
          rw [a1] at h4
          refine z_raload_n h dX6_readInto_38 rfl ?_
          refine y_get 3 h dX6_readInto_39 fX6_23 L1 rfl rfl ?_
          rw [a4]
          refine z_ist1_n h dX6_readInto_42 (by decide) (zst1_2 rfl) ?_
          refine z_iinc h dX6_readInto_43 (by decide) rfl (zst1_3 rfl) ?_
          refine z_goto h dX6_readInto_46 ?_
          rw [show (300 : Int) - ((f + 1 : Nat) : Int) + 1 = 300 - f by omega]
          exact ih σ2 k' P' (by omega) a5 a3 h6 h9 h4
        · refine z_iload_n h dX6_readInto_36 rfl ?_
          refine z_irI h hr dX6_readInto_37 ?_
          rcases h8 with ⟨P', k', a1, rfl, a3, a4, a5⟩ | ⟨a1, rfl, a3⟩
          · exfalso; omega
          · rw [a1] at h4
            rw [h4]
            exact ⟨h6, h9, rfl, fun z => by omega, a3⟩
  refine z_raload_n h dX6_readInto_0 rfl ?_
  refine z_cVv0 h dX6_readInto_1 lX6_26 vX4_clear rfl (zPl_o hp) (c_X4_clear σ π hp l0 hl0) rfl (Nat.le_of_ble_eq_true rfl) (by decide) (fun σ1 h1 => ?_)
  refine z_iconst h dX6_readInto_4 ?_
  refine z_ist1_n h dX6_readInto_5 (by decide) (zst1_2 rfl) ?_
  refine z_iconst h dX6_readInto_6 ?_
  refine z_ist1_n h dX6_readInto_7 (by decide) (zst1_3 rfl) ?_
  exact L 300 σ1 0 zP0 (Nat.le_refl _) (by omega) h1.1 (cText_fr hx (h1.2 1 (by omega) 2) (fun i => h1.2 2 (by omega) i) (fun i a b => by rw [h1.2 3 (by omega)]; exact hx.2.2.2 i a b)) (fun c a b i => h1.2 c b i) rfl
end
section
/-! ===== names ===== -/
def cNames (σ : zM) (sv sd : List Int) : Prop := σ 27 2 = sv.length ∧ sv.length ≤ 9 ∧ σ 27 3 = sd.length ∧ sd.length ≤ 9 ∧ (∀ (k : Nat) (x : Int), sv[k]? = some x → σ 28 k = x ∧ 0 ≤ x ∧ x ≤ 10) ∧ (∀ (k : Nat) (x : Int), sd[k]? = some x → σ 29 k = x ∧ 0 ≤ x ∧ x ≤ 9)
theorem cNames_fr {σ σ' : zM} {sv sd : List Int} (h : cNames σ sv sd) (h1 : σ' 27 2 = σ 27 2) (h2 : σ' 27 3 = σ 27 3) (h3 : ∀ i, σ' 28 i = σ 28 i) (h4 : ∀ i, σ' 29 i = σ 29 i) : cNames σ' sv sd := by
  unfold cNames
  rw [h1, h2]
  refine ⟨h.1, h.2.1, h.2.2.1, h.2.2.2.1, fun k x hk => ?_, fun k x hk => ?_⟩
  · rw [h3]; exact h.2.2.2.2.1 k x hk
  · rw [h4]; exact h.2.2.2.2.2 k x hk
theorem zbit {s : Nat} {t : Nat} (hs : s < 512) (ht : t < 10) : zand (zshr s t) 1 = if s.testBit t then 1 else 0 := by
  have : ∀ t : Fin 10, ∀ s : Fin 512, zand (zshr ((s.val : Nat) : Int) ((t.val : Nat) : Int)) 1 = if s.val.testBit t.val then 1 else 0 := by decide +kernel
  exact this ⟨t, ht⟩ ⟨s, hs⟩
theorem c_X2_manyIn (σ : zM) (w : Int) (hw : w = 0 ∨ w = 1) : zCi mX2_manyIn (fun u => [zr u 27, zi w]) σ (fun r σ' => r = (if w = 0 then σ 27 2 else σ 27 3) ∧ σ' = σ) := by
  refine zCi_mk (own := RX2) rfl (by decide +kernel) (fun w0 => [some (zr w0 27), some (zi w)]) (fun _ => rfl) (fun _ => Nat.le_of_ble_eq_true rfl) ?_
  intro Γ h hr
  refine z_iload_n h dX2_manyIn_0 rfl ?_
  refine z_if_ne h dX2_manyIn_1 (by omega) (fun b1 => ?_) (fun b1 => ?_)
  · refine z_raload_n h dX2_manyIn_11 rfl ?_
    refine y_get 3 h dX2_manyIn_12 fX2_22 L27 rfl rfl ?_
    refine z_irI h hr dX2_manyIn_15 ?_
    refine ⟨?_, rfl⟩
    split <;> omega
  · refine z_raload_n h dX2_manyIn_4 rfl ?_
    refine y_get 2 h dX2_manyIn_5 fX2_18 L27 rfl rfl ?_
    refine z_goto h dX2_manyIn_8 ?_
    refine z_irI h hr dX2_manyIn_15 ?_
    refine ⟨?_, rfl⟩
    split <;> omega
def nL (w : Int) (sv sd : List Int) : List Int := if w = 0 then sv else sd
theorem c_X2_isIn (σ : zM) (sv sd : List Int) (w v : Int) (hw : w = 0 ∨ w = 1) (hv : 0 ≤ v ∧ v ≤ 10) (hn : cNames σ sv sd) : zCi mX2_isIn (fun u => [zr u 27, zi w, zi v]) σ (fun r σ' => r = (if v ∈ nL w sv sd then 1 else 0) ∧ σ' = σ) := by
  refine zCi_mk (own := RX2) rfl (by decide +kernel) (fun w0 => [some (zr w0 27), some (zi w), some (zi v), none]) (fun _ => rfl) (fun _ => Nat.le_of_ble_eq_true rfl) ?_
  intro Γ h hr
  have g1 := hn.1
  have g2 := hn.2.1
  have g3 := hn.2.2.1
  have g4 := hn.2.2.2.1
  have gl : ((nL w sv sd).length : Int) = (if w = 0 then σ 27 2 else σ 27 3) ∧ (nL w sv sd).length ≤ 9 := by
    unfold nL; split <;> omega
  have L : ∀ (r k : Nat), k + r = (nL w sv sd).length → (∀ j : Nat, j < k → (nL w sv sd)[j]? ≠ some v) → zV Γ σ 2 [some (zr (zw Γ) 27), some (zi w), some (zi v), some (zi k)] [] := by
    intro r
    induction r with
    | zero =>
      intro k h1 h2
      refine z_iload_n h dX2_isIn_2 rfl ?_
      refine z_raload_n h dX2_isIn_3 rfl ?_
      refine z_iload_n h dX2_isIn_4 rfl ?_
      refine z_cVi1 h dX2_isIn_5 lX2_25 vX2_manyIn rfl L27 (c_X2_manyIn σ w hw) rfl (Nat.le_of_ble_eq_true rfl) (by decide) (fun m σ1 h3 => ?_)
      obtain ⟨rfl, rfl⟩ := h3
      rw [← gl.1]
      refine z_icmp_ge h dX2_isIn_8 (by omega) (by omega) (fun b8 => ?_) (fun b8 => by exfalso; omega)
      refine z_iconst h dX2_isIn_42 ?_
      refine z_irZ h hr dX2_isIn_43 (by first | decide | omega | simp_all) ?_
      refine ⟨?_, rfl⟩
      rw [if_neg]
      intro z
      obtain ⟨j, hj⟩ := List.getElem?_of_mem z
      have := (List.getElem?_eq_some_iff.mp hj).1
      exact h2 j (by omega) hj
    | succ r ih =>
      intro k h1 h2
      have hlt : k < (nL w sv sd).length := by omega
      have hx := List.getElem?_eq_getElem hlt
      have hval : ((w = 0 → σ 28 k = (nL w sv sd)[k]) ∧ (w ≠ 0 → σ 29 k = (nL w sv sd)[k])) ∧ 0 ≤ (nL w sv sd)[k] ∧ (nL w sv sd)[k] ≤ 10 := by
        generalize (nL w sv sd)[k] = x at hx
        unfold nL at hx
        by_cases e : w = 0
        · rw [if_pos e] at hx
          have := hn.2.2.2.2.1 k x hx
          exact ⟨⟨fun _ => this.1, fun z => absurd e z⟩, this.2⟩
        · rw [if_neg e] at hx
          have := hn.2.2.2.2.2 k x hx
          exact ⟨⟨fun z => absurd z e, fun _ => this.1⟩, by omega⟩
      refine z_iload_n h dX2_isIn_2 rfl ?_
      refine z_raload_n h dX2_isIn_3 rfl ?_
      refine z_iload_n h dX2_isIn_4 rfl ?_
      refine z_cVi1 h dX2_isIn_5 lX2_25 vX2_manyIn rfl L27 (c_X2_manyIn σ w hw) rfl (Nat.le_of_ble_eq_true rfl) (by decide) (fun m σ1 h3 => ?_)
      obtain ⟨rfl, rfl⟩ := h3
      rw [← gl.1]
      refine z_icmp_ge h dX2_isIn_8 (by omega) (by omega) (fun b8 => by exfalso; omega) (fun b8 => ?_)
      refine z_iload_n h dX2_isIn_11 rfl ?_
      refine z_if_ne h dX2_isIn_12 (by omega) (fun b12 => ?_) (fun b12 => ?_)
      · refine z_raload_n h dX2_isIn_24 rfl ?_
        refine z_getr h dX2_isIn_25 fX2_15 L27 rfl ?_
        refine z_iload_n h dX2_isIn_28 rfl ?_
        refine z_iald h dX2_isIn_29 L29 (by decide) (by omega) ?_
        refine z_iload_n h dX2_isIn_30 rfl ?_
        refine z_icmp_ne h dX2_isIn_31 (by omega) (by omega) (fun b31 => ?_) (fun b31 => ?_)
        · refine z_iinc h dX2_isIn_36 (by decide) rfl (zst1_3 rfl) ?_
          refine z_goto h dX2_isIn_39 ?_
          refine ih (k + 1) (by omega) (fun j hj z => ?_)
          by_cases e : j = k
          · subst e; rw [hx] at z; have z := Option.some.inj z; omega
          · exact h2 j (by omega) z
        · refine z_iconst h dX2_isIn_34 ?_
          refine z_irZ h hr dX2_isIn_35 (by first | decide | omega | simp_all) ?_
          refine ⟨?_, rfl⟩
          rw [if_pos]
          have e : (nL w sv sd)[k] = v := by omega
          rw [← e]
          exact List.getElem_mem hlt
      · refine z_raload_n h dX2_isIn_15 rfl ?_
        refine z_getr h dX2_isIn_16 fX2_9 L27 rfl ?_
        refine z_iload_n h dX2_isIn_19 rfl ?_
        refine z_iald h dX2_isIn_20 L28 (by decide) (by omega) ?_
        refine z_goto h dX2_isIn_21 ?_
        refine z_iload_n h dX2_isIn_30 rfl ?_
        refine z_icmp_ne h dX2_isIn_31 (by omega) (by omega) (fun b31 => ?_) (fun b31 => ?_)
        · refine z_iinc h dX2_isIn_36 (by decide) rfl (zst1_3 rfl) ?_
          refine z_goto h dX2_isIn_39 ?_
          refine ih (k + 1) (by omega) (fun j hj z => ?_)
          by_cases e : j = k
          · subst e; rw [hx] at z; have z := Option.some.inj z; omega
          · exact h2 j (by omega) z
        · refine z_iconst h dX2_isIn_34 ?_
          refine z_irZ h hr dX2_isIn_35 (by first | decide | omega | simp_all) ?_
          refine ⟨?_, rfl⟩
          rw [if_pos]
          have e : (nL w sv sd)[k] = v := by omega
          rw [← e]
          exact List.getElem_mem hlt
  refine z_iconst h dX2_isIn_0 ?_
  refine z_ist1_n h dX2_isIn_1 (by decide) (zst1_3 rfl) ?_
  exact L (nL w sv sd).length 0 (by omega) (fun j hj => by omega)
theorem c_X2_add (σ : zM) (sv sd : List Int) (w v : Int) (hw : w = 0 ∨ w = 1) (hv : 0 ≤ v ∧ v ≤ 10 ∧ (w = 1 → v ≤ 9)) (hn : cNames σ sv sd) (hl : (nL w sv sd).length < 9) : zCv mX2_add (fun u => [zr u 27, zi w, zi v]) σ (fun σ' => cNames σ' (if w = 0 then sv ++ [v] else sv) (if w = 0 then sd else sd ++ [v]) ∧ zfr 27 29 σ σ') := by
  refine zCv_mk (own := RX2) rfl (by decide +kernel) (fun w0 => [some (zr w0 27), some (zi w), some (zi v)]) (fun _ => rfl) (fun _ => Nat.le_of_ble_eq_true rfl) ?_
  intro Γ h hr
  have g1 := hn.1
  have g2 := hn.2.1
  have g3 := hn.2.2.1
  have g4 := hn.2.2.2.1
  have key : ∀ (l : List Int) (c : Nat) (hi : Int) (σ1 : zM) (i : Int), i = l.length → 0 ≤ v ∧ v ≤ hi → (∀ (k : Nat) (x : Int), l[k]? = some x → σ1 c k = x ∧ 0 ≤ x ∧ x ≤ hi) → ∀ (k : Nat) (x : Int), (l ++ [v])[k]? = some x → zup σ1 c i v c k = x ∧ 0 ≤ x ∧ x ≤ hi := by
    intro l c hi σ1 i e h1 h2 k x hk
    subst e
    by_cases e : k < l.length
    · rw [List.getElem?_append_left e] at hk
      rw [zup_nei (by omega)]
      exact h2 k x hk
    · have e2 := (List.getElem?_eq_some_iff.mp hk).1
      simp at e2
      have e3 : k = l.length := by omega
      subst e3
      simp at hk
      subst hk
      rw [zup_eq]
      exact ⟨rfl, h1⟩
  rcases hw with rfl | rfl
  · have hl' : sv.length < 9 := hl
    refine z_iload_n h dX2_add_0 rfl ?_
    refine z_if_ne h dX2_add_1 (by omega) (fun b1 => by exfalso; omega) (fun b1 => ?_)
    refine z_raload_n h dX2_add_4 rfl ?_
    refine y_get 2 h dX2_add_5 fX2_18 L27 rfl rfl ?_
    refine z_bipush h dX2_add_8 (by decide) ?_
    refine z_icmp_ge h dX2_add_10 (by omega) (by omega) (fun b10 => by exfalso; omega) (fun b10 => ?_)
    refine z_raload_n h dX2_add_13 rfl ?_
    refine z_getr h dX2_add_14 fX2_9 L27 rfl ?_
    refine z_raload_n h dX2_add_17 rfl ?_
    refine y_get 2 h dX2_add_18 fX2_18 L27 rfl rfl ?_
    refine z_iload_n h dX2_add_21 rfl ?_
    refine z_iast h dX2_add_22 L28 (by decide) (by omega) ?_
    refine z_raload_n h dX2_add_23 rfl ?_
    refine z_dup h dX2_add_24 rfl ?_
    refine y_get 2 h dX2_add_25 fX2_18 L27 rfl rfl ?_
    try simp (disch := omega) only [zup_eq, zup_ne, zup_nei]
    refine z_iconst h dX2_add_28 ?_
    refine z_iadd h dX2_add_29 ?_
    refine y_put 2 h dX2_add_30 fX2_18 pX2_2 L27 rfl rfl ?_
    refine z_iload_n h dX2_add_33 rfl ?_
    refine z_iconst h dX2_add_34 ?_
    refine z_icmp_ne h dX2_add_35 (by omega) (by omega) (fun b35 => ?_) (fun b35 => by exfalso; omega)
    refine z_irV h hr dX2_add_67 ?_
    rw [if_pos rfl, if_pos rfl]
    refine ⟨⟨by rw [zup_eq, g1]; simp, by simp; omega, ?_, g4, ?_, ?_⟩, zfr_up (zfr_up zfr_rf (by omega) (by omega)) (by omega) (by omega)⟩
    · simp (disch := omega) only [zup_nei, zup_ne]; exact g3
    · intro k x hk
      rw [zup_ne (by omega)]
      exact key sv 28 10 σ _ g1 ⟨hv.1, hv.2.1⟩ hn.2.2.2.2.1 k x hk
    · intro k x hk
      simp (disch := omega) only [zup_ne]
      exact hn.2.2.2.2.2 k x hk
  · have hl' : sd.length < 9 := hl
    refine z_iload_n h dX2_add_0 rfl ?_
    refine z_if_ne h dX2_add_1 (by omega) (fun b1 => ?_) (fun b1 => by exfalso; omega)
    refine z_iload_n h dX2_add_33 rfl ?_
    refine z_iconst h dX2_add_34 ?_
    refine z_icmp_ne h dX2_add_35 (by omega) (by omega) (fun b35 => by exfalso; omega) (fun b35 => ?_)
    refine z_raload_n h dX2_add_38 rfl ?_
    refine y_get 3 h dX2_add_39 fX2_22 L27 rfl rfl ?_
    refine z_bipush h dX2_add_42 (by decide) ?_
    refine z_icmp_ge h dX2_add_44 (by omega) (by omega) (fun b44 => by exfalso; omega) (fun b44 => ?_)
    refine z_raload_n h dX2_add_47 rfl ?_
    refine z_getr h dX2_add_48 fX2_15 L27 rfl ?_
    refine z_raload_n h dX2_add_51 rfl ?_
    refine y_get 3 h dX2_add_52 fX2_22 L27 rfl rfl ?_
    refine z_iload_n h dX2_add_55 rfl ?_
    refine z_iast h dX2_add_56 L29 (by decide) (by omega) ?_
    refine z_raload_n h dX2_add_57 rfl ?_
    refine z_dup h dX2_add_58 rfl ?_
    refine y_get 3 h dX2_add_59 fX2_22 L27 rfl rfl ?_
    try simp (disch := omega) only [zup_eq, zup_ne, zup_nei]
    refine z_iconst h dX2_add_62 ?_
    refine z_iadd h dX2_add_63 ?_
    refine y_put 3 h dX2_add_64 fX2_22 pX2_3 L27 rfl rfl ?_
    refine z_irV h hr dX2_add_67 ?_
    rw [if_neg (by decide), if_neg (by decide)]
    refine ⟨⟨?_, g2, by rw [zup_eq, g3]; simp, by simp; omega, ?_, ?_⟩, zfr_up (zfr_up zfr_rf (by omega) (by omega)) (by omega) (by omega)⟩
    · simp (disch := omega) only [zup_nei, zup_ne]; exact g1
    · intro k x hk
      simp (disch := omega) only [zup_ne]
      exact hn.2.2.2.2.1 k x hk
    · intro k x hk
      rw [zup_ne (by omega)]
      exact key sd 29 9 σ _ g3 ⟨hv.1, hv.2.2 rfl⟩ hn.2.2.2.2.2 k x hk
theorem c_X2_forget (σ : zM) : zCv mX2_forget (fun u => [zr u 27]) σ (fun σ' => cNames σ' [] [] ∧ zfr 27 29 σ σ') := by
  refine zCv_mk (own := RX2) rfl (by decide +kernel) (fun w => [some (zr w 27)]) (fun _ => rfl) (fun _ => Nat.le_of_ble_eq_true rfl) ?_
  intro Γ h hr
  refine z_raload_n h dX2_forget_0 rfl ?_
  refine z_iconst h dX2_forget_1 ?_
  refine y_put 2 h dX2_forget_2 fX2_18 pX2_2 L27 rfl rfl ?_
  refine z_raload_n h dX2_forget_5 rfl ?_
  refine z_iconst h dX2_forget_6 ?_
  refine y_put 3 h dX2_forget_7 fX2_22 pX2_3 L27 rfl rfl ?_
  refine z_irV h hr dX2_forget_10 ?_
  refine ⟨⟨by simp (disch := omega) only [zup_nei, zup_eq]; rfl, by simp, by rw [zup_eq]; rfl, by simp, by simp, by simp⟩, zfr_up (zfr_up zfr_rf (by omega) (by omega)) (by omega) (by omega)⟩
/-- is it as SEEN, if the row turned in the minutes of the set -/
def nF (sv sd : List Int) (set : Nat) : Nat → Int → Int → Bool → Nat → Bool
  | 0, _, _, _, _ => true
  | r + 1, lo, hi, tn, t =>
    let tn' := if set.testBit t then !tn else tn
    let who := if tn' then sd.getD hi.toNat 0 else sd.getD lo.toNat 0
    if sv.getD t 0 = 10 ∨ sv.getD t 0 = who then nF sv sd set r (if tn' then lo else lo + 1) (if tn' then hi - 1 else hi) tn' (t + 1) else false
def nFit (sv sd : List Int) (set : Nat) : Bool := nF sv sd set sv.length 0 (sd.length - 1) false 0
def zb (b : Bool) : Int := if b then 1 else 0
theorem nF_s (sv sd : List Int) (set r : Nat) (lo hi : Int) (tn tn' : Bool) (t : Nat) (who : Int) (h1 : tn' = if set.testBit t then !tn else tn) (h2 : who = if tn' then sd.getD hi.toNat 0 else sd.getD lo.toNat 0) : nF sv sd set (r + 1) lo hi tn t = if sv.getD t 0 = 10 ∨ sv.getD t 0 = who then nF sv sd set r (if tn' then lo else lo + 1) (if tn' then hi - 1 else hi) tn' (t + 1) else false := by
  subst h1; subst h2; rfl
theorem c_X2_isFitting (σ : zM) (sv sd : List Int) (s : Nat) (hs : s < 512) (hn : cNames σ sv sd) (hle : sv.length ≤ sd.length) : zCi mX2_isFitting (fun u => [zr u 27, zi s]) σ (fun r σ' => r = zb (nFit sv sd s) ∧ σ' = σ) := by
  refine zCi_mk (own := RX2) rfl (by decide +kernel) (fun w => [some (zr w 27), some (zi s), none, none, none, none, none]) (fun _ => rfl) (fun _ => Nat.le_of_ble_eq_true rfl) ?_
  intro Γ h hr
  have g1 := hn.1
  have g2 := hn.2.1
  have g3 := hn.2.2.1
  have g4 := hn.2.2.2.1
  have L : ∀ (r t : Nat) (lo hi tv : Int) (tn : Bool) (f6 : Option Value), t + r = sv.length → hi - lo + 1 + t = sd.length → 0 ≤ lo → hi < sd.length → tv = zb tn → nFit sv sd s = nF sv sd s r lo hi tn t → zV Γ σ 15 [some (zr (zw Γ) 27), some (zi s), some (zi lo), some (zi hi), some (zi tv), some (zi t), f6] [] := by
    intro r
    induction r with
    | zero =>
      intro t lo hi tv tn f6 h1 h2 h3 h4 h5 h6
      refine z_iload h dX2_isFitting_15 rfl ?_
      refine z_raload_n h dX2_isFitting_17 rfl ?_
      refine y_get 2 h dX2_isFitting_18 fX2_18 L27 rfl rfl ?_
      refine z_icmp_ge h dX2_isFitting_21 (by omega) (by omega) (fun b21 => ?_) (fun b21 => by exfalso; omega)
      refine z_iconst h dX2_isFitting_119 ?_
      refine z_irZ h hr dX2_isFitting_120 (by first | decide | omega | simp_all) ?_
      rw [h6]
      exact ⟨rfl, rfl⟩
    | succ r ih =>
      intro t lo hi tv tn f6 h1 h2 h3 h4 h5 h6
      have hlt : t < sv.length := by omega
      have hx := hn.2.2.2.2.1 t _ (List.getElem?_eq_getElem hlt)
      have hlo : lo.toNat < sd.length := by omega
      have hhi : hi.toNat < sd.length := by omega
      have hy := hn.2.2.2.2.2 lo.toNat _ (List.getElem?_eq_getElem hlo)
      have hz := hn.2.2.2.2.2 hi.toNat _ (List.getElem?_eq_getElem hhi)
      rw [Int.toNat_of_nonneg (by omega)] at hy hz
      have ex : sv.getD t 0 = sv[t] := by rw [List.getD_eq_getElem?_getD, List.getElem?_eq_getElem hlt]; rfl
      have ey : sd.getD lo.toNat 0 = sd[lo.toNat] := by rw [List.getD_eq_getElem?_getD, List.getElem?_eq_getElem hlo]; rfl
      have ez : sd.getD hi.toNat 0 = sd[hi.toNat] := by rw [List.getD_eq_getElem?_getD, List.getElem?_eq_getElem hhi]; rfl
      have hbit := zbit hs (show t < 10 by omega)
      by_cases cfalsefalse : tn = false ∧ s.testBit t = false
      · obtain ⟨rfl, hb⟩ := cfalsefalse
        have hbv : zand (zshr s t) 1 = 0 := by rw [hbit, hb]; rfl
        have htv : tv = 0 := h5
        rw [nF_s sv sd s r lo hi false false t (sd[lo.toNat]) (by rw [hb]; rfl) (by exact ey.symm), ex] at h6
        refine z_iload h dX2_isFitting_15 rfl ?_
        refine z_raload_n h dX2_isFitting_17 rfl ?_
        refine y_get 2 h dX2_isFitting_18 fX2_18 L27 rfl rfl ?_
        refine z_icmp_ge h dX2_isFitting_21 (by omega) (by omega) (fun b21 => by exfalso; omega) (fun b21 => ?_)
        refine z_iload_n h dX2_isFitting_24 rfl ?_
        refine z_iload_n h dX2_isFitting_25 rfl ?_
        refine z_icmp_gt h dX2_isFitting_26 (by omega) (by omega) (fun b26 => by exfalso; omega) (fun b26 => ?_)
        refine z_iload_n h dX2_isFitting_29 rfl ?_
        refine z_iload h dX2_isFitting_30 rfl ?_
        refine z_ishr h dX2_isFitting_32 ?_
        refine z_iconst h dX2_isFitting_33 ?_
        refine z_iand h dX2_isFitting_34 ?_
        refine z_iconst h dX2_isFitting_35 ?_
        refine z_icmp_ne h dX2_isFitting_36 (by omega) (by omega) (fun b36 => ?_) (fun b36 => by exfalso; omega)
        refine z_iload h dX2_isFitting_51 rfl ?_
        refine z_if_eq h dX2_isFitting_53 (by omega) (fun b53 => ?_) (fun b53 => by exfalso; omega)
        refine z_raload_n h dX2_isFitting_65 rfl ?_
        refine z_getr h dX2_isFitting_66 fX2_15 L27 rfl ?_
        refine z_iload_n h dX2_isFitting_69 rfl ?_
        refine z_iald h dX2_isFitting_70 L29 (by decide) (by omega) ?_
        refine z_ist1 h dX2_isFitting_71 (by decide) (zst1_6 rfl) ?_
        refine z_raload_n h dX2_isFitting_73 rfl ?_
        refine z_getr h dX2_isFitting_74 fX2_9 L27 rfl ?_
        refine z_iload h dX2_isFitting_77 rfl ?_
        refine z_iald h dX2_isFitting_79 L28 (by decide) (by omega) ?_
        refine z_bipush h dX2_isFitting_80 (by decide) ?_
        refine z_icmp_eq h dX2_isFitting_82 (by omega) (by omega) (fun b82 => ?_) (fun b82 => ?_)
        · refine z_iload h dX2_isFitting_99 rfl ?_
          refine z_if_eq h dX2_isFitting_101 (by omega) (fun b101 => ?_) (fun b101 => by exfalso; omega)
          refine z_iinc h dX2_isFitting_110 (by decide) rfl (zst1_2 rfl) ?_
          refine z_iinc h dX2_isFitting_113 (by decide) rfl (zst1_5 rfl) ?_
          refine z_goto h dX2_isFitting_116 ?_
          rw [if_pos (by omega)] at h6
          exact ih (t + 1) (lo + 1) hi _ false _ (by omega) (by omega) (by omega) (by omega) (by first | rfl | (rw [htv]; rfl)) h6
        · refine z_raload_n h dX2_isFitting_85 rfl ?_
          refine z_getr h dX2_isFitting_86 fX2_9 L27 rfl ?_
          refine z_iload h dX2_isFitting_89 rfl ?_
          refine z_iald h dX2_isFitting_91 L28 (by decide) (by omega) ?_
          refine z_iload h dX2_isFitting_92 rfl ?_
          refine z_icmp_eq h dX2_isFitting_94 (by omega) (by omega) (fun b94 => ?_) (fun b94 => ?_)
          · refine z_iload h dX2_isFitting_99 rfl ?_
            refine z_if_eq h dX2_isFitting_101 (by omega) (fun b101 => ?_) (fun b101 => by exfalso; omega)
            refine z_iinc h dX2_isFitting_110 (by decide) rfl (zst1_2 rfl) ?_
            refine z_iinc h dX2_isFitting_113 (by decide) rfl (zst1_5 rfl) ?_
            refine z_goto h dX2_isFitting_116 ?_
            rw [if_pos (by omega)] at h6
            exact ih (t + 1) (lo + 1) hi _ false _ (by omega) (by omega) (by omega) (by omega) (by first | rfl | (rw [htv]; rfl)) h6
          · refine z_iconst h dX2_isFitting_97 ?_
            refine z_irZ h hr dX2_isFitting_98 (by first | decide | omega | simp_all) ?_
            rw [if_neg (by omega)] at h6
            rw [h6]
            exact ⟨rfl, rfl⟩
      by_cases cfalsetrue : tn = false ∧ s.testBit t = true
      · obtain ⟨rfl, hb⟩ := cfalsetrue
        have hbv : zand (zshr s t) 1 = 1 := by rw [hbit, hb]; rfl
        have htv : tv = 0 := h5
        rw [nF_s sv sd s r lo hi false true t (sd[hi.toNat]) (by rw [hb]; rfl) (by exact ez.symm), ex] at h6
        refine z_iload h dX2_isFitting_15 rfl ?_
        refine z_raload_n h dX2_isFitting_17 rfl ?_
        refine y_get 2 h dX2_isFitting_18 fX2_18 L27 rfl rfl ?_
        refine z_icmp_ge h dX2_isFitting_21 (by omega) (by omega) (fun b21 => by exfalso; omega) (fun b21 => ?_)
        refine z_iload_n h dX2_isFitting_24 rfl ?_
        refine z_iload_n h dX2_isFitting_25 rfl ?_
        refine z_icmp_gt h dX2_isFitting_26 (by omega) (by omega) (fun b26 => by exfalso; omega) (fun b26 => ?_)
        refine z_iload_n h dX2_isFitting_29 rfl ?_
        refine z_iload h dX2_isFitting_30 rfl ?_
        refine z_ishr h dX2_isFitting_32 ?_
        refine z_iconst h dX2_isFitting_33 ?_
        refine z_iand h dX2_isFitting_34 ?_
        refine z_iconst h dX2_isFitting_35 ?_
        refine z_icmp_ne h dX2_isFitting_36 (by omega) (by omega) (fun b36 => by exfalso; omega) (fun b36 => ?_)
        refine z_iload h dX2_isFitting_39 rfl ?_
        refine z_if_ne h dX2_isFitting_41 (by omega) (fun b41 => by exfalso; omega) (fun b41 => ?_)
        refine z_iconst h dX2_isFitting_44 ?_
        refine z_goto h dX2_isFitting_45 ?_
        refine z_ist1 h dX2_isFitting_49 (by decide) (zst1_4 rfl) ?_
        refine z_iload h dX2_isFitting_51 rfl ?_
        refine z_if_eq h dX2_isFitting_53 (by omega) (fun b53 => by exfalso; omega) (fun b53 => ?_)
        refine z_raload_n h dX2_isFitting_56 rfl ?_
        refine z_getr h dX2_isFitting_57 fX2_15 L27 rfl ?_
        refine z_iload_n h dX2_isFitting_60 rfl ?_
        refine z_iald h dX2_isFitting_61 L29 (by decide) (by omega) ?_
        refine z_goto h dX2_isFitting_62 ?_
        refine z_ist1 h dX2_isFitting_71 (by decide) (zst1_6 rfl) ?_
        refine z_raload_n h dX2_isFitting_73 rfl ?_
        refine z_getr h dX2_isFitting_74 fX2_9 L27 rfl ?_
        refine z_iload h dX2_isFitting_77 rfl ?_
        refine z_iald h dX2_isFitting_79 L28 (by decide) (by omega) ?_
        refine z_bipush h dX2_isFitting_80 (by decide) ?_
        refine z_icmp_eq h dX2_isFitting_82 (by omega) (by omega) (fun b82 => ?_) (fun b82 => ?_)
        · refine z_iload h dX2_isFitting_99 rfl ?_
          refine z_if_eq h dX2_isFitting_101 (by omega) (fun b101 => by exfalso; omega) (fun b101 => ?_)
          refine z_iinc h dX2_isFitting_104 (by decide) rfl (zst1_3 rfl) ?_
          refine z_goto h dX2_isFitting_107 ?_
          refine z_iinc h dX2_isFitting_113 (by decide) rfl (zst1_5 rfl) ?_
          refine z_goto h dX2_isFitting_116 ?_
          rw [if_pos (by omega)] at h6
          exact ih (t + 1) lo (hi - 1) _ true _ (by omega) (by omega) (by omega) (by omega) (by first | rfl | (rw [htv]; rfl)) h6
        · refine z_raload_n h dX2_isFitting_85 rfl ?_
          refine z_getr h dX2_isFitting_86 fX2_9 L27 rfl ?_
          refine z_iload h dX2_isFitting_89 rfl ?_
          refine z_iald h dX2_isFitting_91 L28 (by decide) (by omega) ?_
          refine z_iload h dX2_isFitting_92 rfl ?_
          refine z_icmp_eq h dX2_isFitting_94 (by omega) (by omega) (fun b94 => ?_) (fun b94 => ?_)
          · refine z_iload h dX2_isFitting_99 rfl ?_
            refine z_if_eq h dX2_isFitting_101 (by omega) (fun b101 => by exfalso; omega) (fun b101 => ?_)
            refine z_iinc h dX2_isFitting_104 (by decide) rfl (zst1_3 rfl) ?_
            refine z_goto h dX2_isFitting_107 ?_
            refine z_iinc h dX2_isFitting_113 (by decide) rfl (zst1_5 rfl) ?_
            refine z_goto h dX2_isFitting_116 ?_
            rw [if_pos (by omega)] at h6
            exact ih (t + 1) lo (hi - 1) _ true _ (by omega) (by omega) (by omega) (by omega) (by first | rfl | (rw [htv]; rfl)) h6
          · refine z_iconst h dX2_isFitting_97 ?_
            refine z_irZ h hr dX2_isFitting_98 (by first | decide | omega | simp_all) ?_
            rw [if_neg (by omega)] at h6
            rw [h6]
            exact ⟨rfl, rfl⟩
      by_cases ctruefalse : tn = true ∧ s.testBit t = false
      · obtain ⟨rfl, hb⟩ := ctruefalse
        have hbv : zand (zshr s t) 1 = 0 := by rw [hbit, hb]; rfl
        have htv : tv = 1 := h5
        rw [nF_s sv sd s r lo hi true true t (sd[hi.toNat]) (by rw [hb]; rfl) (by exact ez.symm), ex] at h6
        refine z_iload h dX2_isFitting_15 rfl ?_
        refine z_raload_n h dX2_isFitting_17 rfl ?_
        refine y_get 2 h dX2_isFitting_18 fX2_18 L27 rfl rfl ?_
        refine z_icmp_ge h dX2_isFitting_21 (by omega) (by omega) (fun b21 => by exfalso; omega) (fun b21 => ?_)
        refine z_iload_n h dX2_isFitting_24 rfl ?_
        refine z_iload_n h dX2_isFitting_25 rfl ?_
        refine z_icmp_gt h dX2_isFitting_26 (by omega) (by omega) (fun b26 => by exfalso; omega) (fun b26 => ?_)
        refine z_iload_n h dX2_isFitting_29 rfl ?_
        refine z_iload h dX2_isFitting_30 rfl ?_
        refine z_ishr h dX2_isFitting_32 ?_
        refine z_iconst h dX2_isFitting_33 ?_
        refine z_iand h dX2_isFitting_34 ?_
        refine z_iconst h dX2_isFitting_35 ?_
        refine z_icmp_ne h dX2_isFitting_36 (by omega) (by omega) (fun b36 => ?_) (fun b36 => by exfalso; omega)
        refine z_iload h dX2_isFitting_51 rfl ?_
        refine z_if_eq h dX2_isFitting_53 (by omega) (fun b53 => by exfalso; omega) (fun b53 => ?_)
        refine z_raload_n h dX2_isFitting_56 rfl ?_
        refine z_getr h dX2_isFitting_57 fX2_15 L27 rfl ?_
        refine z_iload_n h dX2_isFitting_60 rfl ?_
        refine z_iald h dX2_isFitting_61 L29 (by decide) (by omega) ?_
        refine z_goto h dX2_isFitting_62 ?_
        refine z_ist1 h dX2_isFitting_71 (by decide) (zst1_6 rfl) ?_
        refine z_raload_n h dX2_isFitting_73 rfl ?_
        refine z_getr h dX2_isFitting_74 fX2_9 L27 rfl ?_
        refine z_iload h dX2_isFitting_77 rfl ?_
        refine z_iald h dX2_isFitting_79 L28 (by decide) (by omega) ?_
        refine z_bipush h dX2_isFitting_80 (by decide) ?_
        refine z_icmp_eq h dX2_isFitting_82 (by omega) (by omega) (fun b82 => ?_) (fun b82 => ?_)
        · refine z_iload h dX2_isFitting_99 rfl ?_
          refine z_if_eq h dX2_isFitting_101 (by omega) (fun b101 => by exfalso; omega) (fun b101 => ?_)
          refine z_iinc h dX2_isFitting_104 (by decide) rfl (zst1_3 rfl) ?_
          refine z_goto h dX2_isFitting_107 ?_
          refine z_iinc h dX2_isFitting_113 (by decide) rfl (zst1_5 rfl) ?_
          refine z_goto h dX2_isFitting_116 ?_
          rw [if_pos (by omega)] at h6
          exact ih (t + 1) lo (hi - 1) _ true _ (by omega) (by omega) (by omega) (by omega) (by first | rfl | (rw [htv]; rfl)) h6
        · refine z_raload_n h dX2_isFitting_85 rfl ?_
          refine z_getr h dX2_isFitting_86 fX2_9 L27 rfl ?_
          refine z_iload h dX2_isFitting_89 rfl ?_
          refine z_iald h dX2_isFitting_91 L28 (by decide) (by omega) ?_
          refine z_iload h dX2_isFitting_92 rfl ?_
          refine z_icmp_eq h dX2_isFitting_94 (by omega) (by omega) (fun b94 => ?_) (fun b94 => ?_)
          · refine z_iload h dX2_isFitting_99 rfl ?_
            refine z_if_eq h dX2_isFitting_101 (by omega) (fun b101 => by exfalso; omega) (fun b101 => ?_)
            refine z_iinc h dX2_isFitting_104 (by decide) rfl (zst1_3 rfl) ?_
            refine z_goto h dX2_isFitting_107 ?_
            refine z_iinc h dX2_isFitting_113 (by decide) rfl (zst1_5 rfl) ?_
            refine z_goto h dX2_isFitting_116 ?_
            rw [if_pos (by omega)] at h6
            exact ih (t + 1) lo (hi - 1) _ true _ (by omega) (by omega) (by omega) (by omega) (by first | rfl | (rw [htv]; rfl)) h6
          · refine z_iconst h dX2_isFitting_97 ?_
            refine z_irZ h hr dX2_isFitting_98 (by first | decide | omega | simp_all) ?_
            rw [if_neg (by omega)] at h6
            rw [h6]
            exact ⟨rfl, rfl⟩
      by_cases ctruetrue : tn = true ∧ s.testBit t = true
      · obtain ⟨rfl, hb⟩ := ctruetrue
        have hbv : zand (zshr s t) 1 = 1 := by rw [hbit, hb]; rfl
        have htv : tv = 1 := h5
        rw [nF_s sv sd s r lo hi true false t (sd[lo.toNat]) (by rw [hb]; rfl) (by exact ey.symm), ex] at h6
        refine z_iload h dX2_isFitting_15 rfl ?_
        refine z_raload_n h dX2_isFitting_17 rfl ?_
        refine y_get 2 h dX2_isFitting_18 fX2_18 L27 rfl rfl ?_
        refine z_icmp_ge h dX2_isFitting_21 (by omega) (by omega) (fun b21 => by exfalso; omega) (fun b21 => ?_)
        refine z_iload_n h dX2_isFitting_24 rfl ?_
        refine z_iload_n h dX2_isFitting_25 rfl ?_
        refine z_icmp_gt h dX2_isFitting_26 (by omega) (by omega) (fun b26 => by exfalso; omega) (fun b26 => ?_)
        refine z_iload_n h dX2_isFitting_29 rfl ?_
        refine z_iload h dX2_isFitting_30 rfl ?_
        refine z_ishr h dX2_isFitting_32 ?_
        refine z_iconst h dX2_isFitting_33 ?_
        refine z_iand h dX2_isFitting_34 ?_
        refine z_iconst h dX2_isFitting_35 ?_
        refine z_icmp_ne h dX2_isFitting_36 (by omega) (by omega) (fun b36 => by exfalso; omega) (fun b36 => ?_)
        refine z_iload h dX2_isFitting_39 rfl ?_
        refine z_if_ne h dX2_isFitting_41 (by omega) (fun b41 => ?_) (fun b41 => by exfalso; omega)
        refine z_iconst h dX2_isFitting_48 ?_
        refine z_ist1 h dX2_isFitting_49 (by decide) (zst1_4 rfl) ?_
        refine z_iload h dX2_isFitting_51 rfl ?_
        refine z_if_eq h dX2_isFitting_53 (by omega) (fun b53 => ?_) (fun b53 => by exfalso; omega)
        refine z_raload_n h dX2_isFitting_65 rfl ?_
        refine z_getr h dX2_isFitting_66 fX2_15 L27 rfl ?_
        refine z_iload_n h dX2_isFitting_69 rfl ?_
        refine z_iald h dX2_isFitting_70 L29 (by decide) (by omega) ?_
        refine z_ist1 h dX2_isFitting_71 (by decide) (zst1_6 rfl) ?_
        refine z_raload_n h dX2_isFitting_73 rfl ?_
        refine z_getr h dX2_isFitting_74 fX2_9 L27 rfl ?_
        refine z_iload h dX2_isFitting_77 rfl ?_
        refine z_iald h dX2_isFitting_79 L28 (by decide) (by omega) ?_
        refine z_bipush h dX2_isFitting_80 (by decide) ?_
        refine z_icmp_eq h dX2_isFitting_82 (by omega) (by omega) (fun b82 => ?_) (fun b82 => ?_)
        · refine z_iload h dX2_isFitting_99 rfl ?_
          refine z_if_eq h dX2_isFitting_101 (by omega) (fun b101 => ?_) (fun b101 => by exfalso; omega)
          refine z_iinc h dX2_isFitting_110 (by decide) rfl (zst1_2 rfl) ?_
          refine z_iinc h dX2_isFitting_113 (by decide) rfl (zst1_5 rfl) ?_
          refine z_goto h dX2_isFitting_116 ?_
          rw [if_pos (by omega)] at h6
          exact ih (t + 1) (lo + 1) hi _ false _ (by omega) (by omega) (by omega) (by omega) (by first | rfl | (rw [htv]; rfl)) h6
        · refine z_raload_n h dX2_isFitting_85 rfl ?_
          refine z_getr h dX2_isFitting_86 fX2_9 L27 rfl ?_
          refine z_iload h dX2_isFitting_89 rfl ?_
          refine z_iald h dX2_isFitting_91 L28 (by decide) (by omega) ?_
          refine z_iload h dX2_isFitting_92 rfl ?_
          refine z_icmp_eq h dX2_isFitting_94 (by omega) (by omega) (fun b94 => ?_) (fun b94 => ?_)
          · refine z_iload h dX2_isFitting_99 rfl ?_
            refine z_if_eq h dX2_isFitting_101 (by omega) (fun b101 => ?_) (fun b101 => by exfalso; omega)
            refine z_iinc h dX2_isFitting_110 (by decide) rfl (zst1_2 rfl) ?_
            refine z_iinc h dX2_isFitting_113 (by decide) rfl (zst1_5 rfl) ?_
            refine z_goto h dX2_isFitting_116 ?_
            rw [if_pos (by omega)] at h6
            exact ih (t + 1) (lo + 1) hi _ false _ (by omega) (by omega) (by omega) (by omega) (by first | rfl | (rw [htv]; rfl)) h6
          · refine z_iconst h dX2_isFitting_97 ?_
            refine z_irZ h hr dX2_isFitting_98 (by first | decide | omega | simp_all) ?_
            rw [if_neg (by omega)] at h6
            rw [h6]
            exact ⟨rfl, rfl⟩
      · exfalso
        cases tn <;> cases hb : s.testBit t <;> simp_all
  refine z_iconst h dX2_isFitting_0 ?_
  refine z_ist1_n h dX2_isFitting_1 (by decide) (zst1_2 rfl) ?_
  refine z_raload_n h dX2_isFitting_2 rfl ?_
  refine y_get 3 h dX2_isFitting_3 fX2_22 L27 rfl rfl ?_
  refine z_iconst h dX2_isFitting_6 ?_
  refine z_isub h dX2_isFitting_7 ?_
  refine z_ist1_n h dX2_isFitting_8 (by decide) (zst1_3 rfl) ?_
  refine z_iconst h dX2_isFitting_9 ?_
  refine z_ist1 h dX2_isFitting_10 (by decide) (zst1_4 rfl) ?_
  refine z_iconst h dX2_isFitting_12 ?_
  refine z_ist1 h dX2_isFitting_13 (by decide) (zst1_5 rfl) ?_
  exact L sv.length 0 0 _ 0 false none (by omega) (by omega) (by omega) (by omega) rfl (by rw [g3]; rfl)
/-- how many there are, and the lowest -/
def nCnt (f : Nat → Bool) : Nat → Int × Int
  | 0 => (0, -4)
  | s + 1 => if f s then ((nCnt f s).1 + 1, if (nCnt f s).1 = 0 then (s : Int) else (nCnt f s).2) else nCnt f s
theorem nCnt_rg (f : Nat → Bool) : ∀ s, 0 ≤ (nCnt f s).1 ∧ (nCnt f s).1 ≤ s
  | 0 => by simp [nCnt]
  | s + 1 => by
    have := nCnt_rg f s
    unfold nCnt
    split <;> simp <;> omega
theorem c_X2_findTurns (σ : zM) (sv sd : List Int) (hn : cNames σ sv sd) (hle : sv.length ≤ sd.length) : zCv mX2_findTurns (fun u => [zr u 27]) σ (fun σ' => cNames σ' sv sd ∧ zfr 27 27 σ σ' ∧ σ' 27 4 = (nCnt (nFit sv sd) (2 ^ sd.length)).1 ∧ σ' 27 5 = (nCnt (nFit sv sd) (2 ^ sd.length)).2) := by
  refine zCv_mk (own := RX2) rfl (by decide +kernel) (fun w => [some (zr w 27), none, none]) (fun _ => rfl) (fun _ => Nat.le_of_ble_eq_true rfl) ?_
  intro Γ h hr
  have g1 := hn.1
  have g2 := hn.2.1
  have g3 := hn.2.2.1
  have g4 := hn.2.2.2.1
  have g5 : 2 ^ sd.length ≤ 2 ^ 9 := Nat.pow_le_pow_right (by decide) g4
  have L : ∀ (r s : Nat) (σ1 : zM), s + r = 2 ^ sd.length → cNames σ1 sv sd → zfr 27 27 σ σ1 → σ1 27 4 = (nCnt (nFit sv sd) s).1 → σ1 27 5 = (nCnt (nFit sv sd) s).2 → zV Γ σ1 20 [some (zr (zw Γ) 27), some (zi (2 ^ sd.length : Nat)), some (zi s)] [] := by
    intro r
    induction r with
    | zero =>
      intro s σ1 h1 h2 h3 h4 h5
      refine z_iload_n h dX2_findTurns_20 rfl ?_
      refine z_iload_n h dX2_findTurns_21 rfl ?_
      refine z_icmp_ge h dX2_findTurns_22 (by omega) (by omega) (fun b22 => ?_) (fun b22 => by exfalso; omega)
      refine z_irV h hr dX2_findTurns_61 ?_
      rw [show 2 ^ sd.length = s by omega]
      exact ⟨h2, h3, h4, h5⟩
    | succ r ih =>
      intro s σ1 h1 h2 h3 h4 h5
      have g6 := nCnt_rg (nFit sv sd) s
      have hc : nCnt (nFit sv sd) (s + 1) = if nFit sv sd s then ((nCnt (nFit sv sd) s).1 + 1, if (nCnt (nFit sv sd) s).1 = 0 then (s : Int) else (nCnt (nFit sv sd) s).2) else nCnt (nFit sv sd) s := rfl
      cases hb : nFit sv sd s
      · rw [hb] at hc
        have hc : nCnt (nFit sv sd) (s + 1) = nCnt (nFit sv sd) s := hc
        refine z_iload_n h dX2_findTurns_20 rfl ?_
        refine z_iload_n h dX2_findTurns_21 rfl ?_
        refine z_icmp_ge h dX2_findTurns_22 (by omega) (by omega) (fun b22 => by exfalso; omega) (fun b22 => ?_)
        refine z_raload_n h dX2_findTurns_25 rfl ?_
        refine z_iload_n h dX2_findTurns_26 rfl ?_
        refine z_cVi1 h dX2_findTurns_27 lX2_35 vX2_isFitting rfl L27 (c_X2_isFitting σ1 sv sd s (by omega) h2 hle) rfl (Nat.le_of_ble_eq_true rfl) (by decide) (fun v σ2 h7 => ?_)
        obtain ⟨rfl, rfl⟩ := h7
        rw [hb]
        refine z_if_eq h dX2_findTurns_30 (by decide) (fun b30 => ?_) (fun b30 => by exfalso; exact b30 rfl)
        refine z_iinc h dX2_findTurns_55 (by decide) rfl (zst1_2 rfl) ?_
        refine z_goto h dX2_findTurns_58 ?_
        exact ih (s + 1) σ2 (by omega) h2 h3 (by rw [hc]; exact h4) (by rw [hc]; exact h5)
      · rw [hb] at hc
        have hc : nCnt (nFit sv sd) (s + 1) = ((nCnt (nFit sv sd) s).1 + 1, if (nCnt (nFit sv sd) s).1 = 0 then (s : Int) else (nCnt (nFit sv sd) s).2) := hc
        refine z_iload_n h dX2_findTurns_20 rfl ?_
        refine z_iload_n h dX2_findTurns_21 rfl ?_
        refine z_icmp_ge h dX2_findTurns_22 (by omega) (by omega) (fun b22 => by exfalso; omega) (fun b22 => ?_)
        refine z_raload_n h dX2_findTurns_25 rfl ?_
        refine z_iload_n h dX2_findTurns_26 rfl ?_
        refine z_cVi1 h dX2_findTurns_27 lX2_35 vX2_isFitting rfl L27 (c_X2_isFitting σ1 sv sd s (by omega) h2 hle) rfl (Nat.le_of_ble_eq_true rfl) (by decide) (fun v σ2 h7 => ?_)
        obtain ⟨rfl, rfl⟩ := h7
        rw [hb]
        refine z_if_eq h dX2_findTurns_30 (by decide) (fun b30 => by exfalso; exact absurd b30 (by decide)) (fun b30 => ?_)
        refine z_raload_n h dX2_findTurns_33 rfl ?_
        refine y_get 4 h dX2_findTurns_34 fX2_29 L27 rfl rfl ?_
        refine z_if_ne h dX2_findTurns_37 (by omega) (fun b37 => ?_) (fun b37 => ?_)
        · refine z_raload_n h dX2_findTurns_45 rfl ?_
          refine z_dup h dX2_findTurns_46 rfl ?_
          refine y_get 4 h dX2_findTurns_47 fX2_29 L27 rfl rfl ?_
          refine z_iconst h dX2_findTurns_50 ?_
          refine z_iadd h dX2_findTurns_51 ?_
          refine y_put 4 h dX2_findTurns_52 fX2_29 pX2_4 L27 rfl rfl ?_
          refine z_iinc h dX2_findTurns_55 (by decide) rfl (zst1_2 rfl) ?_
          refine z_goto h dX2_findTurns_58 ?_
          refine ih (s + 1) _ (by omega) (cNames_fr h2 ?_ ?_ ?_ ?_) ?_ ?_ ?_
          · simp (disch := omega) only [zup_nei]
          · simp (disch := omega) only [zup_nei]
          · intro i; simp (disch := omega) only [zup_ne]
          · intro i; simp (disch := omega) only [zup_ne]
          · intro c hcc i
            simp (disch := omega) only [zup_ne]
            exact h3 c hcc i
          · simp (disch := omega) only [zup_eq, zup_nei]
            rw [hc, h4]
          · rw [hc]
            simp (disch := omega) only [zup_eq, zup_nei]
            first | (rw [if_pos (by omega)]; done) | (rw [if_neg (by omega)]; exact h5)
        · refine z_raload_n h dX2_findTurns_40 rfl ?_
          refine z_iload_n h dX2_findTurns_41 rfl ?_
          refine y_put 5 h dX2_findTurns_42 fX2_32 pX2_5 L27 rfl rfl ?_
          refine z_raload_n h dX2_findTurns_45 rfl ?_
          refine z_dup h dX2_findTurns_46 rfl ?_
          refine y_get 4 h dX2_findTurns_47 fX2_29 L27 rfl rfl ?_
          try simp (disch := omega) only [zup_eq, zup_ne, zup_nei]
          refine z_iconst h dX2_findTurns_50 ?_
          refine z_iadd h dX2_findTurns_51 ?_
          refine y_put 4 h dX2_findTurns_52 fX2_29 pX2_4 L27 rfl rfl ?_
          refine z_iinc h dX2_findTurns_55 (by decide) rfl (zst1_2 rfl) ?_
          refine z_goto h dX2_findTurns_58 ?_
          refine ih (s + 1) _ (by omega) (cNames_fr h2 ?_ ?_ ?_ ?_) ?_ ?_ ?_
          · simp (disch := omega) only [zup_nei]
          · simp (disch := omega) only [zup_nei]
          · intro i; simp (disch := omega) only [zup_ne]
          · intro i; simp (disch := omega) only [zup_ne]
          · intro c hcc i
            simp (disch := omega) only [zup_ne]
            exact h3 c hcc i
          · simp (disch := omega) only [zup_eq, zup_nei]
            rw [hc, h4]
          · rw [hc]
            simp (disch := omega) only [zup_eq, zup_nei]
            first | (rw [if_pos (by omega)]; done) | (rw [if_neg (by omega)]; exact h5)
  refine z_raload_n h dX2_findTurns_0 rfl ?_
  refine z_iconst h dX2_findTurns_1 ?_
  refine y_put 4 h dX2_findTurns_2 fX2_29 pX2_4 L27 rfl rfl ?_
  refine z_raload_n h dX2_findTurns_5 rfl ?_
  refine z_bipush h dX2_findTurns_6 (by decide) ?_
  refine y_put 5 h dX2_findTurns_8 fX2_32 pX2_5 L27 rfl rfl ?_
  refine z_iconst h dX2_findTurns_11 ?_
  refine z_raload_n h dX2_findTurns_12 rfl ?_
  refine y_get 3 h dX2_findTurns_13 fX2_22 L27 rfl rfl ?_
  try simp (disch := omega) only [zup_eq, zup_ne, zup_nei]
  refine z_ishl h dX2_findTurns_16 ?_
  rw [g3, zshl_1 (by omega), Int.toNat_natCast, show (2 : Int) ^ sd.length = ((2 ^ sd.length : Nat) : Int) by simp]
  refine z_ist1_n h dX2_findTurns_17 (by decide) (zst1_1 rfl) ?_
  refine z_iconst h dX2_findTurns_18 ?_
  refine z_ist1_n h dX2_findTurns_19 (by decide) (zst1_2 rfl) ?_
  refine L (2 ^ sd.length) 0 _ (by omega) (cNames_fr hn ?_ ?_ ?_ ?_) ?_ ?_ ?_
  · simp (disch := omega) only [zup_nei]
  · simp (disch := omega) only [zup_nei]
  · intro i; simp (disch := omega) only [zup_ne]
  · intro i; simp (disch := omega) only [zup_ne]
  · intro c hcc i
    simp (disch := omega) only [zup_ne]
  · simp (disch := omega) only [zup_eq, zup_nei]; rfl
  · simp (disch := omega) only [zup_eq, zup_nei]; rfl
end
section
/-! ===== odds ===== -/
def oT (x : Int) (w : List Int) : List Int := (List.range w.length).map (fun p => (10 - x) * w.getD p 0 + x * w.getD (w.length - 1 - p) 0)
def oS (x : Int) : Nat → List Int → Int → List Int
  | 0, _, _ => []
  | f + 1, w, pt => (oT x w).getD 0 0 * (pt / 10) :: oS x f ((oT x w).drop 1) (pt / 10)
def oW0 (n k : Nat) : List Int := (List.range n).map (fun p => if p = k then 1 else 0)
def oA (n k x : Nat) (t : Nat) : Int := (oS x n (oW0 n k) 1000000000).getD t 0
def zsum (f : Nat → Int) : Nat → Int
  | 0 => 0
  | t + 1 => zsum f t + f t
theorem oT_len (x : Int) (w : List Int) : (oT x w).length = w.length := by simp [oT]
theorem oT_at (x : Int) (w : List Int) (p : Nat) (h : p < w.length) : (oT x w)[p]? = some ((10 - x) * w.getD p 0 + x * w.getD (w.length - 1 - p) 0) := by
  unfold oT
  rw [List.getElem?_map, List.getElem?_range h]
  rfl
theorem zgetD {l : List Int} {k : Nat} {v : Int} (h : l[k]? = some v) : l.getD k 0 = v := by rw [List.getD_eq_getElem?_getD, h]; rfl
theorem zgetS {l : List Int} {k : Nat} (h : k < l.length) : l[k]? = some (l.getD k 0) := by rw [List.getD_eq_getElem?_getD, List.getElem?_eq_getElem h]; rfl
theorem oS_len (x : Int) : ∀ (f : Nat) (w : List Int) (pt : Int), (oS x f w pt).length = f
  | 0, _, _ => rfl
  | f + 1, w, pt => by simp [oS, oS_len x f]
theorem c_X3_findChances (σ : zM) (n k x : Nat) (hn : 1 ≤ n ∧ n ≤ 9) (hk : k < n) (hx : x ≤ 10) : zCv mX3_findChances (fun u => [zr u 23, zi n, zi k, zi x]) σ (fun σ' => zfr 24 26 σ σ' ∧ ∀ t : Nat, t < 9 → σ' 26 t = oA n k x t) := by
  refine zCv_mk (own := RX3) rfl (by decide +kernel) (fun w => [some (zr w 23), some (zi n), some (zi k), some (zi x), none, none, none, none, none]) (fun _ => rfl) (fun _ => Nat.le_of_ble_eq_true rfl) ?_
  intro Γ h hr
  -- the minutes
  have L2 : ∀ (r t : Nat) (σ1 : zM) (w acc : List Int) (pt : Int) (l7 l8 : Option Value), t + r = n → w.length = r → acc.length = t → zc1 l7 = true → 0 ≤ pt ∧ pt ≤ 1000000000 → (∀ (p : Nat) v, w[p]? = some v → σ1 24 p = v) → (∀ (j : Nat) v, acc[j]? = some v → σ1 26 j = v) → (∀ j : Nat, t ≤ j → j < 9 → σ1 26 j = 0) → zfr 24 26 σ σ1 → oS x n (oW0 n k) 1000000000 = acc ++ oS x r w pt → zV Γ σ1 50 [some (zr (zw Γ) 23), some (zi n), some (zi k), some (zi x), some (zl pt), none, some (zi t), l7, l8] [] := by
    intro r
    induction r with
    | zero =>
      intro t σ1 w acc pt l7 l8 h1 h2 h3 hl7 h4 h5 h6 h7 h8 h9
      refine z_iload h dX3_findChances_50 rfl ?_
      refine z_iload_n h dX3_findChances_52 rfl ?_
      refine z_icmp_ge h dX3_findChances_53 (by omega) (by omega) (fun b53 => ?_) (fun b53 => by exfalso; omega)
      refine z_irV h hr dX3_findChances_183 ?_
      refine ⟨h8, fun j hj => ?_⟩
      have e : oS x n (oW0 n k) 1000000000 = acc := by rw [h9]; simp [oS]
      unfold oA
      rw [e]
      by_cases hjt : j < t
      · exact h6 j _ (zgetS (by omega))
      · rw [List.getD_eq_getElem?_getD, List.getElem?_eq_none (by omega)]
        exact h7 j (by omega) hj
    | succ r ih =>
      intro t σ1 w acc pt l7 l8 h1 h2 h3 hl7 h4 h5 h6 h7 h8 h9
      have ert : (n : Int) - t = ((r + 1 : Nat) : Int) := by omega
      -- the shift
      have L4 : ∀ (r2 p : Nat) (σ2 : zM), p + r2 = r + 1 → 1 ≤ p → (∀ (q : Nat) v, (oT x w)[q]? = some v → σ2 25 q = v) → (∀ (q : Nat) v, (oT x w)[q + 1]? = some v → q + 1 < p → σ2 24 q = v) → (∀ (j : Nat) v, (acc ++ [(oT x w).getD 0 0 * (pt / 10)])[j]? = some v → σ2 26 j = v) → (∀ j : Nat, t + 1 ≤ j → j < 9 → σ2 26 j = 0) → zfr 24 26 σ σ2 → zV Γ σ2 148 [some (zr (zw Γ) 23), some (zi n), some (zi k), some (zi x), some (zl (pt / 10)), none, some (zi t), some (zi ((r + 1 : Nat) : Int)), some (zi p)] [] := by
        intro r2
        induction r2 with
        | zero =>
          intro p σ2 g1 g1' g2 g3 g4 g5 g6
          refine z_iload h dX3_findChances_148 rfl ?_
          refine z_iload h dX3_findChances_150 rfl ?_
          refine z_icmp_ge h dX3_findChances_152 (by omega) (by omega) (fun b152 => ?_) (fun b152 => by exfalso; omega)
          refine z_iinc h dX3_findChances_177 (by decide) rfl (zst1_6 rfl) ?_
          refine z_goto h dX3_findChances_180 ?_
          rw [show (t : Int) + 1 = ((t + 1 : Nat) : Int) by omega]
          refine ih (t + 1) σ2 ((oT x w).drop 1) (acc ++ [(oT x w).getD 0 0 * (pt / 10)]) (pt / 10) _ _ (by omega) (by rw [List.length_drop, oT_len]; omega) (by simp; omega) rfl (by omega) (fun q v hq => ?_) g4 g5 g6 (by rw [h9]; simp [oS])
          rw [List.getElem?_drop, Nat.add_comm] at hq
          have := (List.getElem?_eq_some_iff.mp hq).1
          rw [oT_len] at this
          exact g3 q v hq (by omega)
        | succ r2 ih2 =>
          intro p σ2 g1 g1' g2 g3 g4 g5 g6
          refine z_iload h dX3_findChances_148 rfl ?_
          refine z_iload h dX3_findChances_150 rfl ?_
          refine z_icmp_ge h dX3_findChances_152 (by omega) (by omega) (fun b152 => by exfalso; omega) (fun b152 => ?_)
          refine z_raload_n h dX3_findChances_155 rfl ?_
          refine z_getr h dX3_findChances_156 fX3_9 L23 rfl ?_
          refine z_iload h dX3_findChances_159 rfl ?_
          refine z_iconst h dX3_findChances_161 ?_
          refine z_isub h dX3_findChances_162 ?_
          refine z_raload_n h dX3_findChances_163 rfl ?_
          refine z_getr h dX3_findChances_164 fX3_15 L23 rfl ?_
          refine z_iload h dX3_findChances_167 rfl ?_
          refine z_lald h dX3_findChances_169 L25 (by decide) (by omega) ?_
          refine z_last h dX3_findChances_170 L24 (by decide) (by omega) ?_
          refine z_iinc h dX3_findChances_171 (by decide) rfl (zst1_8 rfl) ?_
          refine z_goto h dX3_findChances_174 ?_
          rw [show (p : Int) + 1 = ((p + 1 : Nat) : Int) by omega]
          refine ih2 (p + 1) _ (by omega) (by omega) (fun q v hq => by rw [zup_ne (by omega)]; exact g2 q v hq) (fun q v hq hlt => ?_) (fun j v hj => by rw [zup_ne (by omega)]; exact g4 j v hj) (fun j a b => by rw [zup_ne (by omega)]; exact g5 j a b) (zfr_up g6 (by omega) (by omega))
          by_cases e : q + 1 = p
          · rw [zup_eqi (by omega), ← e]
            rw [show (((q + 1 : Nat) : Nat) : Int) = ((q + 1 : Nat) : Int) from rfl]
            exact g2 (q + 1) v hq
          · rw [zup_nei (by omega)]
            exact g3 q v hq (by omega)
      have L3 : ∀ (r2 p : Nat) (σ2 : zM), p + r2 = r + 1 → (∀ (p : Nat) v, w[p]? = some v → σ2 24 p = v) → (∀ (q : Nat) v, (oT x w)[q]? = some v → q < p → σ2 25 q = v) → (∀ i, σ2 26 i = σ1 26 i) → zfr 24 26 σ σ2 → zV Γ σ2 72 [some (zr (zw Γ) 23), some (zi n), some (zi k), some (zi x), some (zl pt), none, some (zi t), some (zi ((r + 1 : Nat) : Int)), some (zi p)] [] := by
        intro r2
        induction r2 with
        | zero =>
          intro p σ2 g1 g2 g3 g4 g5
          have e0 : σ2 25 0 = (oT x w).getD 0 0 := g3 0 _ (zgetS (by rw [oT_len]; omega)) (by omega)
          refine z_iload h dX3_findChances_72 rfl ?_
          refine z_iload h dX3_findChances_74 rfl ?_
          refine z_icmp_ge h dX3_findChances_76 (by omega) (by omega) (fun b76 => ?_) (fun b76 => by exfalso; omega)
          refine z_lload h dX3_findChances_121 rfl ?_
          refine z_ldc2 (x := 10) h dX3_findChances_123 kX3_23 (by decide) ?_
          refine z_ldiv h dX3_findChances_126 (by omega) (by omega) ?_
          refine z_lst h dX3_findChances_127 (by decide) (zst2_4 rfl) ?_
          refine z_raload_n h dX3_findChances_129 rfl ?_
          refine z_getr h dX3_findChances_130 fX3_18 L23 rfl ?_
          refine z_iload h dX3_findChances_133 rfl ?_
          refine z_raload_n h dX3_findChances_135 rfl ?_
          refine z_getr h dX3_findChances_136 fX3_15 L23 rfl ?_
          refine z_iconst h dX3_findChances_139 ?_
          refine z_lald h dX3_findChances_140 L25 (by decide) (by omega) ?_
          rw [e0]
          refine z_lload h dX3_findChances_141 rfl ?_
          refine z_lmul h dX3_findChances_143 ?_
          refine z_last h dX3_findChances_144 L26 (by decide) (by omega) ?_
          refine z_iconst h dX3_findChances_145 ?_
          refine z_ist1 h dX3_findChances_146 (by decide) (zst1_8 rfl) ?_
          refine L4 r 1 _ (by omega) (by omega) (fun q v hq => ?_) (fun q v hq hlt => by omega) (fun j v hj => ?_) (fun j a b => ?_) (zfr_up g5 (by omega) (by omega))
          · rw [zup_ne (by omega)]
            have := (List.getElem?_eq_some_iff.mp hq).1
            rw [oT_len] at this
            exact g3 q v hq (by omega)
          · by_cases e : j < acc.length
            · rw [List.getElem?_append_left e] at hj
              rw [zup_nei (by omega), g4]
              exact h6 j v hj
            · have e2 := (List.getElem?_eq_some_iff.mp hj).1
              simp at e2
              have e3 : j = acc.length := by omega
              subst e3
              simp at hj
              rw [zup_eqi (by omega), ← hj]
              simp [List.getD_eq_getElem?_getD]
          · rw [zup_nei (by omega), g4]
            exact h7 j (by omega) b
        | succ r2 ih2 =>
          intro p σ2 g1 g2 g3 g4 g5
          have e1 : σ2 24 p = w.getD p 0 := g2 p _ (zgetS (by omega))
          have e2 : σ2 24 (((r + 1 : Nat) : Int) - 1 - p) = w.getD (w.length - 1 - p) 0 := by
            rw [show ((r + 1 : Nat) : Int) - 1 - p = ((w.length - 1 - p : Nat) : Int) by omega]
            exact g2 _ _ (zgetS (by omega))
          refine z_iload h dX3_findChances_72 rfl ?_
          refine z_iload h dX3_findChances_74 rfl ?_
          refine z_icmp_ge h dX3_findChances_76 (by omega) (by omega) (fun b76 => by exfalso; omega) (fun b76 => ?_)
          refine z_raload_n h dX3_findChances_79 rfl ?_
          refine z_getr h dX3_findChances_80 fX3_15 L23 rfl ?_
          refine z_iload h dX3_findChances_83 rfl ?_
          refine z_bipush h dX3_findChances_85 (by decide) ?_
          refine z_iload_n h dX3_findChances_87 rfl ?_
          refine z_isub h dX3_findChances_88 ?_
          refine z_i2l h dX3_findChances_89 (by omega) ?_
          refine z_raload_n h dX3_findChances_90 rfl ?_
          refine z_getr h dX3_findChances_91 fX3_9 L23 rfl ?_
          refine z_iload h dX3_findChances_94 rfl ?_
          refine z_lald h dX3_findChances_96 L24 (by decide) (by omega) ?_
          rw [e1]
          refine z_lmul h dX3_findChances_97 ?_
          refine z_iload_n h dX3_findChances_98 rfl ?_
          refine z_i2l h dX3_findChances_99 (by omega) ?_
          refine z_raload_n h dX3_findChances_100 rfl ?_
          refine z_getr h dX3_findChances_101 fX3_9 L23 rfl ?_
          refine z_iload h dX3_findChances_104 rfl ?_
          refine z_iconst h dX3_findChances_106 ?_
          refine z_isub h dX3_findChances_107 ?_
          refine z_iload h dX3_findChances_108 rfl ?_
          refine z_isub h dX3_findChances_110 ?_
          refine z_lald h dX3_findChances_111 L24 (by decide) (by omega) ?_
          rw [e2]
          refine z_lmul h dX3_findChances_112 ?_
          refine z_ladd h dX3_findChances_113 ?_
          refine z_last h dX3_findChances_114 L25 (by decide) (by omega) ?_
          refine z_iinc h dX3_findChances_115 (by decide) rfl (zst1_8 rfl) ?_
          refine z_goto h dX3_findChances_118 ?_
          rw [show (p : Int) + 1 = ((p + 1 : Nat) : Int) by omega]
          refine ih2 (p + 1) _ (by omega) (fun q v hq => by rw [zup_ne (by omega)]; exact g2 q v hq) (fun q v hq hlt => ?_) (fun i => by rw [zup_ne (by omega)]; exact g4 i) (zfr_up g5 (by omega) (by omega))
          by_cases e : q = p
          · subst e
            rw [oT_at x w q (by omega)] at hq
            rw [zup_eq, ← Option.some.inj hq]
          · rw [zup_nei (by omega)]
            exact g3 q v hq (by omega)
      refine z_iload h dX3_findChances_50 rfl ?_
      refine z_iload_n h dX3_findChances_52 rfl ?_
      refine z_icmp_ge h dX3_findChances_53 (by omega) (by omega) (fun b53 => by exfalso; omega) (fun b53 => ?_)
      refine z_iload h dX3_findChances_56 rfl ?_
      refine z_bipush h dX3_findChances_58 (by decide) ?_
      refine z_icmp_ge h dX3_findChances_60 (by omega) (by omega) (fun b60 => by exfalso; omega) (fun b60 => ?_)
      refine z_iload_n h dX3_findChances_63 rfl ?_
      refine z_iload h dX3_findChances_64 rfl ?_
      refine z_isub h dX3_findChances_66 ?_
      rw [ert]
      refine z_ist1 h dX3_findChances_67 (by decide) (zst1_7 rfl) ?_
      refine z_iconst h dX3_findChances_69 ?_
      refine z_ist1 h dX3_findChances_70 (by decide) (zst1_8 rfl) ?_
      exact L3 (r + 1) 0 σ1 (by omega) h5 (fun q v _ h => by omega) (fun _ => rfl) h8
  have L1 : ∀ (r p : Nat) (σ1 : zM), p + r = 9 → (∀ j : Nat, j < p → σ1 24 j = if j = k then 1 else 0) → (∀ j : Nat, j < p → σ1 26 j = 0) → zfr 24 26 σ σ1 → zV Γ σ1 3 [some (zr (zw Γ) 23), some (zi n), some (zi k), some (zi x), some (zi p), none, none, none, none] [] := by
    intro r
    induction r with
    | zero =>
      intro p σ1 h1 h2 h3 h4
      refine z_iload h dX3_findChances_3 rfl ?_
      refine z_bipush h dX3_findChances_5 (by decide) ?_
      refine z_icmp_ge h dX3_findChances_7 (by omega) (by omega) (fun b7 => ?_) (fun b7 => by exfalso; omega)
      refine z_ldc2 (x := 1000000000) h dX3_findChances_42 kX3_21 (by decide) ?_
      refine z_lst h dX3_findChances_45 (by decide) (zst2_4 rfl) ?_
      refine z_iconst h dX3_findChances_47 ?_
      refine z_ist1 h dX3_findChances_48 (by decide) (zst1_6 rfl) ?_
      refine L2 n 0 σ1 (oW0 n k) [] _ _ _ (by omega) (by simp [oW0]) rfl rfl (by omega) (fun q v hq => ?_) (by simp) (fun j a b => h3 j (by omega)) h4 (by simp)
      have hlt := (List.getElem?_eq_some_iff.mp hq).1
      simp [oW0] at hlt
      unfold oW0 at hq
      rw [List.getElem?_map, List.getElem?_range hlt] at hq
      rw [h2 q (by omega)]
      exact Option.some.inj hq
    | succ r ih =>
      intro p σ1 h1 h2 h3 h4
      refine z_iload h dX3_findChances_3 rfl ?_
      refine z_bipush h dX3_findChances_5 (by decide) ?_
      refine z_icmp_ge h dX3_findChances_7 (by omega) (by omega) (fun b7 => by exfalso; omega) (fun b7 => ?_)
      refine z_raload_n h dX3_findChances_10 rfl ?_
      refine z_getr h dX3_findChances_11 fX3_9 L23 rfl ?_
      refine z_iload h dX3_findChances_14 rfl ?_
      refine z_iload h dX3_findChances_16 rfl ?_
      refine z_iload_n h dX3_findChances_18 rfl ?_
      refine z_icmp_ne h dX3_findChances_19 (by omega) (by omega) (fun b19 => ?_) (fun b19 => ?_)
      · refine z_lconst (x := 0) h dX3_findChances_26 (by decide) ?_
        refine z_last h dX3_findChances_27 L24 (by decide) (by omega) ?_
        refine z_raload_n h dX3_findChances_28 rfl ?_
        refine z_getr h dX3_findChances_29 fX3_18 L23 rfl ?_
        refine z_iload h dX3_findChances_32 rfl ?_
        refine z_lconst (x := 0) h dX3_findChances_34 (by decide) ?_
        refine z_last h dX3_findChances_35 L26 (by decide) (by omega) ?_
        refine z_iinc h dX3_findChances_36 (by decide) rfl (zst1_4 rfl) ?_
        refine z_goto h dX3_findChances_39 ?_
        rw [show (p : Int) + 1 = ((p + 1 : Nat) : Int) by omega]
        refine ih (p + 1) _ (by omega) (fun j hj => ?_) (fun j hj => ?_) (zfr_up (zfr_up h4 (by omega) (by omega)) (by omega) (by omega))
        · by_cases e : j = p
          · subst e
            rw [zup_ne (by omega), zup_eq]
            split <;> omega
          · simp (disch := omega) only [zup_ne, zup_nei]
            exact h2 j (by omega)
        · by_cases e : j = p
          · subst e
            rw [zup_eq]
          · simp (disch := omega) only [zup_ne, zup_nei]
            exact h3 j (by omega)
      · refine z_lconst (x := 1) h dX3_findChances_22 (by decide) ?_
        refine z_goto h dX3_findChances_23 ?_
        refine z_last h dX3_findChances_27 L24 (by decide) (by omega) ?_
        refine z_raload_n h dX3_findChances_28 rfl ?_
        refine z_getr h dX3_findChances_29 fX3_18 L23 rfl ?_
        refine z_iload h dX3_findChances_32 rfl ?_
        refine z_lconst (x := 0) h dX3_findChances_34 (by decide) ?_
        refine z_last h dX3_findChances_35 L26 (by decide) (by omega) ?_
        refine z_iinc h dX3_findChances_36 (by decide) rfl (zst1_4 rfl) ?_
        refine z_goto h dX3_findChances_39 ?_
        rw [show (p : Int) + 1 = ((p + 1 : Nat) : Int) by omega]
        refine ih (p + 1) _ (by omega) (fun j hj => ?_) (fun j hj => ?_) (zfr_up (zfr_up h4 (by omega) (by omega)) (by omega) (by omega))
        · by_cases e : j = p
          · subst e
            rw [zup_ne (by omega), zup_eq]
            split <;> omega
          · simp (disch := omega) only [zup_ne, zup_nei]
            exact h2 j (by omega)
        · by_cases e : j = p
          · subst e
            rw [zup_eq]
          · simp (disch := omega) only [zup_ne, zup_nei]
            exact h3 j (by omega)
  refine z_iconst h dX3_findChances_0 ?_
  refine z_ist1 h dX3_findChances_1 (by decide) (zst1_4 rfl) ?_
  exact L1 9 0 σ rfl (fun j hj => by omega) (fun j hj => by omega) zfr_rf
def oM (n k x : Nat) : Int := zsum (fun t => t * oA n k x t) 9
def oC (n k x m : Nat) : Int := zsum (oA n k x) (m + 1)
theorem c_X3_meanAbove (σ : zM) (n k x : Nat) (hn : 1 ≤ n ∧ n ≤ 9) (hk : k < n) (hx : x ≤ 10) : zCl mX3_meanAbove (fun u => [zr u 23, zi n, zi k, zi x]) σ (fun r σ' => zfr 24 26 σ σ' ∧ r = oM n k x) := by
  refine zCl_mk (own := RX3) rfl (by decide +kernel) (fun w => [some (zr w 23), some (zi n), some (zi k), some (zi x), none, none, none]) (fun _ => rfl) (fun _ => Nat.le_of_ble_eq_true rfl) ?_
  intro Γ h hr
  have K : ∀ σ1 : zM, zfr 24 26 σ σ1 → (∀ t : Nat, t < 9 → σ1 26 t = oA n k x t) → ∀ (r t : Nat), t + r = 9 → zV Γ σ1 13 [some (zr (zw Γ) 23), some (zi n), some (zi k), some (zi x), some (zl (zsum (fun t => t * oA n k x t) t)), none, some (zi t)] [] := by
    intro σ1 h1 h2 r
    induction r with
    | zero =>
      intro t ht
      refine z_iload h dX3_meanAbove_13 rfl ?_
      refine z_bipush h dX3_meanAbove_15 (by decide) ?_
      refine z_icmp_ge h dX3_meanAbove_17 (by omega) (by omega) (fun b17 => ?_) (fun b17 => by exfalso; omega)
      refine z_lload h dX3_meanAbove_42 rfl ?_
      refine z_irL h hr dX3_meanAbove_44 ?_
      rw [show t = 9 by omega]
      exact ⟨h1, rfl⟩
    | succ r ih =>
      intro t ht
      refine z_iload h dX3_meanAbove_13 rfl ?_
      refine z_bipush h dX3_meanAbove_15 (by decide) ?_
      refine z_icmp_ge h dX3_meanAbove_17 (by omega) (by omega) (fun b17 => by exfalso; omega) (fun b17 => ?_)
      refine z_lload h dX3_meanAbove_20 rfl ?_
      refine z_iload h dX3_meanAbove_22 rfl ?_
      refine z_i2l h dX3_meanAbove_24 (by omega) ?_
      refine z_raload_n h dX3_meanAbove_25 rfl ?_
      refine z_getr h dX3_meanAbove_26 fX3_18 L23 rfl ?_
      refine z_iload h dX3_meanAbove_29 rfl ?_
      refine z_lald h dX3_meanAbove_31 L26 (by decide) (by omega) ?_
      refine z_lmul h dX3_meanAbove_32 ?_
      refine z_ladd h dX3_meanAbove_33 ?_
      refine z_lst h dX3_meanAbove_34 (by decide) (zst2_4 rfl) ?_
      refine z_iinc h dX3_meanAbove_36 (by decide) rfl (zst1_6 rfl) ?_
      refine z_goto h dX3_meanAbove_39 ?_
      rw [h2 t (by omega)]
      rw [show (t : Int) + 1 = ((t + 1 : Nat) : Int) by omega]
      exact ih (t + 1) (by omega)
  refine z_raload_n h dX3_meanAbove_0 rfl ?_
  refine z_iload_n h dX3_meanAbove_1 rfl ?_
  refine z_iload_n h dX3_meanAbove_2 rfl ?_
  refine z_iload_n h dX3_meanAbove_3 rfl ?_
  refine z_cVv3 h dX3_meanAbove_4 lX3_25 vX3_findChances rfl L23 (c_X3_findChances σ n k x hn hk hx) rfl (Nat.le_of_ble_eq_true rfl) (by decide) (fun σ1 h1 => ?_)
  refine z_lconst (x := 0) h dX3_meanAbove_7 (by decide) ?_
  refine z_lst h dX3_meanAbove_8 (by decide) (zst2_4 rfl) ?_
  refine z_iconst h dX3_meanAbove_10 ?_
  refine z_ist1 h dX3_meanAbove_11 (by decide) (zst1_6 rfl) ?_
  exact K σ1 h1.1 h1.2 9 0 (by omega)
theorem c_X3_chanceAbove (σ : zM) (n k x m : Nat) (hn : 1 ≤ n ∧ n ≤ 9) (hk : k < n) (hx : x ≤ 10) (hm : m ≤ 8) : zCl mX3_chanceAbove (fun u => [zr u 23, zi n, zi k, zi x, zi m]) σ (fun r σ' => zfr 24 26 σ σ' ∧ r = oC n k x m) := by
  refine zCl_mk (own := RX3) rfl (by decide +kernel) (fun w => [some (zr w 23), some (zi n), some (zi k), some (zi x), some (zi m), none, none, none]) (fun _ => rfl) (fun _ => Nat.le_of_ble_eq_true rfl) ?_
  intro Γ h hr
  have K : ∀ σ1 : zM, zfr 24 26 σ σ1 → (∀ t : Nat, t < 9 → σ1 26 t = oA n k x t) → ∀ (r t : Nat), t + r = m + 1 → zV Γ σ1 13 [some (zr (zw Γ) 23), some (zi n), some (zi k), some (zi x), some (zi m), some (zl (zsum (oA n k x) t)), none, some (zi t)] [] := by
    intro σ1 h1 h2 r
    induction r with
    | zero =>
      intro t ht
      refine z_iload h dX3_chanceAbove_13 rfl ?_
      refine z_iload h dX3_chanceAbove_15 rfl ?_
      refine z_icmp_gt h dX3_chanceAbove_17 (by omega) (by omega) (fun b17 => ?_) (fun b17 => by exfalso; omega)
      refine z_lload h dX3_chanceAbove_45 rfl ?_
      refine z_irL h hr dX3_chanceAbove_47 ?_
      rw [show t = m + 1 by omega]
      exact ⟨h1, rfl⟩
    | succ r ih =>
      intro t ht
      refine z_iload h dX3_chanceAbove_13 rfl ?_
      refine z_iload h dX3_chanceAbove_15 rfl ?_
      refine z_icmp_gt h dX3_chanceAbove_17 (by omega) (by omega) (fun b17 => by exfalso; omega) (fun b17 => ?_)
      refine z_iload h dX3_chanceAbove_20 rfl ?_
      refine z_bipush h dX3_chanceAbove_22 (by decide) ?_
      refine z_icmp_ge h dX3_chanceAbove_24 (by omega) (by omega) (fun b24 => by exfalso; omega) (fun b24 => ?_)
      refine z_lload h dX3_chanceAbove_27 rfl ?_
      refine z_raload_n h dX3_chanceAbove_29 rfl ?_
      refine z_getr h dX3_chanceAbove_30 fX3_18 L23 rfl ?_
      refine z_iload h dX3_chanceAbove_33 rfl ?_
      refine z_lald h dX3_chanceAbove_35 L26 (by decide) (by omega) ?_
      refine z_ladd h dX3_chanceAbove_36 ?_
      refine z_lst h dX3_chanceAbove_37 (by decide) (zst2_5 rfl) ?_
      refine z_iinc h dX3_chanceAbove_39 (by decide) rfl (zst1_7 rfl) ?_
      refine z_goto h dX3_chanceAbove_42 ?_
      rw [h2 t (by omega)]
      rw [show (t : Int) + 1 = ((t + 1 : Nat) : Int) by omega]
      exact ih (t + 1) (by omega)
  refine z_raload_n h dX3_chanceAbove_0 rfl ?_
  refine z_iload_n h dX3_chanceAbove_1 rfl ?_
  refine z_iload_n h dX3_chanceAbove_2 rfl ?_
  refine z_iload_n h dX3_chanceAbove_3 rfl ?_
  refine z_cVv3 h dX3_chanceAbove_4 lX3_25 vX3_findChances rfl L23 (c_X3_findChances σ n k x hn hk hx) rfl (Nat.le_of_ble_eq_true rfl) (by decide) (fun σ1 h1 => ?_)
  refine z_lconst (x := 0) h dX3_chanceAbove_7 (by decide) ?_
  refine z_lst h dX3_chanceAbove_8 (by decide) (zst2_5 rfl) ?_
  refine z_iconst h dX3_chanceAbove_10 ?_
  refine z_ist1 h dX3_chanceAbove_11 (by decide) (zst1_7 rfl) ?_
  exact K σ1 h1.1 h1.2 (m + 1) 0 (by omega)
theorem oM_rg : ∀ n : Fin 10, ∀ k : Fin 9, ∀ x : Fin 11, k.val < n.val → 0 ≤ oM n.val k.val x.val ∧ oM n.val k.val x.val ≤ 10000000000 := by decide +kernel
theorem oM_r {n k x : Nat} (hn : n ≤ 9) (hk : k < n) (hx : x ≤ 10) : 0 ≤ oM n k x ∧ oM n k x ≤ 10000000000 := oM_rg ⟨n, by omega⟩ ⟨k, by omega⟩ ⟨x, by omega⟩ hk
/-- the lowest terms -/
def oLow (a b : Int) (part : Int) : Int := if part = 0 then a / (Int.gcd a b : Nat) else b / (Int.gcd a b : Nat)
theorem c_X3_lowest (σ : zM) (a pt : Int) (ha : 0 ≤ a ∧ a ≤ 10000000000) (hpt : pt = 0 ∨ pt = 1) : zCl mX3_lowest (fun u => [zr u 23, zl a, zi pt]) σ (fun r σ' => r = oLow a 1000000000 pt ∧ σ' = σ) := by
  refine zCl_mk (own := RX3) rfl (by decide +kernel) (fun w => [some (zr w 23), some (zl a), none, some (zi pt), none, none, none, none, none, none, none]) (fun _ => rfl) (fun _ => Nat.le_of_ble_eq_true rfl) ?_
  intro Γ h hr
  have E : ∀ (s : Nat) (r : Int) (st : Int) (l9 l10 : Option Value), 0 < s → s ≤ 10000000000 → r = 0 → -2147483648 ≤ st ∧ st ≤ 2147483647 → Int.gcd a 1000000000 = s → zV Γ σ 11 [some (zr (zw Γ) 23), some (zl a), none, some (zi pt), some (zl s), none, some (zl r), none, some (zi st), l9, l10] [] := by
    intro s r st l9 l10 h1 h2 h3 h4 h5
    subst h3
    have hz : zcmp (0 : Int) 0 = 0 := by decide
    have hz2 : zcmp (s : Int) 0 = 1 := by unfold zcmp; rw [if_pos (by omega)]
    refine z_iload h dX3_lowest_11 rfl ?_
    refine z_bipush h dX3_lowest_13 (by decide) ?_
    refine z_icmp_ge h dX3_lowest_15 (by omega) (by omega) (fun b15 => ?_) (fun b15 => ?_)
    · refine z_lload h dX3_lowest_46 rfl ?_
      refine z_lconst (x := 0) h dX3_lowest_48 (by decide) ?_
      refine z_lcmp h dX3_lowest_49 (by omega) (by omega) ?_
      rw [hz2]
      refine z_if_ne h dX3_lowest_50 (by omega) (fun b50 => ?_) (fun b50 => by exfalso; omega)
      refine z_iload_n h dX3_lowest_65 rfl ?_
      refine z_if_ne h dX3_lowest_66 (by omega) (fun b66 => ?_) (fun b66 => ?_)
      · refine z_ldc2 (x := 1000000000) h dX3_lowest_76 kX3_21 (by decide) ?_
        refine z_lload h dX3_lowest_79 rfl ?_
        refine z_ldiv h dX3_lowest_81 (by omega) (by omega) ?_
        refine z_irL h hr dX3_lowest_82 ?_
        unfold oLow
        rw [h5]
        rcases hpt with rfl | rfl
        · first | exact ⟨rfl, rfl⟩ | (exfalso; omega)
        · first | exact ⟨rfl, rfl⟩ | (exfalso; omega)
      · refine z_lload_n h dX3_lowest_69 rfl ?_
        refine z_lload h dX3_lowest_70 rfl ?_
        refine z_ldiv h dX3_lowest_72 (by omega) (by omega) ?_
        refine z_goto h dX3_lowest_73 ?_
        refine z_irL h hr dX3_lowest_82 ?_
        unfold oLow
        rw [h5]
        rcases hpt with rfl | rfl
        · first | exact ⟨rfl, rfl⟩ | (exfalso; omega)
        · first | exact ⟨rfl, rfl⟩ | (exfalso; omega)
    · refine z_lload h dX3_lowest_18 rfl ?_
      refine z_lconst (x := 0) h dX3_lowest_20 (by decide) ?_
      refine z_lcmp h dX3_lowest_21 (by omega) (by omega) ?_
      rw [hz]
      refine z_if_eq h dX3_lowest_22 (by omega) (fun b22 => ?_) (fun b22 => by exfalso; omega)
      refine z_lload h dX3_lowest_46 rfl ?_
      refine z_lconst (x := 0) h dX3_lowest_48 (by decide) ?_
      refine z_lcmp h dX3_lowest_49 (by omega) (by omega) ?_
      rw [hz2]
      refine z_if_ne h dX3_lowest_50 (by omega) (fun b50 => ?_) (fun b50 => by exfalso; omega)
      refine z_iload_n h dX3_lowest_65 rfl ?_
      refine z_if_ne h dX3_lowest_66 (by omega) (fun b66 => ?_) (fun b66 => ?_)
      · refine z_ldc2 (x := 1000000000) h dX3_lowest_76 kX3_21 (by decide) ?_
        refine z_lload h dX3_lowest_79 rfl ?_
        refine z_ldiv h dX3_lowest_81 (by omega) (by omega) ?_
        refine z_irL h hr dX3_lowest_82 ?_
        unfold oLow
        rw [h5]
        rcases hpt with rfl | rfl
        · first | exact ⟨rfl, rfl⟩ | (exfalso; omega)
        · first | exact ⟨rfl, rfl⟩ | (exfalso; omega)
      · refine z_lload_n h dX3_lowest_69 rfl ?_
        refine z_lload h dX3_lowest_70 rfl ?_
        refine z_ldiv h dX3_lowest_72 (by omega) (by omega) ?_
        refine z_goto h dX3_lowest_73 ?_
        refine z_irL h hr dX3_lowest_82 ?_
        unfold oLow
        rw [h5]
        rcases hpt with rfl | rfl
        · first | exact ⟨rfl, rfl⟩ | (exfalso; omega)
        · first | exact ⟨rfl, rfl⟩ | (exfalso; omega)
  have S : ∀ (s r : Nat) (st : Int) (l9 l10 : Option Value), 0 < r → s ≤ 10000000000 → r ≤ 10000000000 → 0 ≤ st ∧ st < 100 → zc1 l9 = true → (∀ l9' l10', zc1 l10' = true → zV Γ σ 11 [some (zr (zw Γ) 23), some (zl a), none, some (zi pt), some (zl r), none, some (zl ((s % r : Nat) : Int)), none, some (zi (st + 1)), l9', l10'] []) → zV Γ σ 11 [some (zr (zw Γ) 23), some (zl a), none, some (zi pt), some (zl s), none, some (zl r), none, some (zi st), l9, l10] [] := by
    intro s r st l9 l10 h1 h2 h3 h4 hl9 kk
    have hz : zcmp (r : Int) 0 = 1 := by unfold zcmp; rw [if_pos (by omega)]
    refine z_iload h dX3_lowest_11 rfl ?_
    refine z_bipush h dX3_lowest_13 (by decide) ?_
    refine z_icmp_ge h dX3_lowest_15 (by omega) (by omega) (fun b15 => by exfalso; omega) (fun b15 => ?_)
    refine z_lload h dX3_lowest_18 rfl ?_
    refine z_lconst (x := 0) h dX3_lowest_20 (by decide) ?_
    refine z_lcmp h dX3_lowest_21 (by omega) (by omega) ?_
    rw [hz]
    refine z_if_eq h dX3_lowest_22 (by omega) (fun b22 => by exfalso; omega) (fun b22 => ?_)
    refine z_lload h dX3_lowest_25 rfl ?_
    refine z_lload h dX3_lowest_27 rfl ?_
    refine z_lrem h dX3_lowest_29 (by omega) (by omega) ?_
    refine z_lst h dX3_lowest_30 (by decide) (zst2_9 rfl) ?_
    refine z_lload h dX3_lowest_32 rfl ?_
    refine z_lst h dX3_lowest_34 (by decide) (zst2_4 rfl) ?_
    refine z_lload h dX3_lowest_36 rfl ?_
    refine z_lst h dX3_lowest_38 (by decide) (zst2_6 rfl) ?_
    refine z_iinc h dX3_lowest_40 (by decide) rfl (zst1_8 rfl) ?_
    refine z_goto h dX3_lowest_43 ?_
    exact kk _ _ rfl
  have L : ∀ (j s r : Nat) (st : Int) (l9 l10 : Option Value), zc1 l9 = true → st + 2 * j ≤ 98 → 0 ≤ st → r < 2 ^ j → s ≤ 10000000000 → r ≤ 10000000000 → 0 < s → Nat.gcd s r = Int.gcd a 1000000000 → zV Γ σ 11 [some (zr (zw Γ) 23), some (zl a), none, some (zi pt), some (zl s), none, some (zl r), none, some (zi st), l9, l10] [] := by
    intro j
    induction j with
    | zero =>
      intro s r st l9 l10 hl9 h1 h2 h3 h4 h5 h6 h7
      have e : r = 0 := by simp at h3; exact h3
      subst e
      rw [Nat.gcd_zero_right] at h7
      exact E s _ st l9 l10 h6 h4 rfl (by omega) h7.symm
    | succ j ih =>
      intro s r st l9 l10 hl9 h1 h2 h3 h4 h5 h6 h7
      by_cases e : r = 0
      · subst e
        rw [Nat.gcd_zero_right] at h7
        exact E s _ st l9 l10 h6 h4 rfl (by omega) h7.symm
      · have hlt : s % r < r := Nat.mod_lt _ (by omega)
        refine S s r st l9 l10 (by omega) h4 h5 (by omega) hl9 (fun l9' l10' hl => ?_)
        have e7 : Nat.gcd r (s % r) = Int.gcd a 1000000000 := by rw [← h7, Nat.gcd_comm s r, Nat.gcd_rec r s, Nat.gcd_comm]
        by_cases e2 : s % r = 0
        · rw [e2, Nat.gcd_zero_right] at e7
          exact E r _ (st + 1) l9' l10' (by omega) h5 (by rw [e2]; rfl) (by omega) e7.symm
        · have hlt2 : r % (s % r) < s % r := Nat.mod_lt _ (by omega)
          refine zV_less (ls' := [some (zr (zw Γ) 23), some (zl a), none, some (zi pt), some (zl r), none, some (zl ((s % r : Nat) : Int)), none, some (zi (st + 1)), none, none]) (zg_d (Or.inl rfl) (zg_d (Or.inl rfl) (zg_d (Or.inl rfl) (zg_d (Or.inl rfl) (zg_d (Or.inl rfl) (zg_d (Or.inl rfl) (zg_d (Or.inl rfl) (zg_d (Or.inl rfl) (zg_d (Or.inl rfl) (zg_d (Or.inr rfl) (zg_d (Or.inr rfl) (fun _ _ h => h)))))))))))) ?_
          refine S r (s % r) (st + 1) none none (by omega) h5 (by omega) (by omega) rfl (fun l9'' l10'' hl' => ?_)
          refine zV_less (ls' := [some (zr (zw Γ) 23), some (zl a), none, some (zi pt), some (zl ((s % r : Nat) : Int)), none, some (zl ((r % (s % r) : Nat) : Int)), none, some (zi (st + 1 + 1)), none, none]) (zg_d (Or.inl rfl) (zg_d (Or.inl rfl) (zg_d (Or.inl rfl) (zg_d (Or.inl rfl) (zg_d (Or.inl rfl) (zg_d (Or.inl rfl) (zg_d (Or.inl rfl) (zg_d (Or.inl rfl) (zg_d (Or.inl rfl) (zg_d (Or.inr rfl) (zg_d (Or.inr rfl) (fun _ _ h => h)))))))))))) ?_
          have h8 : r % (s % r) < 2 ^ j := by
            rw [Nat.pow_succ] at h3
            have h9 := Nat.div_add_mod r (s % r)
            have h10 : 1 ≤ r / (s % r) := Nat.div_pos (by omega) (by omega)
            have h11 : s % r * 1 ≤ s % r * (r / (s % r)) := Nat.mul_le_mul_left _ h10
            omega
          have e8 : Nat.gcd (s % r) (r % (s % r)) = Int.gcd a 1000000000 := by rw [← e7, Nat.gcd_comm r (s % r), Nat.gcd_rec (s % r) r, Nat.gcd_comm]
          exact ih (s % r) (r % (s % r)) _ none none rfl (by omega) (by omega) h8 (by omega) (by omega) (by omega) e8
  obtain ⟨an, rfl⟩ := Int.eq_ofNat_of_zero_le ha.1
  refine z_ldc2 (x := 1000000000) h dX3_lowest_0 kX3_21 (by decide) ?_
  refine z_lst h dX3_lowest_3 (by decide) (zst2_4 rfl) ?_
  refine z_lload_n h dX3_lowest_5 rfl ?_
  refine z_lst h dX3_lowest_6 (by decide) (zst2_6 rfl) ?_
  refine z_iconst h dX3_lowest_8 ?_
  refine z_ist1 h dX3_lowest_9 (by decide) (zst1_8 rfl) ?_
  exact L 34 1000000000 an 0 none none rfl (by omega) (by omega) (by omega) (by omega) (by omega) (by omega) (by rw [Nat.gcd_comm]; rfl)
/-- the place of the least, the lowest: among 0 .. j -/
def oB (n x : Nat) : Nat → Nat
  | 0 => 0
  | j + 1 => if oM n (j + 1) x < oM n (oB n x j) x then j + 1 else oB n x j
theorem oB_le (n x : Nat) : ∀ j, oB n x j ≤ j
  | 0 => Nat.le_refl _
  | j + 1 => by
    have := oB_le n x j
    unfold oB
    split <;> omega
theorem c_X3_bestPlace (σ : zM) (n x : Nat) (hn : 1 ≤ n ∧ n ≤ 9) (hx : x ≤ 10) : zCi mX3_bestPlace (fun u => [zr u 23, zi n, zi x]) σ (fun r σ' => zfr 24 26 σ σ' ∧ r = oB n x (n - 1)) := by
  refine zCi_mk (own := RX3) rfl (by decide +kernel) (fun w => [some (zr w 23), some (zi n), some (zi x), none, none, none, none, none, none]) (fun _ => rfl) (fun _ => Nat.le_of_ble_eq_true rfl) ?_
  intro Γ h hr
  have L : ∀ (r j : Nat) (σ1 : zM) (l7 l8 : Option Value), j + 1 + r = n → zfr 24 26 σ σ1 → zV Γ σ1 14 [some (zr (zw Γ) 23), some (zi n), some (zi x), some (zi (oB n x j)), some (zl (oM n (oB n x j) x)), none, some (zi (j + 1 : Nat)), l7, l8] [] := by
    intro r
    induction r with
    | zero =>
      intro j σ1 l7 l8 h1 h2
      refine z_iload h dX3_bestPlace_14 rfl ?_
      refine z_iload_n h dX3_bestPlace_16 rfl ?_
      refine z_icmp_ge h dX3_bestPlace_17 (by omega) (by omega) (fun b17 => ?_) (fun b17 => by exfalso; omega)
      refine z_iload_n h dX3_bestPlace_51 rfl ?_
      refine z_irI h hr dX3_bestPlace_52 ?_
      rw [show n - 1 = j by omega]
      exact ⟨h2, rfl⟩
    | succ r ih =>
      intro j σ1 l7 l8 h1 h2
      have hb := oB_le n x j
      have r1 := oM_r (n := n) (k := j + 1) (x := x) (by omega) (by omega) hx
      have r2 := oM_r (n := n) (k := oB n x j) (x := x) (by omega) (by omega) hx
      by_cases e : oM n (j + 1) x < oM n (oB n x j) x
      · have ez : zcmp (oM n (j + 1) x) (oM n (oB n x j) x) = -1 := by unfold zcmp; rw [if_neg (by omega), if_neg (by omega)]
        have eb : oB n x (j + 1) = j + 1 := by unfold oB; rw [if_pos e]
        refine z_iload h dX3_bestPlace_14 rfl ?_
        refine z_iload_n h dX3_bestPlace_16 rfl ?_
        refine z_icmp_ge h dX3_bestPlace_17 (by omega) (by omega) (fun b17 => by exfalso; omega) (fun b17 => ?_)
        refine z_raload_n h dX3_bestPlace_20 rfl ?_
        refine z_iload_n h dX3_bestPlace_21 rfl ?_
        refine z_iload h dX3_bestPlace_22 rfl ?_
        refine z_iload_n h dX3_bestPlace_24 rfl ?_
        refine z_cVl3 h dX3_bestPlace_25 lX3_29 vX3_meanAbove rfl L23 (c_X3_meanAbove σ1 n (j + 1) x hn (by omega) hx) rfl (Nat.le_of_ble_eq_true rfl) (by decide) (fun v σ2 h3 => ?_)
        obtain ⟨h3, rfl⟩ := h3
        refine z_lst h dX3_bestPlace_28 (by decide) (zst2_7 rfl) ?_
        refine z_lload h dX3_bestPlace_30 rfl ?_
        refine z_lload h dX3_bestPlace_32 rfl ?_
        refine z_lcmp h dX3_bestPlace_34 (by omega) (by omega) ?_
        rw [ez]
        refine z_if_ge h dX3_bestPlace_35 (by omega) (fun b35 => by exfalso; omega) (fun b35 => ?_)
        refine z_lload h dX3_bestPlace_38 rfl ?_
        refine z_lst h dX3_bestPlace_40 (by decide) (zst2_4 rfl) ?_
        refine z_iload h dX3_bestPlace_42 rfl ?_
        refine z_ist1_n h dX3_bestPlace_44 (by decide) (zst1_3 rfl) ?_
        refine z_iinc h dX3_bestPlace_45 (by decide) rfl (zst1_6 rfl) ?_
        refine z_goto h dX3_bestPlace_48 ?_
        have := ih (j + 1) σ2 (some (zl (oM n (j + 1) x))) none (by omega) (zfr_tr h2 h3)
        rw [eb] at this
        exact this
      · have ez : 0 ≤ zcmp (oM n (j + 1) x) (oM n (oB n x j) x) ∧ zcmp (oM n (j + 1) x) (oM n (oB n x j) x) ≤ 1 := by unfold zcmp; split <;> (try split) <;> omega
        have eb : oB n x (j + 1) = oB n x j := by rw [oB, if_neg e]
        refine z_iload h dX3_bestPlace_14 rfl ?_
        refine z_iload_n h dX3_bestPlace_16 rfl ?_
        refine z_icmp_ge h dX3_bestPlace_17 (by omega) (by omega) (fun b17 => by exfalso; omega) (fun b17 => ?_)
        refine z_raload_n h dX3_bestPlace_20 rfl ?_
        refine z_iload_n h dX3_bestPlace_21 rfl ?_
        refine z_iload h dX3_bestPlace_22 rfl ?_
        refine z_iload_n h dX3_bestPlace_24 rfl ?_
        refine z_cVl3 h dX3_bestPlace_25 lX3_29 vX3_meanAbove rfl L23 (c_X3_meanAbove σ1 n (j + 1) x hn (by omega) hx) rfl (Nat.le_of_ble_eq_true rfl) (by decide) (fun v σ2 h3 => ?_)
        obtain ⟨h3, rfl⟩ := h3
        refine z_lst h dX3_bestPlace_28 (by decide) (zst2_7 rfl) ?_
        refine z_lload h dX3_bestPlace_30 rfl ?_
        refine z_lload h dX3_bestPlace_32 rfl ?_
        refine z_lcmp h dX3_bestPlace_34 (by omega) (by omega) ?_
        refine z_if_ge h dX3_bestPlace_35 (by omega) (fun b35 => ?_) (fun b35 => by exfalso; omega)
        refine z_iinc h dX3_bestPlace_45 (by decide) rfl (zst1_6 rfl) ?_
        refine z_goto h dX3_bestPlace_48 ?_
        have := ih (j + 1) σ2 (some (zl (oM n (j + 1) x))) none (by omega) (zfr_tr h2 h3)
        rw [eb] at this
        exact this
  refine z_iconst h dX3_bestPlace_0 ?_
  refine z_ist1_n h dX3_bestPlace_1 (by decide) (zst1_3 rfl) ?_
  refine z_raload_n h dX3_bestPlace_2 rfl ?_
  refine z_iload_n h dX3_bestPlace_3 rfl ?_
  refine z_iconst h dX3_bestPlace_4 ?_
  refine z_iload_n h dX3_bestPlace_5 rfl ?_
  refine z_cVl3 h dX3_bestPlace_6 lX3_29 vX3_meanAbove rfl L23 (c_X3_meanAbove σ n 0 x hn (by omega) hx) rfl (Nat.le_of_ble_eq_true rfl) (by decide) (fun v σ1 h1 => ?_)
  obtain ⟨h1, rfl⟩ := h1
  refine z_lst h dX3_bestPlace_9 (by decide) (zst2_4 rfl) ?_
  refine z_iconst h dX3_bestPlace_11 ?_
  refine z_ist1 h dX3_bestPlace_12 (by decide) (zst1_6 rfl) ?_
  exact L (n - 1) 0 σ1 none none (by omega) h1
theorem c_X3_bestEnd (σ : zM) (n x : Nat) (hn : 1 ≤ n ∧ n ≤ 9) (hx : x ≤ 10) : zCi mX3_bestEnd (fun u => [zr u 23, zi n, zi x]) σ (fun r σ' => zfr 24 26 σ σ' ∧ r = if oM n (n - 1) x < oM n 0 x then (n : Int) - 1 else 0) := by
  refine zCi_mk (own := RX3) rfl (by decide +kernel) (fun w => [some (zr w 23), some (zi n), some (zi x)]) (fun _ => rfl) (fun _ => Nat.le_of_ble_eq_true rfl) ?_
  intro Γ h hr
  have r1 := oM_r (n := n) (k := n - 1) (x := x) (by omega) (by omega) hx
  have r2 := oM_r (n := n) (k := 0) (x := x) (by omega) (by omega) hx
  have ez : (zcmp (oM n (n - 1) x) (oM n 0 x) < 0 ↔ oM n (n - 1) x < oM n 0 x) ∧ -1 ≤ zcmp (oM n (n - 1) x) (oM n 0 x) ∧ zcmp (oM n (n - 1) x) (oM n 0 x) ≤ 1 := by unfold zcmp; split <;> (try split) <;> omega
  refine z_raload_n h dX3_bestEnd_0 rfl ?_
  refine z_iload_n h dX3_bestEnd_1 rfl ?_
  refine z_iload_n h dX3_bestEnd_2 rfl ?_
  refine z_iconst h dX3_bestEnd_3 ?_
  refine z_isub h dX3_bestEnd_4 ?_
  rw [show (n : Int) - 1 = ((n - 1 : Nat) : Int) by omega]
  refine z_iload_n h dX3_bestEnd_5 rfl ?_
  refine z_cVl3 h dX3_bestEnd_6 lX3_29 vX3_meanAbove rfl L23 (c_X3_meanAbove σ n (n - 1) x hn (by omega) hx) rfl (Nat.le_of_ble_eq_true rfl) (by decide) (fun v σ1 h1 => ?_)
  obtain ⟨h1, rfl⟩ := h1
  refine z_raload_n h dX3_bestEnd_9 rfl ?_
  refine z_iload_n h dX3_bestEnd_10 rfl ?_
  refine z_iconst h dX3_bestEnd_11 ?_
  refine z_iload_n h dX3_bestEnd_12 rfl ?_
  refine z_cVl3 h dX3_bestEnd_13 lX3_29 vX3_meanAbove rfl L23 (c_X3_meanAbove σ1 n 0 x hn (by omega) hx) rfl (Nat.le_of_ble_eq_true rfl) (by decide) (fun v2 σ2 h2 => ?_)
  obtain ⟨h2, rfl⟩ := h2
  refine z_lcmp h dX3_bestEnd_16 (by omega) (by omega) ?_
  refine z_if_ge h dX3_bestEnd_17 (by omega) (fun b17 => ?_) (fun b17 => ?_)
  · refine z_iconst h dX3_bestEnd_26 ?_
    refine z_irI h hr dX3_bestEnd_27 ?_
    refine ⟨zfr_tr h1 h2, ?_⟩
    split <;> omega
  · refine z_iload_n h dX3_bestEnd_20 rfl ?_
    refine z_iconst h dX3_bestEnd_21 ?_
    refine z_isub h dX3_bestEnd_22 ?_
    refine z_goto h dX3_bestEnd_23 ?_
    refine z_irI h hr dX3_bestEnd_27 ?_
    refine ⟨zfr_tr h1 h2, ?_⟩
    split <;> omega
end
section
/-! ===== a morning: the leaves ===== -/
def pA (P : zP) (i : Int) : Int := (P.1.getD i.toNat (0, 0, 0)).1
def pC (P : zP) (i : Int) : Int := (P.1.getD i.toNat (0, 0, 0)).2.1
def pW (P : zP) (i : Int) : Int := (P.1.getD i.toNat (0, 0, 0)).2.2
theorem cPlan_at {σ : zM} {π : Nat} {P : zP} (h : cPlan σ π P) {i : Int} (hi : 0 ≤ i ∧ i < P.1.length) : (σ (π + 1) i = pA P i ∧ σ (π + 2) i = pC P i ∧ σ (π + 3) i = pW P i) ∧ 0 ≤ pA P i ∧ pA P i ≤ 99 ∧ (pC P i = 0 ∨ pC P i = 1) ∧ 1 ≤ pW P i ∧ pW P i ≤ 99 := by
  have hlt : i.toNat < P.1.length := by omega
  have e : P.1.getD i.toNat (0, 0, 0) = P.1[i.toNat] := by rw [List.getD_eq_getElem?_getD, List.getElem?_eq_getElem hlt]; rfl
  unfold pA pC pW
  rw [e]
  have h1 := h.2.1 i.toNat _ (List.getElem?_eq_getElem hlt)
  rw [Int.toNat_of_nonneg hi.1] at h1
  exact ⟨h1, h.2.2.2.2.2.2.1 _ (List.getElem_mem hlt)⟩
/-- THE ROW of the class -/
def cRow (σ : zM) (line : List Int) (np : Nat) : Prop := σ 5 10 = line.length ∧ line.length ≤ 10 ∧ (∀ (k : Nat) (x : Int), line[k]? = some x → σ 9 k = x) ∧ (∀ x ∈ line, 0 ≤ x ∧ x < np) ∧ line.Nodup ∧ (∀ i : Int, 0 ≤ i → i < 10 → σ 8 i = if i ∈ line then 1 else 0)
/-- how and when -/
def cEnd (σ : zM) (how whn : Int → Int) : Prop := ∀ i : Int, 0 ≤ i → i < 10 → (σ 6 i = how i ∧ σ 7 i = whn i) ∧ 0 ≤ how i ∧ how i ≤ 3 ∧ 0 ≤ whn i ∧ whn i ≤ 200
theorem c_X1_end (σ : zM) (i as t : Int) (hi : 0 ≤ i ∧ i < 10) : zCv mX1_end (fun w => [zr w 5, zi i, zi as, zi t]) σ (fun σ' => σ' = zup (zup (zup (zup σ 6 i as) 7 i t) 8 i 0) 5 12 (σ 5 12 + 1)) := by
  refine zCv_mk (own := RX1) rfl (by decide +kernel) (fun w => [some (zr w 5), some (zi i), some (zi as), some (zi t)]) (fun _ => rfl) (fun _ => Nat.le_of_ble_eq_true rfl) ?_
  intro Γ h hr
  refine z_raload_n h dX1_end_0 rfl ?_
  refine z_getr h dX1_end_1 fX1_9 L5 rfl ?_
  refine z_iload_n h dX1_end_4 rfl ?_
  refine z_iload_n h dX1_end_5 rfl ?_
  refine z_iast h dX1_end_6 L6 (by decide) (by omega) ?_
  refine z_raload_n h dX1_end_7 rfl ?_
  refine z_getr h dX1_end_8 fX1_15 L5 rfl ?_
  refine z_iload_n h dX1_end_11 rfl ?_
  refine z_iload_n h dX1_end_12 rfl ?_
  refine z_iast h dX1_end_13 L7 (by decide) (by omega) ?_
  refine z_raload_n h dX1_end_14 rfl ?_
  refine z_getr h dX1_end_15 fX1_18 L5 rfl ?_
  refine z_iload_n h dX1_end_18 rfl ?_
  refine z_iconst h dX1_end_19 ?_
  refine z_zast h dX1_end_20 L8 (by decide) (by omega) (by decide) ?_
  refine z_raload_n h dX1_end_21 rfl ?_
  refine z_dup h dX1_end_22 rfl ?_
  refine y_get 12 h dX1_end_23 fX1_56 L5 rfl rfl ?_
  try simp (disch := omega) only [zup_eq, zup_ne, zup_nei]
  refine z_iconst h dX1_end_26 ?_
  refine z_iadd h dX1_end_27 ?_
  refine y_put 12 h dX1_end_28 fX1_56 pX1_12 L5 rfl rfl ?_
  refine z_irV h hr dX1_end_31 ?_
  rfl
theorem c_X1_timeOf (σ : zM) (i : Int) (hi : 0 ≤ i ∧ i < 10) (hh : -2147483648 ≤ σ 6 i ∧ σ 6 i ≤ 2147483647) : zCi mX1_timeOf (fun w => [zr w 5, zi i]) σ (fun r σ' => r = (if σ 6 i = 0 then σ 7 i else 200) ∧ σ' = σ) := by
  refine zCi_mk (own := RX1) rfl (by decide +kernel) (fun w => [some (zr w 5), some (zi i)]) (fun _ => rfl) (fun _ => Nat.le_of_ble_eq_true rfl) ?_
  intro Γ h hr
  refine z_raload_n h dX1_timeOf_0 rfl ?_
  refine z_getr h dX1_timeOf_1 fX1_9 L5 rfl ?_
  refine z_iload_n h dX1_timeOf_4 rfl ?_
  refine z_iald h dX1_timeOf_5 L6 (by decide) (by omega) ?_
  refine z_if_ne h dX1_timeOf_6 (by omega) (fun b6 => ?_) (fun b6 => ?_)
  · refine z_sipush h dX1_timeOf_18 (by decide) ?_
    refine z_irI h hr dX1_timeOf_21 ?_
    simp_all
  · refine z_raload_n h dX1_timeOf_9 rfl ?_
    refine z_getr h dX1_timeOf_10 fX1_15 L5 rfl ?_
    refine z_iload_n h dX1_timeOf_13 rfl ?_
    refine z_iald h dX1_timeOf_14 L7 (by decide) (by omega) ?_
    refine z_goto h dX1_timeOf_15 ?_
    refine z_irI h hr dX1_timeOf_21 ?_
    simp_all
theorem c_X1_begin (σ : zM) (π : Nat) (hp : zPl π) (hpl : σ 5 6 = π) : zCv mX1_begin (fun w => [zr w 5]) σ (fun σ' => zfr 5 8 σ σ' ∧ (∀ i : Int, i < 10 → σ' 5 i = σ 5 i) ∧ (σ' 5 10 = 0 ∧ σ' 5 11 = 0 ∧ σ' 5 12 = 0 ∧ σ' 5 13 = σ π 9 ∧ σ' 5 14 = 0 ∧ σ' 5 15 = -1) ∧ (∀ i : Int, 0 ≤ i → i < 10 → σ' 6 i = 3 ∧ σ' 7 i = 200 ∧ σ' 8 i = 0)) := by
  refine zCv_mk (own := RX1) rfl (by decide +kernel) (fun w => [some (zr w 5), none]) (fun _ => rfl) (fun _ => Nat.le_of_ble_eq_true rfl) ?_
  intro Γ h hr
  have hpi : 39 ≤ π := by unfold zPl at hp; omega
  have L : ∀ (r k : Nat) (σ1 : zM), k + r = 10 → (∀ c, c ≠ 6 → c ≠ 7 → c ≠ 8 → ∀ i, σ1 c i = σ c i) → (∀ i : Int, 0 ≤ i → i < k → σ1 6 i = 3 ∧ σ1 7 i = 200 ∧ σ1 8 i = 0) → zV Γ σ1 2 [some (zr (zw Γ) 5), some (zi k)] [] := by
    intro r
    induction r with
    | zero =>
      intro k σ1 h1 h2 h3
      have e := h2 5 (by omega) (by omega) (by omega)
      refine z_iload_n h dX1_begin_2 rfl ?_
      refine z_bipush h dX1_begin_3 (by decide) ?_
      refine z_icmp_ge h dX1_begin_5 (by omega) (by omega) (fun b5 => ?_) (fun b5 => by exfalso; omega)
      refine z_raload_n h dX1_begin_37 rfl ?_
      refine z_iconst h dX1_begin_38 ?_
      refine y_put 10 h dX1_begin_39 fX1_93 pX1_10 L5 rfl rfl ?_
      refine z_raload_n h dX1_begin_42 rfl ?_
      refine z_iconst h dX1_begin_43 ?_
      refine y_put 11 h dX1_begin_44 fX1_96 pX1_11 L5 rfl rfl ?_
      refine z_raload_n h dX1_begin_47 rfl ?_
      refine z_iconst h dX1_begin_48 ?_
      refine y_put 12 h dX1_begin_49 fX1_56 pX1_12 L5 rfl rfl ?_
      refine z_raload_n h dX1_begin_52 rfl ?_
      refine z_raload_n h dX1_begin_53 rfl ?_
      refine y_getd 6 h dX1_begin_54 fX1_34 L5 rfl rfl (by simp (disch := omega) only [zup_nei]; rw [e]; exact hpl) ?_
      refine y_get 9 h dX1_begin_57 fX1_99 (zPl_o hp) rfl rfl ?_
      try simp (disch := omega) only [zup_eq, zup_ne, zup_nei]
      refine y_put 13 h dX1_begin_60 fX1_87 pX1_13 L5 rfl rfl ?_
      refine z_raload_n h dX1_begin_63 rfl ?_
      refine z_iconst h dX1_begin_64 ?_
      refine y_put 14 h dX1_begin_65 fX1_100 pX1_14 L5 rfl rfl ?_
      refine z_raload_n h dX1_begin_68 rfl ?_
      refine z_iconst h dX1_begin_69 ?_
      refine y_put 15 h dX1_begin_70 fX1_103 pX1_15 L5 rfl rfl ?_
      refine z_irV h hr dX1_begin_73 ?_
      refine ⟨fun c hc i => ?_, fun i hi => ?_, ⟨?_, ?_, ?_, ?_, ?_, ?_⟩, fun i a b => ?_⟩
      · simp (disch := omega) only [zup_ne]; exact h2 c (by omega) (by omega) (by omega) i
      · simp (disch := omega) only [zup_nei]; exact e i
      · simp (disch := omega) only [zup_nei, zup_eq]
      · simp (disch := omega) only [zup_nei, zup_eq]
      · simp (disch := omega) only [zup_nei, zup_eq]
      · simp (disch := omega) only [zup_nei, zup_eq]; exact h2 π (by omega) (by omega) (by omega) 9
      · simp (disch := omega) only [zup_nei, zup_eq]
      · simp (disch := omega) only [zup_nei, zup_eq]
      · simp (disch := omega) only [zup_ne]; exact h3 i a (by omega)
    | succ r ih =>
      intro k σ1 h1 h2 h3
      refine z_iload_n h dX1_begin_2 rfl ?_
      refine z_bipush h dX1_begin_3 (by decide) ?_
      refine z_icmp_ge h dX1_begin_5 (by omega) (by omega) (fun b5 => by exfalso; omega) (fun b5 => ?_)
      refine z_raload_n h dX1_begin_8 rfl ?_
      refine z_getr h dX1_begin_9 fX1_9 L5 rfl ?_
      refine z_iload_n h dX1_begin_12 rfl ?_
      refine z_iconst h dX1_begin_13 ?_
      refine z_iast h dX1_begin_14 L6 (by decide) (by omega) ?_
      refine z_raload_n h dX1_begin_15 rfl ?_
      refine z_getr h dX1_begin_16 fX1_15 L5 rfl ?_
      refine z_iload_n h dX1_begin_19 rfl ?_
      refine z_sipush h dX1_begin_20 (by decide) ?_
      refine z_iast h dX1_begin_23 L7 (by decide) (by omega) ?_
      refine z_raload_n h dX1_begin_24 rfl ?_
      refine z_getr h dX1_begin_25 fX1_18 L5 rfl ?_
      refine z_iload_n h dX1_begin_28 rfl ?_
      refine z_iconst h dX1_begin_29 ?_
      refine z_zast h dX1_begin_30 L8 (by decide) (by omega) (by decide) ?_
      refine z_iinc h dX1_begin_31 (by decide) rfl (zst1_1 rfl) ?_
      refine z_goto h dX1_begin_34 ?_
      rw [show (k : Int) + 1 = ((k + 1 : Nat) : Int) by omega]
      refine ih (k + 1) _ (by omega) (fun c a b d i => by simp (disch := omega) only [zup_ne]; exact h2 c a b d i) (fun i a b => ?_)
      by_cases e : i = k
      · subst e; simp (disch := omega) only [zup_ne, zup_eq]; exact ⟨trivial, trivial, trivial⟩
      · simp (disch := omega) only [zup_ne, zup_nei]; exact h3 i a (by omega)
  refine z_iconst h dX1_begin_0 ?_
  refine z_ist1_n h dX1_begin_1 (by decide) (zst1_1 rfl) ?_
  exact L 10 0 σ rfl (fun _ _ _ _ _ => rfl) (fun i a b => by omega)
def gG (P : zP) (t i : Int) : Bool := decide (pA P i + pW P i ≤ t)
theorem c_X1_letGoAway (σ : zM) (π : Nat) (hp : zPl π) (hpl : σ 5 6 = π) (P : zP) (hP : cPlan σ π P) (line : List Int) (how whn : Int → Int) (t : Int) (ht : 0 ≤ t ∧ t < 200) (hR : cRow σ line P.1.length) (hE : cEnd σ how whn) (h12 : 0 ≤ σ 5 12 ∧ σ 5 12 ≤ 10000) : zCv mX1_letGoAway (fun w => [zr w 5, zi t]) σ (fun σ' => zfr 5 9 σ σ' ∧ (∀ i : Int, i ≠ 10 → i ≠ 12 → σ' 5 i = σ 5 i) ∧ cRow σ' (line.filter (fun i => !gG P t i)) P.1.length ∧ cEnd σ' (fun i => if i ∈ line ∧ gG P t i = true then 1 else how i) (fun i => if i ∈ line ∧ gG P t i = true then t else whn i) ∧ σ' 5 12 = σ 5 12 + line.length - (line.filter (fun i => !gG P t i)).length) := by
  refine zCv_mk (own := RX1) rfl (by decide +kernel) (fun w => [some (zr w 5), some (zi t), none, none, none]) (fun _ => rfl) (fun _ => Nat.le_of_ble_eq_true rfl) ?_
  intro Γ h hr
  have hpi : 39 ≤ π := by unfold zPl at hp; omega
  obtain ⟨r1, r2, r3, r4, r5, r6⟩ := hR
  have np10 := hP.2.2.2.2.2.1
  have L : ∀ (r k : Nat) (σ1 : zM) (kp : List Int) (l4 : Option Value), k + r = line.length → kp = (line.take k).filter (fun i => !gG P t i) → zfr 5 9 σ σ1 → (∀ i : Int, i ≠ 12 → σ1 5 i = σ 5 i) → σ1 5 12 = σ 5 12 + k - kp.length → (∀ (j : Nat) x, kp[j]? = some x → σ1 9 j = x) → (∀ (j : Nat) x, line[j]? = some x → k ≤ j → σ1 9 j = x) → (∀ i : Int, 0 ≤ i → i < 10 → σ1 6 i = (if i ∈ line.take k ∧ gG P t i = true then 1 else how i) ∧ σ1 7 i = (if i ∈ line.take k ∧ gG P t i = true then t else whn i) ∧ σ1 8 i = (if i ∈ line ∧ ¬ (i ∈ line.take k ∧ gG P t i = true) then 1 else 0)) → zV Γ σ1 4 [some (zr (zw Γ) 5), some (zi t), some (zi kp.length), some (zi k), l4] [] := by
    intro r
    induction r with
    | zero =>
      intro k σ1 kp l4 h1 h2 h3 h4 h5 h6 h7 h8
      have e10 := h4 10 (by omega)
      have ek : line.take k = line := List.take_of_length_le (by omega)
      rw [ek] at h2 h8
      have hkl : kp.length ≤ line.length := by rw [h2]; exact List.length_filter_le _ _
      refine z_iload_n h dX1_letGoAway_4 rfl ?_
      refine z_raload_n h dX1_letGoAway_5 rfl ?_
      refine y_get 10 h dX1_letGoAway_6 fX1_93 L5 rfl rfl ?_
      refine z_icmp_ge h dX1_letGoAway_9 (by omega) (by omega) (fun b9 => ?_) (fun b9 => by exfalso; omega)
      refine z_raload_n h dX1_letGoAway_73 rfl ?_
      refine z_iload_n h dX1_letGoAway_74 rfl ?_
      refine y_put 10 h dX1_letGoAway_75 fX1_93 pX1_10 L5 rfl rfl ?_
      refine z_irV h hr dX1_letGoAway_78 ?_
      rw [← h2]
      refine ⟨zfr_up h3 (by omega) (by omega), fun i a b => ?_, ⟨by rw [zup_eq], by omega, fun j x hj => ?_, fun x hx => ?_, ?_, fun i a b => ?_⟩, fun i a b => ?_, ?_⟩
      · rw [zup_nei a]; exact h4 i b
      · rw [zup_ne (by omega)]; exact h6 j x hj
      · rw [h2] at hx; exact r4 x (List.mem_filter.mp hx).1
      · rw [h2]; exact r5.filter _
      · rw [zup_ne (by omega), (h8 i a b).2.2, h2]
        by_cases e : i ∈ line
        · cases hg : gG P t i <;> simp [List.mem_filter, e, hg]
        · simp [List.mem_filter, e]
      · rw [zup_ne (by omega), zup_ne (by omega)]
        have := h8 i a b
        have h9 := hE i a b
        refine ⟨⟨this.1, this.2.1⟩, ?_⟩
        by_cases e : i ∈ line ∧ gG P t i = true
        · simp only [if_pos e]; omega
        · simp only [if_neg e]; exact h9.2
      · rw [zup_nei (by omega), h5]; omega
    | succ r ih =>
      intro k σ1 kp l4 h1 h2 h3 h4 h5 h6 h7 h8
      have e10 := h4 10 (by omega)
      have e6 := h4 6 (by omega)
      have hlt : k < line.length := by omega
      have hx := List.getElem?_eq_getElem hlt
      obtain ⟨x, hxe⟩ : ∃ x, x = line[k] := ⟨_, rfl⟩
      rw [← hxe] at hx
      have hm : x ∈ line := List.mem_of_getElem? hx
      have hxr := r4 x hm
      have e9 : σ1 9 k = x := h7 k x hx (Nat.le_refl _)
      have hP1 : cPlan σ1 π P := cPlan_fr hP (fun c a b i => h3 c (by omega) i)
      have hpa := cPlan_at hP1 hxr
      have hkl : kp.length ≤ k := by
        rw [h2]
        refine Nat.le_trans (List.length_filter_le _ _) ?_
        rw [List.length_take]; omega
      have etk : line.take (k + 1) = line.take k ++ [x] := by rw [List.take_add_one, hx]; rfl
      have hxn : x ∉ line.take k := by
        intro z
        obtain ⟨j, hj⟩ := List.getElem?_of_mem z
        rw [List.getElem?_take] at hj
        split at hj
        · next hjk =>
          have hjl := (List.getElem?_eq_some_iff.mp hj).1
          have := (List.getElem_inj (h₀ := hjl) (h₁ := hlt) r5).mp (by rw [← hxe]; exact (List.getElem?_eq_some_iff.mp hj).2)
          omega
        · cases hj
      by_cases hg : gG P t x = true
      · have hg' : pA P x + pW P x ≤ t := by simpa [gG] using hg
        have ekp : kp = (line.take (k + 1)).filter (fun i => !gG P t i) := by rw [etk, List.filter_append, ← h2]; simp [hg]
        refine z_iload_n h dX1_letGoAway_4 rfl ?_
        refine z_raload_n h dX1_letGoAway_5 rfl ?_
        refine y_get 10 h dX1_letGoAway_6 fX1_93 L5 rfl rfl ?_
        refine z_icmp_ge h dX1_letGoAway_9 (by omega) (by omega) (fun b9 => by exfalso; omega) (fun b9 => ?_)
        refine z_raload_n h dX1_letGoAway_12 rfl ?_
        refine z_getr h dX1_letGoAway_13 fX1_22 L5 rfl ?_
        refine z_iload_n h dX1_letGoAway_16 rfl ?_
        refine z_iald h dX1_letGoAway_17 L9 (by decide) (by omega) ?_
        rw [e9]
        refine z_ist1 h dX1_letGoAway_18 (by decide) (zst1_4 rfl) ?_
        refine z_iload_n h dX1_letGoAway_20 rfl ?_
        refine z_raload_n h dX1_letGoAway_21 rfl ?_
        refine y_getd 6 h dX1_letGoAway_22 fX1_34 L5 rfl rfl (by rw [e6]; exact hpl) ?_
        refine z_getr h dX1_letGoAway_25 fX1_106 (zPl_o hp) rfl ?_
        refine z_iload h dX1_letGoAway_28 rfl ?_
        refine z_iald h dX1_letGoAway_30 (zPl_1 hp) (by decide) (by omega) ?_
        rw [hpa.1.1]
        refine z_isub h dX1_letGoAway_31 ?_
        refine z_raload_n h dX1_letGoAway_32 rfl ?_
        refine y_getd 6 h dX1_letGoAway_33 fX1_34 L5 rfl rfl (by rw [e6]; exact hpl) ?_
        refine z_getr h dX1_letGoAway_36 fX1_109 (zPl_o hp) rfl ?_
        refine z_iload h dX1_letGoAway_39 rfl ?_
        refine z_iald h dX1_letGoAway_41 (zPl_3 hp) (by decide) (by omega) ?_
        rw [hpa.1.2.2]
        refine z_icmp_lt h dX1_letGoAway_42 (by omega) (by omega) (fun b42 => by exfalso; omega) (fun b42 => ?_)
        refine z_raload_n h dX1_letGoAway_45 rfl ?_
        refine z_iload h dX1_letGoAway_46 rfl ?_
        refine z_iconst h dX1_letGoAway_48 ?_
        refine z_iload_n h dX1_letGoAway_49 rfl ?_
        refine z_cVv3 h dX1_letGoAway_50 lX1_112 vX1_end rfl L5 (c_X1_end σ1 x 1 t (by omega)) rfl (Nat.le_of_ble_eq_true rfl) (by decide) (fun σ2 h10 => ?_)
        refine z_goto h dX1_letGoAway_53 ?_
        refine z_iinc h dX1_letGoAway_67 (by decide) rfl (zst1_3 rfl) ?_
        refine z_goto h dX1_letGoAway_70 ?_
        subst h10
        rw [show (k : Int) + 1 = ((k + 1 : Nat) : Int) by omega]
        refine ih (k + 1) _ kp _ (by omega) ekp (zfr_up (zfr_up (zfr_up (zfr_up h3 (by omega) (by omega)) (by omega) (by omega)) (by omega) (by omega)) (by omega) (by omega)) (fun i a => by simp (disch := omega) only [zup_nei, zup_ne]; exact h4 i a) (by rw [zup_eq, h5]; omega) (fun j y hj => by simp (disch := omega) only [zup_ne]; exact h6 j y hj) (fun j y hj hk => by simp (disch := omega) only [zup_ne]; exact h7 j y hj (by omega)) (fun i a b => ?_)
        have h11 := h8 i a b
        rw [etk]
        by_cases e : i = x
        · subst e
          simp (disch := omega) only [zup_ne, zup_eq]
          simp [hg]
        · simp (disch := omega) only [zup_ne, zup_nei]
          simp only [List.mem_append, List.mem_singleton, e, or_false]
          exact h11
      · have hg' : ¬ pA P x + pW P x ≤ t := by simpa [gG] using hg
        have ekp : kp ++ [x] = (line.take (k + 1)).filter (fun i => !gG P t i) := by rw [etk, List.filter_append, ← h2]; simp [hg]
        refine z_iload_n h dX1_letGoAway_4 rfl ?_
        refine z_raload_n h dX1_letGoAway_5 rfl ?_
        refine y_get 10 h dX1_letGoAway_6 fX1_93 L5 rfl rfl ?_
        refine z_icmp_ge h dX1_letGoAway_9 (by omega) (by omega) (fun b9 => by exfalso; omega) (fun b9 => ?_)
        refine z_raload_n h dX1_letGoAway_12 rfl ?_
        refine z_getr h dX1_letGoAway_13 fX1_22 L5 rfl ?_
        refine z_iload_n h dX1_letGoAway_16 rfl ?_
        refine z_iald h dX1_letGoAway_17 L9 (by decide) (by omega) ?_
        rw [e9]
        refine z_ist1 h dX1_letGoAway_18 (by decide) (zst1_4 rfl) ?_
        refine z_iload_n h dX1_letGoAway_20 rfl ?_
        refine z_raload_n h dX1_letGoAway_21 rfl ?_
        refine y_getd 6 h dX1_letGoAway_22 fX1_34 L5 rfl rfl (by rw [e6]; exact hpl) ?_
        refine z_getr h dX1_letGoAway_25 fX1_106 (zPl_o hp) rfl ?_
        refine z_iload h dX1_letGoAway_28 rfl ?_
        refine z_iald h dX1_letGoAway_30 (zPl_1 hp) (by decide) (by omega) ?_
        rw [hpa.1.1]
        refine z_isub h dX1_letGoAway_31 ?_
        refine z_raload_n h dX1_letGoAway_32 rfl ?_
        refine y_getd 6 h dX1_letGoAway_33 fX1_34 L5 rfl rfl (by rw [e6]; exact hpl) ?_
        refine z_getr h dX1_letGoAway_36 fX1_109 (zPl_o hp) rfl ?_
        refine z_iload h dX1_letGoAway_39 rfl ?_
        refine z_iald h dX1_letGoAway_41 (zPl_3 hp) (by decide) (by omega) ?_
        rw [hpa.1.2.2]
        refine z_icmp_lt h dX1_letGoAway_42 (by omega) (by omega) (fun b42 => ?_) (fun b42 => by exfalso; omega)
        refine z_raload_n h dX1_letGoAway_56 rfl ?_
        refine z_getr h dX1_letGoAway_57 fX1_22 L5 rfl ?_
        refine z_iload_n h dX1_letGoAway_60 rfl ?_
        refine z_iload h dX1_letGoAway_61 rfl ?_
        refine z_iast h dX1_letGoAway_63 L9 (by decide) (by omega) ?_
        refine z_iinc h dX1_letGoAway_64 (by decide) rfl (zst1_2 rfl) ?_
        refine z_iinc h dX1_letGoAway_67 (by decide) rfl (zst1_3 rfl) ?_
        refine z_goto h dX1_letGoAway_70 ?_
        rw [show (k : Int) + 1 = ((k + 1 : Nat) : Int) by omega]
        have := ih (k + 1) (zup σ1 9 kp.length x) (kp ++ [x]) (some (zi x)) (by omega) ekp (zfr_up h3 (by omega) (by omega)) (fun i a => by simp (disch := omega) only [zup_ne]; exact h4 i a) (by rw [zup_ne (by omega), h5]; simp; omega) (fun j y hj => ?_) (fun j y hj hk => ?_) (fun i a b => ?_)
        · rw [List.length_append, List.length_singleton] at this
          exact this
        · by_cases e : j < kp.length
          · rw [List.getElem?_append_left e] at hj
            rw [zup_nei (by omega)]
            exact h6 j y hj
          · have e2 := (List.getElem?_eq_some_iff.mp hj).1
            simp at e2
            have e3 : j = kp.length := by omega
            subst e3
            simp at hj
            rw [zup_eq, hj]
        · rw [zup_nei (by omega)]; exact h7 j y hj (by omega)
        · have h11 := h8 i a b
          rw [etk]
          simp (disch := omega) only [zup_ne]
          by_cases e : i = x
          · subst e
            simp only [hg, Bool.false_eq_true, and_false, if_false]
            simp only [hg, Bool.false_eq_true, and_false, if_false] at h11
            exact h11
          · simp only [List.mem_append, List.mem_singleton, e, or_false]
            exact h11
  refine z_iconst h dX1_letGoAway_0 ?_
  refine z_ist1_n h dX1_letGoAway_1 (by decide) (zst1_2 rfl) ?_
  refine z_iconst h dX1_letGoAway_2 ?_
  refine z_ist1_n h dX1_letGoAway_3 (by decide) (zst1_3 rfl) ?_
  refine L line.length 0 σ [] none (by omega) (by simp) zfr_rf (fun _ _ => rfl) (by simp) (by simp) (fun j x hj _ => r3 j x hj) (fun i a b => ?_)
  have := hE i a b
  simp
  exact ⟨this.1.1, this.1.2, r6 i a b⟩
end
section
def zTurn (law : Int) (line : List Int) : List Int := line.take (if law = 2 then 3 else 0) ++ (line.drop (if law = 2 then 3 else 0)).reverse
theorem zTurn_get {law : Int} {line : List Int} {a0 k : Nat} {x : Int} (ha : a0 = if law = 2 then 3 else 0) (h : (zTurn law line)[k]? = some x) : (k < a0 ∧ line[k]? = some x) ∨ (a0 ≤ k ∧ k < line.length ∧ line[a0 + line.length - 1 - k]? = some x) := by
  unfold zTurn at h
  rw [← ha] at h
  by_cases hk : k < (line.take a0).length
  · rw [List.getElem?_append_left hk, List.getElem?_take] at h
    rw [List.length_take] at hk
    rw [if_pos (by omega)] at h
    exact Or.inl ⟨by omega, h⟩
  · rw [List.getElem?_append_right (by omega)] at h
    have hl := (List.getElem?_eq_some_iff.mp h).1
    rw [List.length_reverse, List.length_drop, List.length_take] at hl
    rw [List.length_take] at hk
    rw [List.getElem?_reverse (by rw [List.length_drop, List.length_take]; omega), List.getElem?_drop, List.length_drop, List.length_take] at h
    refine Or.inr ⟨by omega, by omega, ?_⟩
    rw [← h]
    congr 1
    omega
theorem zTurn_mem {law : Int} {line : List Int} {x : Int} : x ∈ zTurn law line ↔ x ∈ line := by
  unfold zTurn
  rw [List.mem_append, List.mem_reverse]
  conv => rhs; rw [← List.take_append_drop (if law = 2 then 3 else 0) line]
  rw [List.mem_append]
theorem zTurn_perm (law : Int) (line : List Int) : (zTurn law line).Perm line := by
  unfold zTurn
  conv => rhs; rw [← List.take_append_drop (if law = 2 then 3 else 0) line]
  exact List.Perm.append_left _ (List.reverse_perm _)
theorem zTurn_len (law : Int) (line : List Int) : (zTurn law line).length = line.length := (zTurn_perm law line).length_eq
theorem c_X1_turn (σ : zM) (π : Nat) (hp : zPl π) (hpl : σ 5 6 = π) (P : zP) (hP : cPlan σ π P) (line : List Int) (t law lt : Int) (ht : 0 ≤ t ∧ t < 200) (hlaw : σ 5 7 = law ∧ 0 ≤ law ∧ law ≤ 3) (hlt : σ 5 15 = lt ∧ -1 ≤ lt ∧ lt < 200) (hR : cRow σ line P.1.length) : zCv mX1_turn (fun w => [zr w 5, zi t]) σ (fun σ' => ((law = 3 ∨ (0 ≤ lt ∧ t - lt ≤ P.2.2.1)) ∧ σ' = σ) ∨ (¬ (law = 3 ∨ (0 ≤ lt ∧ t - lt ≤ P.2.2.1)) ∧ (∀ c, c ≠ 5 → c ≠ 9 → ∀ i, σ' c i = σ c i) ∧ (∀ i : Int, i ≠ 14 → i ≠ 15 → σ' 5 i = σ 5 i) ∧ cRow σ' (zTurn law line) P.1.length ∧ σ' 5 14 = σ 5 14 + 1 ∧ σ' 5 15 = t)) := by
  refine zCv_mk (own := RX1) rfl (by decide +kernel) (fun w => [some (zr w 5), some (zi t), none, none, none]) (fun _ => rfl) (fun _ => Nat.le_of_ble_eq_true rfl) ?_
  intro Γ h hr
  obtain ⟨r1, r2, r3, r4, r5, r6⟩ := hR
  have hpi : 39 ≤ π := by unfold zPl at hp; omega
  have hq := hP.2.2.2.2.1.1
  have hq2 := hP.2.2.2.2.2.2.2.2.1
  have L : ∀ (n : Nat) (a b a0 : Int) (σ1 : zM) (l4 : Option Value), (b - a).toNat = n → (a0 = if law = 2 then 3 else 0) → ¬ (law = 3 ∨ (0 ≤ lt ∧ t - lt ≤ P.2.2.1)) → a + b = a0 + line.length - 1 → a0 ≤ a → a ≤ 20 → -20 ≤ b → b < line.length → (∀ c, c ≠ 9 → ∀ i, σ1 c i = σ c i) → (∀ j : Int, (j < a0 ∨ (a ≤ j ∧ j ≤ b)) → σ1 9 j = σ 9 j) → (∀ j : Int, a0 ≤ j → j < line.length → (j < a ∨ b < j) → σ1 9 j = σ 9 (a0 + line.length - 1 - j)) → zV Γ σ1 53 [some (zr (zw Γ) 5), some (zi t), some (zi b), some (zi a), l4] [] := by
    intro n
    induction n using Nat.strongRecOn with
    | _ n ih =>
      intro a b a0 σ1 l4 h1 ha0 hc h2 h3 h4 h5 h6 h7 h8 h9
      have e5 := h7 5 (by omega)
      refine z_iload_n h dX1_turn_53 rfl ?_
      refine z_iload_n h dX1_turn_54 rfl ?_
      refine z_icmp_ge h dX1_turn_55 (by omega) (by omega) (fun b55 => ?_) (fun b55 => ?_)
      · refine z_raload_n h dX1_turn_95 rfl ?_
        refine z_dup h dX1_turn_96 rfl ?_
        refine y_get 14 h dX1_turn_97 fX1_100 L5 rfl rfl ?_
        refine z_iconst h dX1_turn_100 ?_
        refine z_iadd h dX1_turn_101 ?_
        refine y_put 14 h dX1_turn_102 fX1_100 pX1_14 L5 rfl rfl ?_
        refine z_raload_n h dX1_turn_105 rfl ?_
        refine z_iload_n h dX1_turn_106 rfl ?_
        refine y_put 15 h dX1_turn_107 fX1_103 pX1_15 L5 rfl rfl ?_
        refine z_irV h hr dX1_turn_110 ?_
        have e0 : (if law = 2 then 3 else 0 : Nat) = a0.toNat := by rw [ha0]; split <;> rfl
        refine Or.inr ⟨hc, fun c c1 c2 i => ?_, fun i i1 i2 => ?_, ⟨?_, ?_, fun k x hk => ?_, fun x hx => ?_, ?_, fun i i1 i2 => ?_⟩, ?_, ?_⟩
        · simp (disch := omega) only [zup_ne]; exact h7 c c2 i
        · simp (disch := omega) only [zup_nei]; exact e5 i
        · simp (disch := omega) only [zup_nei]; rw [e5, zTurn_len]; exact r1
        · rw [zTurn_len]; exact r2
        · simp (disch := omega) only [zup_ne]
          rcases zTurn_get e0.symm hk with ⟨z1, z2⟩ | ⟨z1, z2, z3⟩
          · rw [h8 k (by omega)]; exact r3 k x z2
          · have hz := r3 _ x z3
            by_cases e : (k : Int) < a ∨ b < k
            · rw [h9 k (by omega) (by omega) e, ← hz]
              congr 1
              omega
            · rw [h8 k (by omega), ← hz]
              congr 1
              omega
        · exact r4 x (zTurn_mem.mp hx)
        · exact (zTurn_perm law line).nodup_iff.mpr r5
        · simp (disch := omega) only [zup_ne]
          rw [h7 8 (by omega), r6 i i1 i2]
          simp only [zTurn_mem]
        · simp (disch := omega) only [zup_nei, zup_eq]; rw [e5]
        · simp (disch := omega) only [zup_nei, zup_eq]
      · refine z_raload_n h dX1_turn_58 rfl ?_
        refine z_getr h dX1_turn_59 fX1_22 L5 rfl ?_
        refine z_iload_n h dX1_turn_62 rfl ?_
        refine z_iald h dX1_turn_63 L9 (by decide) (by omega) ?_
        refine z_ist1 h dX1_turn_64 (by decide) (zst1_4 rfl) ?_
        refine z_raload_n h dX1_turn_66 rfl ?_
        refine z_getr h dX1_turn_67 fX1_22 L5 rfl ?_
        refine z_iload_n h dX1_turn_70 rfl ?_
        refine z_raload_n h dX1_turn_71 rfl ?_
        refine z_getr h dX1_turn_72 fX1_22 L5 rfl ?_
        refine z_iload_n h dX1_turn_75 rfl ?_
        refine z_iald h dX1_turn_76 L9 (by decide) (by omega) ?_
        refine z_iast h dX1_turn_77 L9 (by decide) (by omega) ?_
        refine z_raload_n h dX1_turn_78 rfl ?_
        refine z_getr h dX1_turn_79 fX1_22 L5 rfl ?_
        refine z_iload_n h dX1_turn_82 rfl ?_
        refine z_iload h dX1_turn_83 rfl ?_
        refine z_iast h dX1_turn_85 L9 (by decide) (by omega) ?_
        refine z_iinc h dX1_turn_86 (by decide) rfl (zst1_2 rfl) ?_
        refine z_iinc h dX1_turn_89 (by decide) rfl (zst1_3 rfl) ?_
        refine z_goto h dX1_turn_92 ?_
        refine ih _ (by omega) _ _ a0 _ _ rfl ha0 hc (by omega) (by omega) (by omega) (by omega) (by omega) (fun c hcc i => by simp (disch := omega) only [zup_ne]; exact h7 c hcc i) (fun j hj => ?_) (fun j hj1 hj2 hj3 => ?_)
        · simp (disch := omega) only [zup_nei]
          exact h8 j (by omega)
        · by_cases e1 : j = b
          · subst e1
            rw [zup_eq, h8 a (by omega)]
            congr 1
            omega
          · by_cases e2 : j = a
            · subst e2
              rw [zup_nei (by omega), zup_eq, h8 b (by omega)]
              congr 1
              omega
            · simp (disch := omega) only [zup_nei]
              exact h9 j hj1 hj2 (by omega)
  refine z_raload_n h dX1_turn_0 rfl ?_
  refine y_get 7 h dX1_turn_1 fX1_42 L5 rfl rfl ?_
  refine z_iconst h dX1_turn_4 ?_
  refine z_icmp_eq h dX1_turn_5 (by omega) (by omega) (fun b5 => ?_) (fun b5 => ?_)
  · refine z_irV h hr dX1_turn_31 ?_
    refine Or.inl ⟨?_, rfl⟩
    first | exact Or.inl (by omega) | exact Or.inr (by omega)
  · refine z_raload_n h dX1_turn_8 rfl ?_
    refine y_get 15 h dX1_turn_9 fX1_103 L5 rfl rfl ?_
    refine z_if_lt h dX1_turn_12 (by omega) (fun b12 => ?_) (fun b12 => ?_)
    · refine z_raload_n h dX1_turn_32 rfl ?_
      refine y_get 10 h dX1_turn_33 fX1_93 L5 rfl rfl ?_
      refine z_iconst h dX1_turn_36 ?_
      refine z_isub h dX1_turn_37 ?_
      refine z_ist1_n h dX1_turn_38 (by decide) (zst1_2 rfl) ?_
      refine z_raload_n h dX1_turn_39 rfl ?_
      refine y_get 7 h dX1_turn_40 fX1_42 L5 rfl rfl ?_
      refine z_iconst h dX1_turn_43 ?_
      refine z_icmp_ne h dX1_turn_44 (by omega) (by omega) (fun b44 => ?_) (fun b44 => ?_)
      · refine z_iconst h dX1_turn_51 ?_
        refine z_ist1_n h dX1_turn_52 (by decide) (zst1_3 rfl) ?_
        refine L _ _ _ _ σ none rfl rfl (by omega) ?_ ?_ ?_ ?_ (by omega) (fun _ _ _ => rfl) (fun _ _ => rfl) (fun j hj1 hj2 hj3 => ?_) <;> (first | omega | skip) <;> split <;> omega
      · refine z_iconst h dX1_turn_47 ?_
        refine z_goto h dX1_turn_48 ?_
        refine z_ist1_n h dX1_turn_52 (by decide) (zst1_3 rfl) ?_
        refine L _ _ _ _ σ none rfl rfl (by omega) ?_ ?_ ?_ ?_ (by omega) (fun _ _ _ => rfl) (fun _ _ => rfl) (fun j hj1 hj2 hj3 => ?_) <;> (first | omega | skip) <;> split <;> omega
    · refine z_iload_n h dX1_turn_15 rfl ?_
      refine z_raload_n h dX1_turn_16 rfl ?_
      refine y_get 15 h dX1_turn_17 fX1_103 L5 rfl rfl ?_
      refine z_isub h dX1_turn_20 ?_
      refine z_raload_n h dX1_turn_21 rfl ?_
      refine y_getd 6 h dX1_turn_22 fX1_34 L5 rfl rfl hpl ?_
      refine y_get 6 h dX1_turn_25 fX1_146 (zPl_o hp) rfl rfl ?_
      refine z_icmp_gt h dX1_turn_28 (by omega) (by omega) (fun b28 => ?_) (fun b28 => ?_)
      · refine z_raload_n h dX1_turn_32 rfl ?_
        refine y_get 10 h dX1_turn_33 fX1_93 L5 rfl rfl ?_
        refine z_iconst h dX1_turn_36 ?_
        refine z_isub h dX1_turn_37 ?_
        refine z_ist1_n h dX1_turn_38 (by decide) (zst1_2 rfl) ?_
        refine z_raload_n h dX1_turn_39 rfl ?_
        refine y_get 7 h dX1_turn_40 fX1_42 L5 rfl rfl ?_
        refine z_iconst h dX1_turn_43 ?_
        refine z_icmp_ne h dX1_turn_44 (by omega) (by omega) (fun b44 => ?_) (fun b44 => ?_)
        · refine z_iconst h dX1_turn_51 ?_
          refine z_ist1_n h dX1_turn_52 (by decide) (zst1_3 rfl) ?_
          refine L _ _ _ _ σ none rfl rfl (by omega) ?_ ?_ ?_ ?_ (by omega) (fun _ _ _ => rfl) (fun _ _ => rfl) (fun j hj1 hj2 hj3 => ?_) <;> (first | omega | skip) <;> split <;> omega
        · refine z_iconst h dX1_turn_47 ?_
          refine z_goto h dX1_turn_48 ?_
          refine z_ist1_n h dX1_turn_52 (by decide) (zst1_3 rfl) ?_
          refine L _ _ _ _ σ none rfl rfl (by omega) ?_ ?_ ?_ ?_ (by omega) (fun _ _ _ => rfl) (fun _ _ => rfl) (fun j hj1 hj2 hj3 => ?_) <;> (first | omega | skip) <;> split <;> omega
      · refine z_irV h hr dX1_turn_31 ?_
        refine Or.inl ⟨?_, rfl⟩
        first | exact Or.inl (by omega) | exact Or.inr (by omega)
def zJoin (law : Int) (line : List Int) (i : Int) : List Int := line.take (if law = 1 then line.length / 2 else line.length) ++ i :: line.drop (if law = 1 then line.length / 2 else line.length)
theorem zJoin_perm (law : Int) (line : List Int) (i : Int) : (zJoin law line i).Perm (i :: line) := by
  unfold zJoin
  conv => rhs; rw [← List.take_append_drop (if law = 1 then line.length / 2 else line.length) line]
  exact List.perm_middle
theorem zJoin_get {law : Int} {line : List Int} {i : Int} {a k : Nat} {x : Int} (ha : a = if law = 1 then line.length / 2 else line.length) (h : (zJoin law line i)[k]? = some x) : (k < a ∧ line[k]? = some x) ∨ (k = a ∧ x = i) ∨ (a < k ∧ line[k - 1]? = some x) := by
  unfold zJoin at h
  rw [← ha] at h
  have hal : a ≤ line.length := by rw [ha]; split <;> omega
  have hl : (line.take a).length = a := by rw [List.length_take]; omega
  rcases Nat.lt_trichotomy k a with h1 | h1 | h1
  · rw [List.getElem?_append_left (by omega), List.getElem?_take, if_pos h1] at h
    exact Or.inl ⟨h1, h⟩
  · subst h1
    rw [List.getElem?_append_right (by omega), hl, Nat.sub_self] at h
    cases h
    exact Or.inr (Or.inl ⟨rfl, rfl⟩)
  · rw [List.getElem?_append_right (by omega), hl, show k - a = (k - 1 - a) + 1 by omega, List.getElem?_cons_succ, List.getElem?_drop, show a + (k - 1 - a) = k - 1 by omega] at h
    exact Or.inr (Or.inr ⟨h1, h⟩)
theorem c_X1_join (σ : zM) (line : List Int) (np : Nat) (i law : Int) (hnp : np ≤ 10) (hlaw : σ 5 7 = law ∧ 0 ≤ law ∧ law ≤ 3) (hR : cRow σ line np) (hi : 0 ≤ i ∧ i < np) (hn : i ∉ line) (hl : line.length < 10) : zCv mX1_join (fun w => [zr w 5, zi i]) σ (fun σ' => (∀ c, c ≠ 5 → c ≠ 8 → c ≠ 9 → ∀ j, σ' c j = σ c j) ∧ (∀ j : Int, j ≠ 10 → σ' 5 j = σ 5 j) ∧ cRow σ' (zJoin law line i) np) := by
  refine zCv_mk (own := RX1) rfl (by decide +kernel) (fun w => [some (zr w 5), some (zi i), none, none]) (fun _ => rfl) (fun _ => Nat.le_of_ble_eq_true rfl) ?_
  intro Γ h hr
  obtain ⟨r1, r2, r3, r4, r5, r6⟩ := hR
  have L : ∀ (n k a : Nat) (σ1 : zM), k = a + n → (a = if law = 1 then line.length / 2 else line.length) → k ≤ line.length → (∀ c, c ≠ 9 → ∀ j, σ1 c j = σ c j) → (∀ j : Int, j < k → σ1 9 j = σ 9 j) → (∀ j : Int, k ≤ j → j < line.length → σ1 9 (j + 1) = σ 9 j) → zV Γ σ1 37 [some (zr (zw Γ) 5), some (zi i), some (zi a), some (zi k)] [] := by
    intro n
    induction n with
    | zero =>
      intro k a σ1 h1 ha h2 h3 h4 h5
      have e5 := h3 5 (by omega)
      refine z_iload_n h dX1_join_37 rfl ?_
      refine z_iload_n h dX1_join_38 rfl ?_
      refine z_icmp_le h dX1_join_39 (by omega) (by omega) (fun b39 => ?_) (fun b39 => by exfalso; omega)
      refine z_raload_n h dX1_join_62 rfl ?_
      refine z_getr h dX1_join_63 fX1_22 L5 rfl ?_
      refine z_iload_n h dX1_join_66 rfl ?_
      refine z_iload_n h dX1_join_67 rfl ?_
      refine z_iast h dX1_join_68 L9 (by decide) (by omega) ?_
      refine z_raload_n h dX1_join_69 rfl ?_
      refine z_getr h dX1_join_70 fX1_18 L5 rfl ?_
      refine z_iload_n h dX1_join_73 rfl ?_
      refine z_iconst h dX1_join_74 ?_
      refine z_zast h dX1_join_75 L8 (by decide) (by omega) (by decide) ?_
      refine z_raload_n h dX1_join_76 rfl ?_
      refine z_dup h dX1_join_77 rfl ?_
      refine y_get 10 h dX1_join_78 fX1_93 L5 rfl rfl ?_
      try simp (disch := omega) only [zup_eq, zup_ne, zup_nei]
      refine z_iconst h dX1_join_81 ?_
      refine z_iadd h dX1_join_82 ?_
      refine y_put 10 h dX1_join_83 fX1_93 pX1_10 L5 rfl rfl ?_
      refine z_irV h hr dX1_join_86 ?_
      refine ⟨fun c c1 c2 c3 j => ?_, fun j hj => ?_, ⟨?_, ?_, fun j x hj => ?_, fun x hx => ?_, ?_, fun j j1 j2 => ?_⟩⟩
      · simp (disch := omega) only [zup_ne]; exact h3 c c3 j
      · simp (disch := omega) only [zup_nei, zup_ne]; exact e5 j
      · simp (disch := omega) only [zup_nei, zup_eq]; rw [e5, r1, (zJoin_perm law line i).length_eq]; simp
      · rw [(zJoin_perm law line i).length_eq]; simp; omega
      · simp (disch := omega) only [zup_ne]
        rcases zJoin_get ha hj with ⟨z1, z2⟩ | ⟨z1, z2⟩ | ⟨z1, z2⟩
        · rw [zup_nei (by omega), h4 j (by omega)]; exact r3 j x z2
        · rw [zup_eqi (by omega), z2]
        · have hlt := (List.getElem?_eq_some_iff.mp z2).1
          rw [zup_nei (by omega)]
          have := h5 ((j - 1 : Nat) : Int) (by omega) (by omega)
          rw [show ((j - 1 : Nat) : Int) + 1 = j by omega] at this
          rw [this]
          exact r3 _ x z2
      · rcases List.mem_cons.mp ((zJoin_perm law line i).mem_iff.mp hx) with rfl | hx
        · exact hi
        · exact r4 x hx
      · exact (zJoin_perm law line i).nodup_iff.mpr (List.nodup_cons.mpr ⟨hn, r5⟩)
      · simp only [(zJoin_perm law line i).mem_iff, List.mem_cons]
        by_cases e : j = i
        · subst e
          simp (disch := omega) only [zup_ne, zup_eq]
          simp
        · simp (disch := omega) only [zup_ne, zup_nei]
          rw [h3 8 (by omega), r6 j j1 j2]
          simp [e]
    | succ n ih =>
      intro k a σ1 h1 ha h2 h3 h4 h5
      refine z_iload_n h dX1_join_37 rfl ?_
      refine z_iload_n h dX1_join_38 rfl ?_
      refine z_icmp_le h dX1_join_39 (by omega) (by omega) (fun b39 => by exfalso; omega) (fun b39 => ?_)
      refine z_raload_n h dX1_join_42 rfl ?_
      refine z_getr h dX1_join_43 fX1_22 L5 rfl ?_
      refine z_iload_n h dX1_join_46 rfl ?_
      refine z_raload_n h dX1_join_47 rfl ?_
      refine z_getr h dX1_join_48 fX1_22 L5 rfl ?_
      refine z_iload_n h dX1_join_51 rfl ?_
      refine z_iconst h dX1_join_52 ?_
      refine z_isub h dX1_join_53 ?_
      refine z_iald h dX1_join_54 L9 (by decide) (by omega) ?_
      refine z_iast h dX1_join_55 L9 (by decide) (by omega) ?_
      refine z_iinc h dX1_join_56 (by decide) rfl (zst1_3 rfl) ?_
      refine z_goto h dX1_join_59 ?_
      rw [show (k : Int) + -1 = ((k - 1 : Nat) : Int) by omega]
      refine ih (k - 1) a _ (by omega) ha (by omega) (fun c hc j => by rw [zup_ne hc]; exact h3 c hc j) (fun j hj => by rw [zup_nei (by omega)]; exact h4 j (by omega)) (fun j hj1 hj2 => ?_)
      by_cases e : j = (k : Int) - 1
      · rw [zup_eqi (by omega), h4 _ (by omega), e]
      · rw [zup_nei (by omega)]; exact h5 j (by omega) hj2
  refine z_raload_n h dX1_join_0 rfl ?_
  refine y_get 10 h dX1_join_1 fX1_93 L5 rfl rfl ?_
  refine z_bipush h dX1_join_4 (by decide) ?_
  refine z_icmp_lt h dX1_join_6 (by omega) (by omega) (fun b6 => ?_) (fun b6 => by exfalso; omega)
  refine z_raload_n h dX1_join_10 rfl ?_
  refine y_get 7 h dX1_join_11 fX1_42 L5 rfl rfl ?_
  refine z_iconst h dX1_join_14 ?_
  refine z_icmp_ne h dX1_join_15 (by omega) (by omega) (fun b15 => ?_) (fun b15 => ?_)
  · refine z_raload_n h dX1_join_27 rfl ?_
    refine y_get 10 h dX1_join_28 fX1_93 L5 rfl rfl ?_
    refine z_ist1_n h dX1_join_31 (by decide) (zst1_2 rfl) ?_
    first | rw [r1, show (line.length : Int) / 2 = ((line.length / 2 : Nat) : Int) by omega] | rw [r1]
    refine z_raload_n h dX1_join_32 rfl ?_
    refine y_get 10 h dX1_join_33 fX1_93 L5 rfl rfl ?_
    try rw [r1]
    refine z_ist1_n h dX1_join_36 (by decide) (zst1_3 rfl) ?_
    first | exact L (line.length - line.length / 2) line.length _ σ (by omega) (by rw [if_pos (by omega)]) (Nat.le_refl _) (fun _ _ _ => rfl) (fun _ _ => rfl) (fun j _ _ => by omega) | exact L 0 line.length _ σ (by omega) (by rw [if_neg (by omega)]) (Nat.le_refl _) (fun _ _ _ => rfl) (fun _ _ => rfl) (fun j _ _ => by omega)
  · refine z_raload_n h dX1_join_18 rfl ?_
    refine y_get 10 h dX1_join_19 fX1_93 L5 rfl rfl ?_
    refine z_iconst h dX1_join_22 ?_
    refine z_idiv h dX1_join_23 (by omega) (by omega) ?_
    refine z_goto h dX1_join_24 ?_
    refine z_ist1_n h dX1_join_31 (by decide) (zst1_2 rfl) ?_
    first | rw [r1, show (line.length : Int) / 2 = ((line.length / 2 : Nat) : Int) by omega] | rw [r1]
    refine z_raload_n h dX1_join_32 rfl ?_
    refine y_get 10 h dX1_join_33 fX1_93 L5 rfl rfl ?_
    try rw [r1]
    refine z_ist1_n h dX1_join_36 (by decide) (zst1_3 rfl) ?_
    first | exact L (line.length - line.length / 2) line.length _ σ (by omega) (by rw [if_pos (by omega)]) (Nat.le_refl _) (fun _ _ _ => rfl) (fun _ _ => rfl) (fun j _ _ => by omega) | exact L 0 line.length _ σ (by omega) (by rw [if_neg (by omega)]) (Nat.le_refl _) (fun _ _ _ => rfl) (fun _ _ => rfl) (fun j _ _ => by omega)
end

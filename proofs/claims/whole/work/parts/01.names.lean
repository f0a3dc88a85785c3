-- ===== PART A: goes FIRST, ahead of the names: the tables' words, and 'selects' of the private methods out of them =====
/-- a private method of a class that the tables say can be made, by its rows of tables_1 -/
def lw_okq (q : MethodName × Nat) : Prop := (q.1.cls ≠ "java/lang/invoke/MethodHandle" ∧ q.1.cls ≠ "java/lang/invoke/VarHandle") ∧ Cond.instantiable q.1.cls q.2 ∈ tables_1 ∧ Cond.privateMethod q.1 ∈ tables_1 ∧ Cond.instanceMethod q.1 ∈ tables_1
theorem lw_p0 : lw_okq (⟨"QueueTurns", "isPerson", "(I)Z"⟩, 10) := ⟨⟨by decide +kernel, by decide +kernel⟩, List.mem_of_getElem? (i := 13) (by decide +kernel), List.mem_of_getElem? (i := 409) (by decide +kernel), List.mem_of_getElem? (i := 410) (by decide +kernel)⟩
theorem lw_p1 : lw_okq (⟨"QueueTurns", "runAsTold", "()V"⟩, 10) := ⟨⟨by decide +kernel, by decide +kernel⟩, List.mem_of_getElem? (i := 13) (by decide +kernel), List.mem_of_getElem? (i := 414) (by decide +kernel), List.mem_of_getElem? (i := 415) (by decide +kernel)⟩
theorem lw_p2 : lw_okq (⟨"QueueTurnsModel", "noMorning", "(I)V"⟩, 35) := ⟨⟨by decide +kernel, by decide +kernel⟩, List.mem_of_getElem? (i := 701) (by decide +kernel), List.mem_of_getElem? (i := 707) (by decide +kernel), List.mem_of_getElem? (i := 708) (by decide +kernel)⟩
theorem lw_p3 : lw_okq (⟨"QueueTurnsModel", "readAll", "()I"⟩, 35) := ⟨⟨by decide +kernel, by decide +kernel⟩, List.mem_of_getElem? (i := 701) (by decide +kernel), List.mem_of_getElem? (i := 834) (by decide +kernel), List.mem_of_getElem? (i := 835) (by decide +kernel)⟩
theorem lw_p4 : lw_okq (⟨"QueueTurnsModel", "item", "()Z"⟩, 35) := ⟨⟨by decide +kernel, by decide +kernel⟩, List.mem_of_getElem? (i := 701) (by decide +kernel), List.mem_of_getElem? (i := 838) (by decide +kernel), List.mem_of_getElem? (i := 839) (by decide +kernel)⟩
theorem lw_p5 : lw_okq (⟨"QueueTurnsModel", "byteAt", "(I)I"⟩, 35) := ⟨⟨by decide +kernel, by decide +kernel⟩, List.mem_of_getElem? (i := 701) (by decide +kernel), List.mem_of_getElem? (i := 842) (by decide +kernel), List.mem_of_getElem? (i := 843) (by decide +kernel)⟩
theorem lw_p6 : lw_okq (⟨"QueueTurnsModel", "figures", "(I)Z"⟩, 35) := ⟨⟨by decide +kernel, by decide +kernel⟩, List.mem_of_getElem? (i := 701) (by decide +kernel), List.mem_of_getElem? (i := 846) (by decide +kernel), List.mem_of_getElem? (i := 847) (by decide +kernel)⟩
theorem lw_p7 : lw_okq (⟨"QueueTurnsModel", "copyCries", "(II)V"⟩, 35) := ⟨⟨by decide +kernel, by decide +kernel⟩, List.mem_of_getElem? (i := 701) (by decide +kernel), List.mem_of_getElem? (i := 858) (by decide +kernel), List.mem_of_getElem? (i := 859) (by decide +kernel)⟩
theorem lw_p8 : lw_okq (⟨"QueueTurnsModel", "isPerson", "(I)Z"⟩, 35) := ⟨⟨by decide +kernel, by decide +kernel⟩, List.mem_of_getElem? (i := 701) (by decide +kernel), List.mem_of_getElem? (i := 866) (by decide +kernel), List.mem_of_getElem? (i := 867) (by decide +kernel)⟩
theorem lw_p9 : lw_okq (⟨"QueueTurnsModel", "goAsItIs", "()V"⟩, 35) := ⟨⟨by decide +kernel, by decide +kernel⟩, List.mem_of_getElem? (i := 701) (by decide +kernel), List.mem_of_getElem? (i := 871) (by decide +kernel), List.mem_of_getElem? (i := 872) (by decide +kernel)⟩
theorem lw_p10 : lw_okq (⟨"QueueTurnsModel", "asItIs", "()V"⟩, 35) := ⟨⟨by decide +kernel, by decide +kernel⟩, List.mem_of_getElem? (i := 701) (by decide +kernel), List.mem_of_getElem? (i := 875) (by decide +kernel), List.mem_of_getElem? (i := 876) (by decide +kernel)⟩
theorem lw_p11 : lw_okq (⟨"QueueTurnsModel", "go", "(I)V"⟩, 35) := ⟨⟨by decide +kernel, by decide +kernel⟩, List.mem_of_getElem? (i := 701) (by decide +kernel), List.mem_of_getElem? (i := 879) (by decide +kernel), List.mem_of_getElem? (i := 880) (by decide +kernel)⟩
theorem lw_p12 : lw_okq (⟨"QueueTurnsModel", "end", "(III)V"⟩, 35) := ⟨⟨by decide +kernel, by decide +kernel⟩, List.mem_of_getElem? (i := 701) (by decide +kernel), List.mem_of_getElem? (i := 883) (by decide +kernel), List.mem_of_getElem? (i := 884) (by decide +kernel)⟩
theorem lw_p13 : lw_okq (⟨"QueueTurnsModel", "takeOut", "(I)V"⟩, 35) := ⟨⟨by decide +kernel, by decide +kernel⟩, List.mem_of_getElem? (i := 701) (by decide +kernel), List.mem_of_getElem? (i := 887) (by decide +kernel), List.mem_of_getElem? (i := 888) (by decide +kernel)⟩
theorem lw_p14 : lw_okq (⟨"QueueTurnsModel", "doesCry", "(I)Z"⟩, 35) := ⟨⟨by decide +kernel, by decide +kernel⟩, List.mem_of_getElem? (i := 701) (by decide +kernel), List.mem_of_getElem? (i := 891) (by decide +kernel), List.mem_of_getElem? (i := 892) (by decide +kernel)⟩
theorem lw_p15 : lw_okq (⟨"QueueTurnsModel", "isInLine", "(I)Z"⟩, 35) := ⟨⟨by decide +kernel, by decide +kernel⟩, List.mem_of_getElem? (i := 701) (by decide +kernel), List.mem_of_getElem? (i := 900) (by decide +kernel), List.mem_of_getElem? (i := 901) (by decide +kernel)⟩
def lw_privs_1 : List (MethodName × Nat) := [(⟨"QueueTurns", "isPerson", "(I)Z"⟩, 10), (⟨"QueueTurns", "runAsTold", "()V"⟩, 10), (⟨"QueueTurnsModel", "noMorning", "(I)V"⟩, 35), (⟨"QueueTurnsModel", "readAll", "()I"⟩, 35), (⟨"QueueTurnsModel", "item", "()Z"⟩, 35), (⟨"QueueTurnsModel", "byteAt", "(I)I"⟩, 35), (⟨"QueueTurnsModel", "figures", "(I)Z"⟩, 35), (⟨"QueueTurnsModel", "copyCries", "(II)V"⟩, 35), (⟨"QueueTurnsModel", "isPerson", "(I)Z"⟩, 35), (⟨"QueueTurnsModel", "goAsItIs", "()V"⟩, 35), (⟨"QueueTurnsModel", "asItIs", "()V"⟩, 35), (⟨"QueueTurnsModel", "go", "(I)V"⟩, 35), (⟨"QueueTurnsModel", "end", "(III)V"⟩, 35), (⟨"QueueTurnsModel", "takeOut", "(I)V"⟩, 35), (⟨"QueueTurnsModel", "doesCry", "(I)Z"⟩, 35), (⟨"QueueTurnsModel", "isInLine", "(I)Z"⟩, 35)]
theorem lw_r1 : ∀ q ∈ lw_privs_1, lw_okq q := List.forall_mem_cons.mpr ⟨lw_p0, List.forall_mem_cons.mpr ⟨lw_p1, List.forall_mem_cons.mpr ⟨lw_p2, List.forall_mem_cons.mpr ⟨lw_p3, List.forall_mem_cons.mpr ⟨lw_p4, List.forall_mem_cons.mpr ⟨lw_p5, List.forall_mem_cons.mpr ⟨lw_p6, List.forall_mem_cons.mpr ⟨lw_p7, List.forall_mem_cons.mpr ⟨lw_p8, List.forall_mem_cons.mpr ⟨lw_p9, List.forall_mem_cons.mpr ⟨lw_p10, List.forall_mem_cons.mpr ⟨lw_p11, List.forall_mem_cons.mpr ⟨lw_p12, List.forall_mem_cons.mpr ⟨lw_p13, List.forall_mem_cons.mpr ⟨lw_p14, List.forall_mem_cons.mpr ⟨lw_p15, fun _ h => absurd h List.not_mem_nil⟩⟩⟩⟩⟩⟩⟩⟩⟩⟩⟩⟩⟩⟩⟩⟩
theorem lw_p16 : lw_okq (⟨"QueueTurnsModel", "turnLine", "()V"⟩, 35) := ⟨⟨by decide +kernel, by decide +kernel⟩, List.mem_of_getElem? (i := 701) (by decide +kernel), List.mem_of_getElem? (i := 907) (by decide +kernel), List.mem_of_getElem? (i := 908) (by decide +kernel)⟩
theorem lw_p17 : lw_okq (⟨"QueueTurnsModel", "putIn", "(II)V"⟩, 35) := ⟨⟨by decide +kernel, by decide +kernel⟩, List.mem_of_getElem? (i := 701) (by decide +kernel), List.mem_of_getElem? (i := 911) (by decide +kernel), List.mem_of_getElem? (i := 912) (by decide +kernel)⟩
theorem lw_p18 : lw_okq (⟨"QueueTurnsModel", "howMany", "(I)I"⟩, 35) := ⟨⟨by decide +kernel, by decide +kernel⟩, List.mem_of_getElem? (i := 701) (by decide +kernel), List.mem_of_getElem? (i := 929) (by decide +kernel), List.mem_of_getElem? (i := 930) (by decide +kernel)⟩
theorem lw_p19 : lw_okq (⟨"QueueTurnsModel", "unfair", "()I"⟩, 35) := ⟨⟨by decide +kernel, by decide +kernel⟩, List.mem_of_getElem? (i := 701) (by decide +kernel), List.mem_of_getElem? (i := 933) (by decide +kernel), List.mem_of_getElem? (i := 934) (by decide +kernel)⟩
theorem lw_p20 : lw_okq (⟨"QueueTurnsModel", "gainedOf", "(I)I"⟩, 35) := ⟨⟨by decide +kernel, by decide +kernel⟩, List.mem_of_getElem? (i := 701) (by decide +kernel), List.mem_of_getElem? (i := 941) (by decide +kernel), List.mem_of_getElem? (i := 942) (by decide +kernel)⟩
theorem lw_p21 : lw_okq (⟨"QueueTurnsModel", "timeOf", "(I)I"⟩, 35) := ⟨⟨by decide +kernel, by decide +kernel⟩, List.mem_of_getElem? (i := 701) (by decide +kernel), List.mem_of_getElem? (i := 945) (by decide +kernel), List.mem_of_getElem? (i := 946) (by decide +kernel)⟩
theorem lw_p22 : lw_okq (⟨"QueueTurnsModel", "unfairBy", "(I)I"⟩, 35) := ⟨⟨by decide +kernel, by decide +kernel⟩, List.mem_of_getElem? (i := 701) (by decide +kernel), List.mem_of_getElem? (i := 983) (by decide +kernel), List.mem_of_getElem? (i := 984) (by decide +kernel)⟩
theorem lw_p23 : lw_okq (⟨"QueueTurnsModel", "layMeans", "(II)V"⟩, 35) := ⟨⟨by decide +kernel, by decide +kernel⟩, List.mem_of_getElem? (i := 701) (by decide +kernel), List.mem_of_getElem? (i := 995) (by decide +kernel), List.mem_of_getElem? (i := 996) (by decide +kernel)⟩
theorem lw_p24 : lw_okq (⟨"QueueTurnsModel", "behindOf", "(III)J"⟩, 35) := ⟨⟨by decide +kernel, by decide +kernel⟩, List.mem_of_getElem? (i := 701) (by decide +kernel), List.mem_of_getElem? (i := 999) (by decide +kernel), List.mem_of_getElem? (i := 1000) (by decide +kernel)⟩
theorem lw_p25 : lw_okq (⟨"QueueTurnsModel", "layBy", "(III)V"⟩, 35) := ⟨⟨by decide +kernel, by decide +kernel⟩, List.mem_of_getElem? (i := 701) (by decide +kernel), List.mem_of_getElem? (i := 1013) (by decide +kernel), List.mem_of_getElem? (i := 1014) (by decide +kernel)⟩
theorem lw_p26 : lw_okq (⟨"QueueTurnsModel", "isFit", "(I)Z"⟩, 35) := ⟨⟨by decide +kernel, by decide +kernel⟩, List.mem_of_getElem? (i := 701) (by decide +kernel), List.mem_of_getElem? (i := 1033) (by decide +kernel), List.mem_of_getElem? (i := 1034) (by decide +kernel)⟩
def lw_privs_2 : List (MethodName × Nat) := [(⟨"QueueTurnsModel", "turnLine", "()V"⟩, 35), (⟨"QueueTurnsModel", "putIn", "(II)V"⟩, 35), (⟨"QueueTurnsModel", "howMany", "(I)I"⟩, 35), (⟨"QueueTurnsModel", "unfair", "()I"⟩, 35), (⟨"QueueTurnsModel", "gainedOf", "(I)I"⟩, 35), (⟨"QueueTurnsModel", "timeOf", "(I)I"⟩, 35), (⟨"QueueTurnsModel", "unfairBy", "(I)I"⟩, 35), (⟨"QueueTurnsModel", "layMeans", "(II)V"⟩, 35), (⟨"QueueTurnsModel", "behindOf", "(III)J"⟩, 35), (⟨"QueueTurnsModel", "layBy", "(III)V"⟩, 35), (⟨"QueueTurnsModel", "isFit", "(I)Z"⟩, 35)]
theorem lw_r2 : ∀ q ∈ lw_privs_2, lw_okq q := List.forall_mem_cons.mpr ⟨lw_p16, List.forall_mem_cons.mpr ⟨lw_p17, List.forall_mem_cons.mpr ⟨lw_p18, List.forall_mem_cons.mpr ⟨lw_p19, List.forall_mem_cons.mpr ⟨lw_p20, List.forall_mem_cons.mpr ⟨lw_p21, List.forall_mem_cons.mpr ⟨lw_p22, List.forall_mem_cons.mpr ⟨lw_p23, List.forall_mem_cons.mpr ⟨lw_p24, List.forall_mem_cons.mpr ⟨lw_p25, List.forall_mem_cons.mpr ⟨lw_p26, fun _ h => absurd h List.not_mem_nil⟩⟩⟩⟩⟩⟩⟩⟩⟩⟩⟩
def lw_privs : List (MethodName × Nat) := lw_privs_1 ++ (lw_privs_2)
def lw_tbl : List Cond := k2_sels lw_privs ++ tables_1
theorem lw_privs_ok : ∀ q ∈ lw_privs, lw_okq q := by
  show ∀ q ∈ lw_privs_1 ++ (lw_privs_2), lw_okq q
  exact List.forall_mem_append.mpr ⟨lw_r1, lw_r2⟩

-- names of this text: z..
/-- the words that hold along a run -/
def zAL : List Cond := lw_tbl.filter goodWord
theorem zAL_of {w : Cond} (i : Nat) (h : lw_tbl[i]? = some w) (g : goodWord w = true) : w ∈ zAL := List.mem_filter.mpr ⟨List.mem_of_getElem? h, g⟩
theorem zAL_ws {ws : List Cond} (ps : List Nat) (hp : ws = ps.filterMap (fun i => lw_tbl[i]?)) (h : ws.all goodWord = true) : ∀ w ∈ ws, w ∈ zAL := by
  intro w hw
  have h1 := List.all_eq_true.mp h w hw
  rw [hp] at hw
  obtain ⟨i, -, hi⟩ := List.mem_filterMap.mp hw
  exact zAL_of i hi h1
/-- an instruction at a place, and the place behind it -/
def zD (b : ByteArray) (pc : Nat) (i : Instr) (k n : Nat) : Prop := decode b pc = .ok (i, k) ∧ pc + k = n
/-- a jump: the place behind it, and its target -/
def zJ (b : ByteArray) (pc : Nat) (i : Int → Instr) (n t : Nat) : Prop := ∃ off : Int, decode b pc = .ok (i off, 3) ∧ pc + 3 = n ∧ (pc : Int) + off = (t : Int)

def RX0 : String := "QueueTurns$CryList"
def TX0 : u_T := fun k => match k with
  | 0 => ("QueueTurns$CryList", "who", "[I", true)
  | 1 => ("QueueTurns$CryList", "minute", "[I", true)
  | 2 => ("QueueTurns$CryList", "bitsAt", "[I", true)
  | _ => ("QueueTurns$CryList", "size", "I", false)
def tyX0 : Nat → FieldType := fun k => match k with
  | 0 => .array .int
  | 1 => .array .int
  | 2 => .array .int
  | _ => .int
theorem nmX0 : ∀ a, a < 4 → ∀ b, b < 4 → a ≠ b → (TX0 a).2.1 ≠ (TX0 b).2.1 := by decide +kernel
theorem tyX0_ok : ∀ k, k < 4 → parseFieldDescriptor (TX0 k).2.2.1 = some (tyX0 k) := by decide +kernel
set_option maxRecDepth 100000 in
theorem inX0 : ∀ w ∈ u_ws RX0 TX0 4, w ∈ zAL := zAL_ws [105, 107, 109, 111] (by rfl) (by decide +kernel)
def RX1 : String := "QueueTurns$Morning"
def TX1 : u_T := fun k => match k with
  | 0 => ("QueueTurns$Morning", "how", "[I", true)
  | 1 => ("QueueTurns$Morning", "when", "[I", true)
  | 2 => ("QueueTurns$Morning", "here", "[Z", true)
  | 3 => ("QueueTurns$Morning", "inRow", "[I", true)
  | 4 => ("QueueTurns$Morning", "extraWho", "[I", true)
  | 5 => ("QueueTurns$Morning", "extraMinute", "[I", true)
  | 6 => ("QueueTurns$Morning", "plan", "LQueueTurns$Plan;", false)
  | 7 => ("QueueTurns$Morning", "law", "I", false)
  | 8 => ("QueueTurns$Morning", "hushed", "I", false)
  | 9 => ("QueueTurns$Morning", "draw", "I", false)
  | 10 => ("QueueTurns$Morning", "size", "I", false)
  | 11 => ("QueueTurns$Morning", "came", "I", false)
  | 12 => ("QueueTurns$Morning", "ended", "I", false)
  | 13 => ("QueueTurns$Morning", "loaves", "I", false)
  | 14 => ("QueueTurns$Morning", "turns", "I", false)
  | _ => ("QueueTurns$Morning", "lastTurn", "I", false)
def tyX1 : Nat → FieldType := fun k => match k with
  | 0 => .array .int
  | 1 => .array .int
  | 2 => .array .boolean
  | 3 => .array .int
  | 4 => .array .int
  | 5 => .array .int
  | 6 => .object "QueueTurns$Plan"
  | 7 => .int
  | 8 => .int
  | 9 => .int
  | 10 => .int
  | 11 => .int
  | 12 => .int
  | 13 => .int
  | 14 => .int
  | _ => .int
theorem nmX1 : ∀ a, a < 16 → ∀ b, b < 16 → a ≠ b → (TX1 a).2.1 ≠ (TX1 b).2.1 := by decide +kernel
theorem tyX1_ok : ∀ k, k < 16 → parseFieldDescriptor (TX1 k).2.2.1 = some (tyX1 k) := by decide +kernel
set_option maxRecDepth 100000 in
theorem inX1 : ∀ w ∈ u_ws RX1 TX1 16, w ∈ zAL := zAL_ws [203, 205, 207, 209, 211, 213, 215, 217, 219, 221, 223, 225, 227, 229, 231, 233] (by rfl) (by decide +kernel)
def RX2 : String := "QueueTurns$Names"
def TX2 : u_T := fun k => match k with
  | 0 => ("QueueTurns$Names", "served", "[I", true)
  | 1 => ("QueueTurns$Names", "stood", "[I", true)
  | 2 => ("QueueTurns$Names", "servedMany", "I", false)
  | 3 => ("QueueTurns$Names", "stoodMany", "I", false)
  | 4 => ("QueueTurns$Names", "fitting", "I", false)
  | _ => ("QueueTurns$Names", "lowestFitting", "I", false)
def tyX2 : Nat → FieldType := fun k => match k with
  | 0 => .array .int
  | 1 => .array .int
  | 2 => .int
  | 3 => .int
  | 4 => .int
  | _ => .int
theorem nmX2 : ∀ a, a < 6 → ∀ b, b < 6 → a ≠ b → (TX2 a).2.1 ≠ (TX2 b).2.1 := by decide +kernel
theorem tyX2_ok : ∀ k, k < 6 → parseFieldDescriptor (TX2 k).2.2.1 = some (tyX2 k) := by decide +kernel
set_option maxRecDepth 100000 in
theorem inX2 : ∀ w ∈ u_ws RX2 TX2 6, w ∈ zAL := zAL_ws [300, 302, 304, 306, 308, 310] (by rfl) (by decide +kernel)
def RX3 : String := "QueueTurns$Odds"
def TX3 : u_T := fun k => match k with
  | 0 => ("QueueTurns$Odds", "weight", "[J", true)
  | 1 => ("QueueTurns$Odds", "turned", "[J", true)
  | _ => ("QueueTurns$Odds", "servedAt", "[J", true)
def tyX3 : Nat → FieldType := fun k => match k with
  | 0 => .array .long
  | 1 => .array .long
  | _ => .array .long
theorem nmX3 : ∀ a, a < 3 → ∀ b, b < 3 → a ≠ b → (TX3 a).2.1 ≠ (TX3 b).2.1 := by decide +kernel
theorem tyX3_ok : ∀ k, k < 3 → parseFieldDescriptor (TX3 k).2.2.1 = some (tyX3 k) := by decide +kernel
set_option maxRecDepth 100000 in
theorem inX3 : ∀ w ∈ u_ws RX3 TX3 3, w ∈ zAL := zAL_ws [276, 278, 280] (by rfl) (by decide +kernel)
def RX4 : String := "QueueTurns$Plan"
def TX4 : u_T := fun k => match k with
  | 0 => ("QueueTurns$Plan", "comes", "[I", true)
  | 1 => ("QueueTurns$Plan", "child", "[I", true)
  | 2 => ("QueueTurns$Plan", "waits", "[I", true)
  | 3 => ("QueueTurns$Plan", "order", "[I", true)
  | 4 => ("QueueTurns$Plan", "cries", "LQueueTurns$CryList;", true)
  | 5 => ("QueueTurns$Plan", "persons", "I", false)
  | 6 => ("QueueTurns$Plan", "quiet", "I", false)
  | 7 => ("QueueTurns$Plan", "atOnce", "I", false)
  | 8 => ("QueueTurns$Plan", "every", "I", false)
  | 9 => ("QueueTurns$Plan", "loaves", "I", false)
  | _ => ("QueueTurns$Plan", "law", "I", false)
def tyX4 : Nat → FieldType := fun k => match k with
  | 0 => .array .int
  | 1 => .array .int
  | 2 => .array .int
  | 3 => .array .int
  | 4 => .object "QueueTurns$CryList"
  | 5 => .int
  | 6 => .int
  | 7 => .int
  | 8 => .int
  | 9 => .int
  | _ => .int
theorem nmX4 : ∀ a, a < 11 → ∀ b, b < 11 → a ≠ b → (TX4 a).2.1 ≠ (TX4 b).2.1 := by decide +kernel
theorem tyX4_ok : ∀ k, k < 11 → parseFieldDescriptor (TX4 k).2.2.1 = some (tyX4 k) := by decide +kernel
set_option maxRecDepth 100000 in
theorem inX4 : ∀ w ∈ u_ws RX4 TX4 11, w ∈ zAL := zAL_ws [156, 158, 160, 162, 164, 166, 168, 170, 172, 174, 176] (by rfl) (by decide +kernel)
def RX5 : String := "QueueTurns$Study"
def TX5 : u_T := fun k => match k with
  | 0 => ("QueueTurns$Study", "morning", "LQueueTurns$Morning;", true)
  | 1 => ("QueueTurns$Study", "timesOfI", "[I", true)
  | 2 => ("QueueTurns$Study", "timesOfJ", "[I", true)
  | 3 => ("QueueTurns$Study", "bestMinute", "I", false)
  | 4 => ("QueueTurns$Study", "worth", "I", false)
  | 5 => ("QueueTurns$Study", "rests", "I", false)
  | 6 => ("QueueTurns$Study", "firstOfI", "I", false)
  | _ => ("QueueTurns$Study", "firstOfJ", "I", false)
def tyX5 : Nat → FieldType := fun k => match k with
  | 0 => .object "QueueTurns$Morning"
  | 1 => .array .int
  | 2 => .array .int
  | 3 => .int
  | 4 => .int
  | 5 => .int
  | 6 => .int
  | _ => .int
theorem nmX5 : ∀ a, a < 8 → ∀ b, b < 8 → a ≠ b → (TX5 a).2.1 ≠ (TX5 b).2.1 := by decide +kernel
theorem tyX5_ok : ∀ k, k < 8 → parseFieldDescriptor (TX5 k).2.2.1 = some (tyX5 k) := by decide +kernel
set_option maxRecDepth 100000 in
theorem inX5 : ∀ w ∈ u_ws RX5 TX5 8, w ∈ zAL := zAL_ws [250, 252, 254, 256, 258, 260, 262, 264] (by rfl) (by decide +kernel)
def RX6 : String := "QueueTurns$Text"
def TX6 : u_T := fun k => match k with
  | 0 => ("QueueTurns$Text", "bytes", "[B", true)
  | 1 => ("QueueTurns$Text", "numbers", "[I", true)
  | 2 => ("QueueTurns$Text", "length", "I", false)
  | _ => ("QueueTurns$Text", "at", "I", false)
def tyX6 : Nat → FieldType := fun k => match k with
  | 0 => .array .byte
  | 1 => .array .int
  | 2 => .int
  | _ => .int
theorem nmX6 : ∀ a, a < 4 → ∀ b, b < 4 → a ≠ b → (TX6 a).2.1 ≠ (TX6 b).2.1 := by decide +kernel
theorem tyX6_ok : ∀ k, k < 4 → parseFieldDescriptor (TX6 k).2.2.1 = some (tyX6 k) := by decide +kernel
set_option maxRecDepth 100000 in
theorem inX6 : ∀ w ∈ u_ws RX6 TX6 4, w ∈ zAL := zAL_ws [58, 60, 62, 64] (by rfl) (by decide +kernel)
def RX7 : String := "QueueTurns"
def TX7 : u_T := fun k => match k with
  | 0 => ("QueueTurns", "text", "LQueueTurns$Text;", true)
  | 1 => ("QueueTurns", "study", "LQueueTurns$Study;", true)
  | 2 => ("QueueTurns", "morning", "LQueueTurns$Morning;", true)
  | 3 => ("QueueTurns", "odds", "LQueueTurns$Odds;", true)
  | 4 => ("QueueTurns", "names", "LQueueTurns$Names;", true)
  | 5 => ("QueueTurns", "kept", "[LQueueTurns$CryList;", true)
  | 6 => ("QueueTurns", "keptMany", "I", false)
  | 7 => ("QueueTurns", "laid", "LQueueTurns$Plan;", false)
  | 8 => ("QueueTurns", "spare", "LQueueTurns$Plan;", false)
  | _ => ("QueueTurns", "fixedCries", "I", false)
def tyX7 : Nat → FieldType := fun k => match k with
  | 0 => .object "QueueTurns$Text"
  | 1 => .object "QueueTurns$Study"
  | 2 => .object "QueueTurns$Morning"
  | 3 => .object "QueueTurns$Odds"
  | 4 => .object "QueueTurns$Names"
  | 5 => .array (.object "QueueTurns$CryList")
  | 6 => .int
  | 7 => .object "QueueTurns$Plan"
  | 8 => .object "QueueTurns$Plan"
  | _ => .int
theorem nmX7 : ∀ a, a < 10 → ∀ b, b < 10 → a ≠ b → (TX7 a).2.1 ≠ (TX7 b).2.1 := by decide +kernel
theorem tyX7_ok : ∀ k, k < 10 → parseFieldDescriptor (TX7 k).2.2.1 = some (tyX7 k) := by decide +kernel
set_option maxRecDepth 100000 in
theorem inX7 : ∀ w ∈ u_ws RX7 TX7 10, w ∈ zAL := zAL_ws [340, 342, 344, 346, 348, 350, 352, 354, 356, 358] (by rfl) (by decide +kernel)
def RX8 : String := "QueueTurnsModel"
def TX8 : u_T := fun k => match k with
  | 0 => ("QueueTurnsModel", "length", "I", false)
  | 1 => ("QueueTurnsModel", "text", "[I", true)
  | 2 => ("QueueTurnsModel", "many", "[I", true)
  | 3 => ("QueueTurnsModel", "comes", "[I", true)
  | 4 => ("QueueTurnsModel", "hasChild", "[I", true)
  | 5 => ("QueueTurnsModel", "waits", "[I", true)
  | 6 => ("QueueTurnsModel", "quiet", "[I", true)
  | 7 => ("QueueTurnsModel", "serves", "[I", true)
  | 8 => ("QueueTurnsModel", "each", "[I", true)
  | 9 => ("QueueTurnsModel", "loaves", "[I", true)
  | 10 => ("QueueTurnsModel", "law", "[I", true)
  | 11 => ("QueueTurnsModel", "cryMany", "[I", true)
  | 12 => ("QueueTurnsModel", "cryOf", "[I", true)
  | 13 => ("QueueTurnsModel", "cryAt", "[I", true)
  | 14 => ("QueueTurnsModel", "keptMany", "I", false)
  | 15 => ("QueueTurnsModel", "toldMany", "I", false)
  | 16 => ("QueueTurnsModel", "nameMany", "[I", true)
  | 17 => ("QueueTurnsModel", "names", "[I", true)
  | 18 => ("QueueTurnsModel", "place", "I", false)
  | 19 => ("QueueTurnsModel", "told", "[I", true)
  | 20 => ("QueueTurnsModel", "heard", "I", false)
  | 21 => ("QueueTurnsModel", "moreOne", "I", false)
  | 22 => ("QueueTurnsModel", "moreOneAt", "I", false)
  | 23 => ("QueueTurnsModel", "moreTwo", "I", false)
  | 24 => ("QueueTurnsModel", "moreTwoAt", "I", false)
  | 25 => ("QueueTurnsModel", "byLaw", "I", false)
  | 26 => ("QueueTurnsModel", "byDraw", "I", false)
  | 27 => ("QueueTurnsModel", "line", "[I", true)
  | 28 => ("QueueTurnsModel", "lineMany", "I", false)
  | 29 => ("QueueTurnsModel", "how", "[I", true)
  | 30 => ("QueueTurnsModel", "when", "[I", true)
  | 31 => ("QueueTurnsModel", "turns", "I", false)
  | 32 => ("QueueTurnsModel", "timeOne", "[I", true)
  | 33 => ("QueueTurnsModel", "timeTwo", "[I", true)
  | _ => ("QueueTurnsModel", "sums", "[J", true)
def tyX8 : Nat → FieldType := fun k => match k with
  | 0 => .int
  | 1 => .array .int
  | 2 => .array .int
  | 3 => .array .int
  | 4 => .array .int
  | 5 => .array .int
  | 6 => .array .int
  | 7 => .array .int
  | 8 => .array .int
  | 9 => .array .int
  | 10 => .array .int
  | 11 => .array .int
  | 12 => .array .int
  | 13 => .array .int
  | 14 => .int
  | 15 => .int
  | 16 => .array .int
  | 17 => .array .int
  | 18 => .int
  | 19 => .array .int
  | 20 => .int
  | 21 => .int
  | 22 => .int
  | 23 => .int
  | 24 => .int
  | 25 => .int
  | 26 => .int
  | 27 => .array .int
  | 28 => .int
  | 29 => .array .int
  | 30 => .array .int
  | 31 => .int
  | 32 => .array .int
  | 33 => .array .int
  | _ => .array .long
theorem nmX8 : ∀ a, a < 35 → ∀ b, b < 35 → a ≠ b → (TX8 a).2.1 ≠ (TX8 b).2.1 := by decide +kernel
theorem tyX8_ok : ∀ k, k < 35 → parseFieldDescriptor (TX8 k).2.2.1 = some (tyX8 k) := by decide +kernel
set_option maxRecDepth 100000 in
theorem inX8 : ∀ w ∈ u_ws RX8 TX8 35, w ∈ zAL := zAL_ws [772, 774, 776, 778, 780, 782, 784, 786, 788, 790, 792, 794, 796, 798, 800, 802, 804, 806, 808, 810, 812, 814, 816, 818, 820, 822, 824, 826, 828, 830, 832, 834, 836, 838, 840] (by rfl) (by decide +kernel)
def RL : String := "QueueTurnsLaw"
def RJ6 : String := "java/lang/Integer"
def RJ9 : String := "java/lang/Math"
abbrev vwCl : List vw_C := [(RX0, TX0, 4), (RX1, TX1, 16), (RX2, TX2, 6), (RX3, TX3, 3), (RX4, TX4, 11), (RX5, TX5, 8), (RX6, TX6, 4), (RX7, TX7, 10), (RX8, TX8, 35)]
abbrev cX0_init : ByteArray := prog_2_method_1_code
def yX0_init : MethodName := ⟨RX0, "<init>", "()V"⟩
abbrev cX0_add : ByteArray := prog_2_method_2_code
def yX0_add : MethodName := ⟨RX0, "add", "(II)Z"⟩
abbrev cX0_dropLast : ByteArray := prog_2_method_3_code
def yX0_dropLast : MethodName := ⟨RX0, "dropLast", "()V"⟩
abbrev cX0_clear : ByteArray := prog_2_method_4_code
def yX0_clear : MethodName := ⟨RX0, "clear", "()V"⟩
abbrev cX0_copyFrom : ByteArray := prog_2_method_5_code
def yX0_copyFrom : MethodName := ⟨RX0, "copyFrom", "(LQueueTurns$CryList;)V"⟩
abbrev cX1_init : ByteArray := prog_3_method_1_code
def yX1_init : MethodName := ⟨RX1, "<init>", "()V"⟩
abbrev cX1_asTold : ByteArray := prog_3_method_2_code
def yX1_asTold : MethodName := ⟨RX1, "asTold", "(LQueueTurns$Plan;)V"⟩
abbrev cX1_addExtra : ByteArray := prog_3_method_3_code
def yX1_addExtra : MethodName := ⟨RX1, "addExtra", "(III)V"⟩
abbrev cX1_runTo : ByteArray := prog_3_method_4_code
def yX1_runTo : MethodName := ⟨RX1, "runTo", "(I)V"⟩
abbrev cX1_begin : ByteArray := prog_3_method_5_code
def yX1_begin : MethodName := ⟨RX1, "begin", "()V"⟩
abbrev cX1_letGoAway : ByteArray := prog_3_method_6_code
def yX1_letGoAway : MethodName := ⟨RX1, "letGoAway", "(I)V"⟩
abbrev cX1_isToldCry : ByteArray := prog_3_method_7_code
def yX1_isToldCry : MethodName := ⟨RX1, "isToldCry", "(I)Z"⟩
abbrev cX1_isExtraCry : ByteArray := prog_3_method_8_code
def yX1_isExtraCry : MethodName := ⟨RX1, "isExtraCry", "(I)Z"⟩
abbrev cX1_isDrawnCry : ByteArray := prog_3_method_9_code
def yX1_isDrawnCry : MethodName := ⟨RX1, "isDrawnCry", "(I)Z"⟩
abbrev cX1_isDrawn : ByteArray := prog_3_method_10_code
def yX1_isDrawn : MethodName := ⟨RX1, "isDrawn", "(II)Z"⟩
abbrev cX1_turn : ByteArray := prog_3_method_11_code
def yX1_turn : MethodName := ⟨RX1, "turn", "(I)V"⟩
abbrev cX1_letCome : ByteArray := prog_3_method_12_code
def yX1_letCome : MethodName := ⟨RX1, "letCome", "(I)V"⟩
abbrev cX1_join : ByteArray := prog_3_method_13_code
def yX1_join : MethodName := ⟨RX1, "join", "(I)V"⟩
abbrev cX1_serve : ByteArray := prog_3_method_14_code
def yX1_serve : MethodName := ⟨RX1, "serve", "(I)V"⟩
abbrev cX1_sendHome : ByteArray := prog_3_method_15_code
def yX1_sendHome : MethodName := ⟨RX1, "sendHome", "(I)V"⟩
abbrev cX1_end : ByteArray := prog_3_method_16_code
def yX1_end : MethodName := ⟨RX1, "end", "(III)V"⟩
abbrev cX1_placeOf : ByteArray := prog_3_method_17_code
def yX1_placeOf : MethodName := ⟨RX1, "placeOf", "(I)I"⟩
abbrev cX1_manyOf : ByteArray := prog_3_method_18_code
def yX1_manyOf : MethodName := ⟨RX1, "manyOf", "(I)I"⟩
abbrev cX1_timeOf : ByteArray := prog_3_method_19_code
def yX1_timeOf : MethodName := ⟨RX1, "timeOf", "(I)I"⟩
abbrev cX1_unfair : ByteArray := prog_3_method_20_code
def yX1_unfair : MethodName := ⟨RX1, "unfair", "()I"⟩
abbrev cX2_init : ByteArray := prog_4_method_1_code
def yX2_init : MethodName := ⟨RX2, "<init>", "()V"⟩
abbrev cX2_manyIn : ByteArray := prog_4_method_2_code
def yX2_manyIn : MethodName := ⟨RX2, "manyIn", "(I)I"⟩
abbrev cX2_isIn : ByteArray := prog_4_method_3_code
def yX2_isIn : MethodName := ⟨RX2, "isIn", "(II)Z"⟩
abbrev cX2_add : ByteArray := prog_4_method_4_code
def yX2_add : MethodName := ⟨RX2, "add", "(II)V"⟩
abbrev cX2_forget : ByteArray := prog_4_method_5_code
def yX2_forget : MethodName := ⟨RX2, "forget", "()V"⟩
abbrev cX2_findTurns : ByteArray := prog_4_method_6_code
def yX2_findTurns : MethodName := ⟨RX2, "findTurns", "()V"⟩
abbrev cX2_isFitting : ByteArray := prog_4_method_7_code
def yX2_isFitting : MethodName := ⟨RX2, "isFitting", "(I)Z"⟩
abbrev cX3_init : ByteArray := prog_5_method_1_code
def yX3_init : MethodName := ⟨RX3, "<init>", "()V"⟩
abbrev cX3_findChances : ByteArray := prog_5_method_2_code
def yX3_findChances : MethodName := ⟨RX3, "findChances", "(III)V"⟩
abbrev cX3_meanAbove : ByteArray := prog_5_method_3_code
def yX3_meanAbove : MethodName := ⟨RX3, "meanAbove", "(III)J"⟩
abbrev cX3_chanceAbove : ByteArray := prog_5_method_4_code
def yX3_chanceAbove : MethodName := ⟨RX3, "chanceAbove", "(IIII)J"⟩
abbrev cX3_lowest : ByteArray := prog_5_method_5_code
def yX3_lowest : MethodName := ⟨RX3, "lowest", "(JI)J"⟩
abbrev cX3_bestPlace : ByteArray := prog_5_method_6_code
def yX3_bestPlace : MethodName := ⟨RX3, "bestPlace", "(II)I"⟩
abbrev cX3_bestEnd : ByteArray := prog_5_method_7_code
def yX3_bestEnd : MethodName := ⟨RX3, "bestEnd", "(II)I"⟩
abbrev cX4_init : ByteArray := prog_6_method_1_code
def yX4_init : MethodName := ⟨RX4, "<init>", "()V"⟩
abbrev cX4_clear : ByteArray := prog_6_method_2_code
def yX4_clear : MethodName := ⟨RX4, "clear", "()V"⟩
abbrev cX4_isTold : ByteArray := prog_6_method_3_code
def yX4_isTold : MethodName := ⟨RX4, "isTold", "(I)Z"⟩
abbrev cX4_hasChild : ByteArray := prog_6_method_4_code
def yX4_hasChild : MethodName := ⟨RX4, "hasChild", "(I)Z"⟩
abbrev cX4_take : ByteArray := prog_6_method_5_code
def yX4_take : MethodName := ⟨RX4, "take", "(IIII)Z"⟩
abbrev cX4_addPerson : ByteArray := prog_6_method_6_code
def yX4_addPerson : MethodName := ⟨RX4, "addPerson", "(III)Z"⟩
abbrev cX4_addCry : ByteArray := prog_6_method_7_code
def yX4_addCry : MethodName := ⟨RX4, "addCry", "(II)Z"⟩
abbrev cX4_setService : ByteArray := prog_6_method_8_code
def yX4_setService : MethodName := ⟨RX4, "setService", "(II)Z"⟩
abbrev cX5_init : ByteArray := prog_7_method_1_code
def yX5_init : MethodName := ⟨RX5, "<init>", "()V"⟩
abbrev cX5_timeWithout : ByteArray := prog_7_method_2_code
def yX5_timeWithout : MethodName := ⟨RX5, "timeWithout", "(LQueueTurns$Plan;II)I"⟩
abbrev cX5_gainedBy : ByteArray := prog_7_method_3_code
def yX5_gainedBy : MethodName := ⟨RX5, "gainedBy", "(LQueueTurns$Plan;I)I"⟩
abbrev cX5_mostGained : ByteArray := prog_7_method_4_code
def yX5_mostGained : MethodName := ⟨RX5, "mostGained", "(LQueueTurns$Plan;)I"⟩
abbrev cX5_fewestHushed : ByteArray := prog_7_method_5_code
def yX5_fewestHushed : MethodName := ⟨RX5, "fewestHushed", "(LQueueTurns$Plan;II)I"⟩
abbrev cX5_isServedBy : ByteArray := prog_7_method_6_code
def yX5_isServedBy : MethodName := ⟨RX5, "isServedBy", "(LQueueTurns$Plan;III)Z"⟩
abbrev cX5_cryOnceMore : ByteArray := prog_7_method_7_code
def yX5_cryOnceMore : MethodName := ⟨RX5, "cryOnceMore", "(LQueueTurns$Plan;I)V"⟩
abbrev cX5_play : ByteArray := prog_7_method_8_code
def yX5_play : MethodName := ⟨RX5, "play", "(LQueueTurns$Plan;II)V"⟩
abbrev cX5_isRest : ByteArray := prog_7_method_9_code
def yX5_isRest : MethodName := ⟨RX5, "isRest", "(II)Z"⟩
abbrev cX5_unfairBy : ByteArray := prog_7_method_10_code
def yX5_unfairBy : MethodName := ⟨RX5, "unfairBy", "(LQueueTurns$Plan;I)I"⟩
abbrev cX5_bestLaw : ByteArray := prog_7_method_11_code
def yX5_bestLaw : MethodName := ⟨RX5, "bestLaw", "(LQueueTurns$Plan;)I"⟩
abbrev cX6_init : ByteArray := prog_8_method_1_code
def yX6_init : MethodName := ⟨RX6, "<init>", "()V"⟩
abbrev cX6_append : ByteArray := prog_8_method_2_code
def yX6_append : MethodName := ⟨RX6, "append", "(B)V"⟩
abbrev cX6_readInto : ByteArray := prog_8_method_3_code
def yX6_readInto : MethodName := ⟨RX6, "readInto", "(LQueueTurns$Plan;)I"⟩
abbrev cX6_readItem : ByteArray := prog_8_method_4_code
def yX6_readItem : MethodName := ⟨RX6, "readItem", "(LQueueTurns$Plan;)Z"⟩
abbrev cX6_numbersOf : ByteArray := prog_8_method_5_code
def yX6_numbersOf : MethodName := ⟨RX6, "numbersOf", "(I)I"⟩
abbrev cX6_readNumbers : ByteArray := prog_8_method_6_code
def yX6_readNumbers : MethodName := ⟨RX6, "readNumbers", "(I)Z"⟩
abbrev cX6_readNumber : ByteArray := prog_8_method_7_code
def yX6_readNumber : MethodName := ⟨RX6, "readNumber", "()I"⟩
abbrev cX6_figureAt : ByteArray := prog_8_method_8_code
def yX6_figureAt : MethodName := ⟨RX6, "figureAt", "()I"⟩
abbrev cX6_nextByte : ByteArray := prog_8_method_9_code
def yX6_nextByte : MethodName := ⟨RX6, "nextByte", "()I"⟩
abbrev cX7_init : ByteArray := prog_1_method_1_code
def yX7_init : MethodName := ⟨RX7, "<init>", "()V"⟩
abbrev cX7_write : ByteArray := prog_1_method_2_code
def yX7_write : MethodName := ⟨RX7, "write", "(IJ)I"⟩
abbrev cX7_wipe : ByteArray := prog_1_method_3_code
def yX7_wipe : MethodName := ⟨RX7, "wipe", "()I"⟩
abbrev cX7_fault : ByteArray := prog_1_method_4_code
def yX7_fault : MethodName := ⟨RX7, "fault", "()I"⟩
abbrev cX7_lay : ByteArray := prog_1_method_5_code
def yX7_lay : MethodName := ⟨RX7, "lay", "()I"⟩
abbrev cX7_person : ByteArray := prog_1_method_6_code
def yX7_person : MethodName := ⟨RX7, "person", "(II)I"⟩
abbrev cX7_place : ByteArray := prog_1_method_7_code
def yX7_place : MethodName := ⟨RX7, "place", "(II)I"⟩
abbrev cX7_row : ByteArray := prog_1_method_8_code
def yX7_row : MethodName := ⟨RX7, "row", "(I)I"⟩
abbrev cX7_all : ByteArray := prog_1_method_9_code
def yX7_all : MethodName := ⟨RX7, "all", "(I)I"⟩
abbrev cX7_cry : ByteArray := prog_1_method_10_code
def yX7_cry : MethodName := ⟨RX7, "cry", "(II)I"⟩
abbrev cX7_suspect : ByteArray := prog_1_method_11_code
def yX7_suspect : MethodName := ⟨RX7, "suspect", "()I"⟩
abbrev cX7_tell : ByteArray := prog_1_method_12_code
def yX7_tell : MethodName := ⟨RX7, "tell", "(II)I"⟩
abbrev cX7_takeBack : ByteArray := prog_1_method_13_code
def yX7_takeBack : MethodName := ⟨RX7, "takeBack", "()I"⟩
abbrev cX7_hush : ByteArray := prog_1_method_14_code
def yX7_hush : MethodName := ⟨RX7, "hush", "(II)I"⟩
abbrev cX7_again : ByteArray := prog_1_method_15_code
def yX7_again : MethodName := ⟨RX7, "again", "(II)I"⟩
abbrev cX7_game : ByteArray := prog_1_method_16_code
def yX7_game : MethodName := ⟨RX7, "game", "(III)I"⟩
abbrev cX7_laws : ByteArray := prog_1_method_17_code
def yX7_laws : MethodName := ⟨RX7, "laws", "(I)I"⟩
abbrev cX7_mean : ByteArray := prog_1_method_18_code
def yX7_mean : MethodName := ⟨RX7, "mean", "(IIII)J"⟩
abbrev cX7_by : ByteArray := prog_1_method_19_code
def yX7_by : MethodName := ⟨RX7, "by", "(IIIII)J"⟩
abbrev cX7_best : ByteArray := prog_1_method_20_code
def yX7_best : MethodName := ⟨RX7, "best", "(III)I"⟩
abbrev cX7_name : ByteArray := prog_1_method_21_code
def yX7_name : MethodName := ⟨RX7, "name", "(II)I"⟩
abbrev cX7_noNames : ByteArray := prog_1_method_22_code
def yX7_noNames : MethodName := ⟨RX7, "noNames", "()I"⟩
abbrev cX7_fits : ByteArray := prog_1_method_23_code
def yX7_fits : MethodName := ⟨RX7, "fits", "(I)I"⟩
abbrev cX7_drawn : ByteArray := prog_1_method_24_code
def yX7_drawn : MethodName := ⟨RX7, "drawn", "(II)I"⟩
abbrev cX7_keep : ByteArray := prog_1_method_25_code
def yX7_keep : MethodName := ⟨RX7, "keep", "()I"⟩
abbrev cX7_back : ByteArray := prog_1_method_26_code
def yX7_back : MethodName := ⟨RX7, "back", "()I"⟩
abbrev cX7_count : ByteArray := prog_1_method_27_code
def yX7_count : MethodName := ⟨RX7, "count", "(I)I"⟩
abbrev cX7_isPerson : ByteArray := prog_1_method_28_code
def yX7_isPerson : MethodName := ⟨RX7, "isPerson", "(I)Z"⟩
abbrev cX7_isMinute : ByteArray := prog_1_method_29_code
def yX7_isMinute : MethodName := ⟨RX7, "isMinute", "(I)Z"⟩
abbrev cX7_areOdds : ByteArray := prog_1_method_30_code
def yX7_areOdds : MethodName := ⟨RX7, "areOdds", "(II)Z"⟩
abbrev cX7_runAsTold : ByteArray := prog_1_method_31_code
def yX7_runAsTold : MethodName := ⟨RX7, "runAsTold", "()V"⟩
abbrev cX8_init : ByteArray := prog_10_method_1_code
def yX8_init : MethodName := ⟨RX8, "<init>", "()V"⟩
abbrev cX8_in : ByteArray := prog_10_method_2_code
def yX8_in : MethodName := ⟨RX8, "in", "(JJJ)Z"⟩
abbrev cX8_has : ByteArray := prog_10_method_3_code
def yX8_has : MethodName := ⟨RX8, "has", "(II)Z"⟩
abbrev cX8_noMorning : ByteArray := prog_10_method_4_code
def yX8_noMorning : MethodName := ⟨RX8, "noMorning", "(I)V"⟩
abbrev cX8_write : ByteArray := prog_10_method_5_code
def yX8_write : MethodName := ⟨RX8, "write", "(IJ)I"⟩
abbrev cX8_wipe : ByteArray := prog_10_method_6_code
def yX8_wipe : MethodName := ⟨RX8, "wipe", "()I"⟩
abbrev cX8_byteAt : ByteArray := prog_10_method_7_code
def yX8_byteAt : MethodName := ⟨RX8, "byteAt", "(I)I"⟩
abbrev cX8_figures : ByteArray := prog_10_method_8_code
def yX8_figures : MethodName := ⟨RX8, "figures", "(I)Z"⟩
abbrev cX8_item : ByteArray := prog_10_method_9_code
def yX8_item : MethodName := ⟨RX8, "item", "()Z"⟩
abbrev cX8_readAll : ByteArray := prog_10_method_10_code
def yX8_readAll : MethodName := ⟨RX8, "readAll", "()I"⟩
abbrev cX8_fault : ByteArray := prog_10_method_11_code
def yX8_fault : MethodName := ⟨RX8, "fault", "()I"⟩
abbrev cX8_copyCries : ByteArray := prog_10_method_12_code
def yX8_copyCries : MethodName := ⟨RX8, "copyCries", "(II)V"⟩
abbrev cX8_lay : ByteArray := prog_10_method_13_code
def yX8_lay : MethodName := ⟨RX8, "lay", "()I"⟩
abbrev cX8_isPerson : ByteArray := prog_10_method_14_code
def yX8_isPerson : MethodName := ⟨RX8, "isPerson", "(I)Z"⟩
abbrev cX8_asItIs : ByteArray := prog_10_method_15_code
def yX8_asItIs : MethodName := ⟨RX8, "asItIs", "()V"⟩
abbrev cX8_isInLine : ByteArray := prog_10_method_16_code
def yX8_isInLine : MethodName := ⟨RX8, "isInLine", "(I)Z"⟩
abbrev cX8_takeOut : ByteArray := prog_10_method_17_code
def yX8_takeOut : MethodName := ⟨RX8, "takeOut", "(I)V"⟩
abbrev cX8_putIn : ByteArray := prog_10_method_18_code
def yX8_putIn : MethodName := ⟨RX8, "putIn", "(II)V"⟩
abbrev cX8_doesCry : ByteArray := prog_10_method_19_code
def yX8_doesCry : MethodName := ⟨RX8, "doesCry", "(I)Z"⟩
abbrev cX8_turnLine : ByteArray := prog_10_method_20_code
def yX8_turnLine : MethodName := ⟨RX8, "turnLine", "()V"⟩
abbrev cX8_end : ByteArray := prog_10_method_21_code
def yX8_end : MethodName := ⟨RX8, "end", "(III)V"⟩
abbrev cX8_go : ByteArray := prog_10_method_22_code
def yX8_go : MethodName := ⟨RX8, "go", "(I)V"⟩
abbrev cX8_goAsItIs : ByteArray := prog_10_method_23_code
def yX8_goAsItIs : MethodName := ⟨RX8, "goAsItIs", "()V"⟩
abbrev cX8_timeOf : ByteArray := prog_10_method_24_code
def yX8_timeOf : MethodName := ⟨RX8, "timeOf", "(I)I"⟩
abbrev cX8_unfair : ByteArray := prog_10_method_25_code
def yX8_unfair : MethodName := ⟨RX8, "unfair", "()I"⟩
abbrev cX8_howMany : ByteArray := prog_10_method_26_code
def yX8_howMany : MethodName := ⟨RX8, "howMany", "(I)I"⟩
abbrev cX8_person : ByteArray := prog_10_method_27_code
def yX8_person : MethodName := ⟨RX8, "person", "(II)I"⟩
abbrev cX8_place : ByteArray := prog_10_method_28_code
def yX8_place : MethodName := ⟨RX8, "place", "(II)I"⟩
abbrev cX8_row : ByteArray := prog_10_method_29_code
def yX8_row : MethodName := ⟨RX8, "row", "(I)I"⟩
abbrev cX8_all : ByteArray := prog_10_method_30_code
def yX8_all : MethodName := ⟨RX8, "all", "(I)I"⟩
abbrev cX8_gainedOf : ByteArray := prog_10_method_31_code
def yX8_gainedOf : MethodName := ⟨RX8, "gainedOf", "(I)I"⟩
abbrev cX8_cry : ByteArray := prog_10_method_32_code
def yX8_cry : MethodName := ⟨RX8, "cry", "(II)I"⟩
abbrev cX8_suspect : ByteArray := prog_10_method_33_code
def yX8_suspect : MethodName := ⟨RX8, "suspect", "()I"⟩
abbrev cX8_tell : ByteArray := prog_10_method_34_code
def yX8_tell : MethodName := ⟨RX8, "tell", "(II)I"⟩
abbrev cX8_takeBack : ByteArray := prog_10_method_35_code
def yX8_takeBack : MethodName := ⟨RX8, "takeBack", "()I"⟩
abbrev cX8_ones : ByteArray := prog_10_method_36_code
def yX8_ones : MethodName := ⟨RX8, "ones", "(I)I"⟩
abbrev cX8_hush : ByteArray := prog_10_method_37_code
def yX8_hush : MethodName := ⟨RX8, "hush", "(II)I"⟩
abbrev cX8_again : ByteArray := prog_10_method_38_code
def yX8_again : MethodName := ⟨RX8, "again", "(II)I"⟩
abbrev cX8_game : ByteArray := prog_10_method_39_code
def yX8_game : MethodName := ⟨RX8, "game", "(III)I"⟩
abbrev cX8_unfairBy : ByteArray := prog_10_method_40_code
def yX8_unfairBy : MethodName := ⟨RX8, "unfairBy", "(I)I"⟩
abbrev cX8_laws : ByteArray := prog_10_method_41_code
def yX8_laws : MethodName := ⟨RX8, "laws", "(I)I"⟩
abbrev cX8_tens : ByteArray := prog_10_method_42_code
def yX8_tens : MethodName := ⟨RX8, "tens", "(I)J"⟩
abbrev cX8_behindOf : ByteArray := prog_10_method_43_code
def yX8_behindOf : MethodName := ⟨RX8, "behindOf", "(III)J"⟩
abbrev cX8_layMeans : ByteArray := prog_10_method_44_code
def yX8_layMeans : MethodName := ⟨RX8, "layMeans", "(II)V"⟩
abbrev cX8_layBy : ByteArray := prog_10_method_45_code
def yX8_layBy : MethodName := ⟨RX8, "layBy", "(III)V"⟩
abbrev cX8_lowest : ByteArray := prog_10_method_46_code
def yX8_lowest : MethodName := ⟨RX8, "lowest", "(JJI)J"⟩
abbrev cX8_areOf : ByteArray := prog_10_method_47_code
def yX8_areOf : MethodName := ⟨RX8, "areOf", "(II)Z"⟩
abbrev cX8_mean : ByteArray := prog_10_method_48_code
def yX8_mean : MethodName := ⟨RX8, "mean", "(IIII)J"⟩
abbrev cX8_by : ByteArray := prog_10_method_49_code
def yX8_by : MethodName := ⟨RX8, "by", "(IIIII)J"⟩
abbrev cX8_best : ByteArray := prog_10_method_50_code
def yX8_best : MethodName := ⟨RX8, "best", "(III)I"⟩
abbrev cX8_name : ByteArray := prog_10_method_51_code
def yX8_name : MethodName := ⟨RX8, "name", "(II)I"⟩
abbrev cX8_noNames : ByteArray := prog_10_method_52_code
def yX8_noNames : MethodName := ⟨RX8, "noNames", "()I"⟩
abbrev cX8_isFit : ByteArray := prog_10_method_53_code
def yX8_isFit : MethodName := ⟨RX8, "isFit", "(I)Z"⟩
abbrev cX8_fits : ByteArray := prog_10_method_54_code
def yX8_fits : MethodName := ⟨RX8, "fits", "(I)I"⟩
abbrev cX8_drawn : ByteArray := prog_10_method_55_code
def yX8_drawn : MethodName := ⟨RX8, "drawn", "(II)I"⟩
abbrev cX8_keep : ByteArray := prog_10_method_56_code
def yX8_keep : MethodName := ⟨RX8, "keep", "()I"⟩
abbrev cX8_back : ByteArray := prog_10_method_57_code
def yX8_back : MethodName := ⟨RX8, "back", "()I"⟩
abbrev cX8_count : ByteArray := prog_10_method_58_code
def yX8_count : MethodName := ⟨RX8, "count", "(I)I"⟩
abbrev cJ6_bitCount_0f7a4 : ByteArray := prog_11_method_49_code
def yJ6_bitCount_0f7a4 : MethodName := ⟨RJ6, "bitCount", "(I)I"⟩
abbrev cJ9_min_7cf53 : ByteArray := prog_12_method_69_code
def yJ9_min_7cf53 : MethodName := ⟨RJ9, "min", "(II)I"⟩
abbrev cL_law : ByteArray := code

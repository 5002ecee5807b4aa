theorem goodIn_r {big : List Cond} (ws : List Cond) (ps : List Nat) (hp : ws = ps.filterMap (fun i => big[i]?)) (h : ws.all goodWord = true) : GoodIn big ws := by
  intro w hw
  have h1 := List.all_eq_true.mp h w hw
  rw [hp] at hw
  obtain ⟨i, -, hi⟩ := List.mem_filterMap.mp hw
  have hm : w ∈ big := by first | exact List.mem_of_getElem? hi | exact List.getElem?_mem hi
  exact ⟨hm, good_of_word h1⟩
theorem goodIn_app {big a b : List Cond} (ha : GoodIn big a) (hb : GoodIn big b) : GoodIn big (a ++ b) := fun w h => (List.mem_append.mp h).elim (ha w) (hb w)
theorem goodIn_ca {big a b : List Cond} {c : Cond} (ha : GoodIn big (c :: a)) (hb : GoodIn big b) : GoodIn big (c :: (a ++ b)) := fun w h => (List.mem_cons.mp h).elim (fun e => ha w (List.mem_cons.mpr (Or.inl e))) (fun h => (List.mem_append.mp h).elim (fun h => ha w (List.mem_cons.mpr (Or.inr h))) (hb w))
theorem goodIn_sub {big ws : List Cond} (hm : ∀ w ∈ ws, w ∈ big) (h : ws.all goodWord = true) : GoodIn big ws := fun w hw => ⟨hm w hw, good_of_word (List.all_eq_true.mp h w hw)⟩
def RX0 : String := "TickCircuits$AlikeStates"
def TX0 : u_T := fun k => match k with
  | _ => ("TickCircuits$AlikeStates", "unlikeSets", "LTickCircuits$Row;", true)
def tyX0 : Nat → FieldType := fun k => match k with
  | _ => .object "TickCircuits$Row"
abbrev wsX00 : List Cond := u_ws RX0 TX0 1
theorem nmX0 : ∀ a, a < 1 → ∀ b, b < 1 → a ≠ b → (TX0 a).2.1 ≠ (TX0 b).2.1 := by decide +kernel
theorem tyX0_ok : ∀ k, k < 1 → parseFieldDescriptor (TX0 k).2.2.1 = some (tyX0 k) := by decide +kernel
abbrev cX0_init : ByteArray := prog_2_method_1_code
def yX0_init : MethodName := ⟨RX0, "<init>", "()V"⟩
abbrev cX0_findUnlike : ByteArray := prog_2_method_2_code
def yX0_findUnlike : MethodName := ⟨RX0, "findUnlike", "(LTickCircuits$StepTable;)V"⟩
abbrev cX0_classesAmong : ByteArray := prog_2_method_3_code
def yX0_classesAmong : MethodName := ⟨RX0, "classesAmong", "(I)I"⟩
abbrev cX0_unlikeTo : ByteArray := prog_2_method_4_code
def yX0_unlikeTo : MethodName := ⟨RX0, "unlikeTo", "(ILTickCircuits$StepTable;)I"⟩
abbrev cX0_leadToUnlike : ByteArray := prog_2_method_5_code
def yX0_leadToUnlike : MethodName := ⟨RX0, "leadToUnlike", "(IILTickCircuits$StepTable;)Z"⟩
def RX1 : String := "TickCircuits$Circuit"
def TX1 : u_T := fun k => match k with
  | 0 => ("TickCircuits$Circuit", "gateCount", "I", false)
  | 1 => ("TickCircuits$Circuit", "outputWire", "I", false)
  | 2 => ("TickCircuits$Circuit", "registerCells", "LTickCircuits$Row;", true)
  | _ => ("TickCircuits$Circuit", "gateCells", "LTickCircuits$Row;", true)
def tyX1 : Nat → FieldType := fun k => match k with
  | 0 => .int
  | 1 => .int
  | 2 => .object "TickCircuits$Row"
  | _ => .object "TickCircuits$Row"
abbrev wsX10 : List Cond := u_ws RX1 TX1 4
theorem nmX1 : ∀ a, a < 4 → ∀ b, b < 4 → a ≠ b → (TX1 a).2.1 ≠ (TX1 b).2.1 := by decide +kernel
theorem tyX1_ok : ∀ k, k < 4 → parseFieldDescriptor (TX1 k).2.2.1 = some (tyX1 k) := by decide +kernel
abbrev cX1_init : ByteArray := prog_3_method_1_code
def yX1_init : MethodName := ⟨RX1, "<init>", "()V"⟩
abbrev cX1_startAnew : ByteArray := prog_3_method_2_code
def yX1_startAnew : MethodName := ⟨RX1, "startAnew", "()V"⟩
abbrev cX1_gateCount : ByteArray := prog_3_method_3_code
def yX1_gateCount : MethodName := ⟨RX1, "gateCount", "()I"⟩
abbrev cX1_outputWire : ByteArray := prog_3_method_4_code
def yX1_outputWire : MethodName := ⟨RX1, "outputWire", "()I"⟩
abbrev cX1_setOutputWire : ByteArray := prog_3_method_5_code
def yX1_setOutputWire : MethodName := ⟨RX1, "setOutputWire", "(I)V"⟩
abbrev cX1_setRegister : ByteArray := prog_3_method_6_code
def yX1_setRegister : MethodName := ⟨RX1, "setRegister", "(III)V"⟩
abbrev cX1_nextWire : ByteArray := prog_3_method_7_code
def yX1_nextWire : MethodName := ⟨RX1, "nextWire", "(I)I"⟩
abbrev cX1_firstBit : ByteArray := prog_3_method_8_code
def yX1_firstBit : MethodName := ⟨RX1, "firstBit", "(I)I"⟩
abbrev cX1_firstState : ByteArray := prog_3_method_9_code
def yX1_firstState : MethodName := ⟨RX1, "firstState", "()I"⟩
abbrev cX1_setGate : ByteArray := prog_3_method_10_code
def yX1_setGate : MethodName := ⟨RX1, "setGate", "(IIII)V"⟩
abbrev cX1_kindOf : ByteArray := prog_3_method_12_code
def yX1_kindOf : MethodName := ⟨RX1, "kindOf", "(I)I"⟩
abbrev cX1_firstWire : ByteArray := prog_3_method_13_code
def yX1_firstWire : MethodName := ⟨RX1, "firstWire", "(I)I"⟩
abbrev cX1_secondWire : ByteArray := prog_3_method_14_code
def yX1_secondWire : MethodName := ⟨RX1, "secondWire", "(I)I"⟩
abbrev cX1_wireBits : ByteArray := prog_3_method_15_code
def yX1_wireBits : MethodName := ⟨RX1, "wireBits", "(II)I"⟩
abbrev cX1_gateBit : ByteArray := prog_3_method_16_code
def yX1_gateBit : MethodName := ⟨RX1, "gateBit", "(III)I"⟩
abbrev cX1_stateAfter : ByteArray := prog_3_method_17_code
def yX1_stateAfter : MethodName := ⟨RX1, "stateAfter", "(I)I"⟩
abbrev cX1_gatesBehindOutput : ByteArray := prog_3_method_18_code
def yX1_gatesBehindOutput : MethodName := ⟨RX1, "gatesBehindOutput", "()I"⟩
abbrev cX1_gateOnWire : ByteArray := prog_3_method_19_code
def yX1_gateOnWire : MethodName := ⟨RX1, "gateOnWire", "(I)I"⟩
abbrev cX1_takeFrom : ByteArray := prog_3_method_20_code
def yX1_takeFrom : MethodName := ⟨RX1, "takeFrom", "(LTickCircuits$Circuit;)V"⟩
abbrev cX1_savedCell : ByteArray := prog_3_method_21_code
def yX1_savedCell : MethodName := ⟨RX1, "savedCell", "(I)I"⟩
abbrev cX1_setSavedCell : ByteArray := prog_3_method_22_code
def yX1_setSavedCell : MethodName := ⟨RX1, "setSavedCell", "(II)V"⟩
def RX2 : String := "TickCircuits$History"
def TX2 : u_T := fun k => match k with
  | 0 => ("TickCircuits$History", "cells", "LTickCircuits$Row;", true)
  | _ => ("TickCircuits$History", "size", "I", false)
def tyX2 : Nat → FieldType := fun k => match k with
  | 0 => .object "TickCircuits$Row"
  | _ => .int
abbrev wsX20 : List Cond := u_ws RX2 TX2 2
theorem nmX2 : ∀ a, a < 2 → ∀ b, b < 2 → a ≠ b → (TX2 a).2.1 ≠ (TX2 b).2.1 := by decide +kernel
theorem tyX2_ok : ∀ k, k < 2 → parseFieldDescriptor (TX2 k).2.2.1 = some (tyX2 k) := by decide +kernel
abbrev cX2_init : ByteArray := prog_4_method_1_code
def yX2_init : MethodName := ⟨RX2, "<init>", "()V"⟩
abbrev cX2_size : ByteArray := prog_4_method_2_code
def yX2_size : MethodName := ⟨RX2, "size", "()I"⟩
abbrev cX2_keep : ByteArray := prog_4_method_3_code
def yX2_keep : MethodName := ⟨RX2, "keep", "(LTickCircuits$Circuit;LTickCircuits$Circuit;)V"⟩
abbrev cX2_dropOldest : ByteArray := prog_4_method_4_code
def yX2_dropOldest : MethodName := ⟨RX2, "dropOldest", "()V"⟩
abbrev cX2_giveBack : ByteArray := prog_4_method_5_code
def yX2_giveBack : MethodName := ⟨RX2, "giveBack", "(LTickCircuits$Circuit;LTickCircuits$Circuit;)V"⟩
def RX3 : String := "TickCircuits$LateWalk"
def TX3 : u_T := fun k => match k with
  | 0 => ("TickCircuits$LateWalk", "isMet", "LTickCircuits$Row;", true)
  | 1 => ("TickCircuits$LateWalk", "situations", "LTickCircuits$Row;", true)
  | _ => ("TickCircuits$LateWalk", "size", "I", false)
def tyX3 : Nat → FieldType := fun k => match k with
  | 0 => .object "TickCircuits$Row"
  | 1 => .object "TickCircuits$Row"
  | _ => .int
abbrev wsX30 : List Cond := u_ws RX3 TX3 3
theorem nmX3 : ∀ a, a < 3 → ∀ b, b < 3 → a ≠ b → (TX3 a).2.1 ≠ (TX3 b).2.1 := by decide +kernel
theorem tyX3_ok : ∀ k, k < 3 → parseFieldDescriptor (TX3 k).2.2.1 = some (tyX3 k) := by decide +kernel
abbrev cX3_init : ByteArray := prog_5_method_1_code
def yX3_init : MethodName := ⟨RX3, "<init>", "()V"⟩
abbrev cX3_isLateBy : ByteArray := prog_5_method_2_code
def yX3_isLateBy : MethodName := ⟨RX3, "isLateBy", "(ILTickCircuits$StepTable;LTickCircuits$StepTable;)Z"⟩
abbrev cX3_step : ByteArray := prog_5_method_3_code
def yX3_step : MethodName := ⟨RX3, "step", "(IIILTickCircuits$StepTable;LTickCircuits$StepTable;)Z"⟩
abbrev cX3_meet : ByteArray := prog_5_method_4_code
def yX3_meet : MethodName := ⟨RX3, "meet", "(III)V"⟩
abbrev cX3_forgetAll : ByteArray := prog_5_method_5_code
def yX3_forgetAll : MethodName := ⟨RX3, "forgetAll", "()V"⟩
def RX4 : String := "TickCircuits$PairWalk"
def TX4 : u_T := fun k => match k with
  | 0 => ("TickCircuits$PairWalk", "isMet", "LTickCircuits$Row;", true)
  | 1 => ("TickCircuits$PairWalk", "zeroStates", "LTickCircuits$Row;", true)
  | 2 => ("TickCircuits$PairWalk", "oneStates", "LTickCircuits$Row;", true)
  | 3 => ("TickCircuits$PairWalk", "ticks", "LTickCircuits$Row;", true)
  | 4 => ("TickCircuits$PairWalk", "placesAhead", "LTickCircuits$Row;", true)
  | 5 => ("TickCircuits$PairWalk", "lastInputs", "LTickCircuits$Row;", true)
  | _ => ("TickCircuits$PairWalk", "size", "I", false)
def tyX4 : Nat → FieldType := fun k => match k with
  | 0 => .object "TickCircuits$Row"
  | 1 => .object "TickCircuits$Row"
  | 2 => .object "TickCircuits$Row"
  | 3 => .object "TickCircuits$Row"
  | 4 => .object "TickCircuits$Row"
  | 5 => .object "TickCircuits$Row"
  | _ => .int
abbrev wsX40 : List Cond := u_ws RX4 TX4 7
theorem nmX4 : ∀ a, a < 7 → ∀ b, b < 7 → a ≠ b → (TX4 a).2.1 ≠ (TX4 b).2.1 := by decide +kernel
theorem tyX4_ok : ∀ k, k < 7 → parseFieldDescriptor (TX4 k).2.2.1 = some (tyX4 k) := by decide +kernel
abbrev cX4_init : ByteArray := prog_6_method_1_code
def yX4_init : MethodName := ⟨RX4, "<init>", "()V"⟩
abbrev cX4_walkFromFirst : ByteArray := prog_6_method_2_code
def yX4_walkFromFirst : MethodName := ⟨RX4, "walkFromFirst", "(LTickCircuits$StepTable;LTickCircuits$StepTable;)V"⟩
abbrev cX4_meet : ByteArray := prog_6_method_3_code
def yX4_meet : MethodName := ⟨RX4, "meet", "(IIII)V"⟩
abbrev cX4_size : ByteArray := prog_6_method_4_code
def yX4_size : MethodName := ⟨RX4, "size", "()I"⟩
abbrev cX4_zeroState : ByteArray := prog_6_method_5_code
def yX4_zeroState : MethodName := ⟨RX4, "zeroState", "(I)I"⟩
abbrev cX4_oneState : ByteArray := prog_6_method_6_code
def yX4_oneState : MethodName := ⟨RX4, "oneState", "(I)I"⟩
abbrev cX4_ticksTo : ByteArray := prog_6_method_7_code
def yX4_ticksTo : MethodName := ⟨RX4, "ticksTo", "(I)I"⟩
abbrev cX4_inputsOnWay : ByteArray := prog_6_method_8_code
def yX4_inputsOnWay : MethodName := ⟨RX4, "inputsOnWay", "(II)I"⟩
def RX5 : String := "TickCircuits$Reader"
def TX5 : u_T := fun k => match k with
  | 0 => ("TickCircuits$Reader", "circuit", "LTickCircuits$Circuit;", true)
  | 1 => ("TickCircuits$Reader", "position", "I", false)
  | 2 => ("TickCircuits$Reader", "reason", "I", false)
  | _ => ("TickCircuits$Reader", "toldSet", "I", false)
def tyX5 : Nat → FieldType := fun k => match k with
  | 0 => .object "TickCircuits$Circuit"
  | 1 => .int
  | 2 => .int
  | _ => .int
abbrev wsX50 : List Cond := u_ws RX5 TX5 4
theorem nmX5 : ∀ a, a < 4 → ∀ b, b < 4 → a ≠ b → (TX5 a).2.1 ≠ (TX5 b).2.1 := by decide +kernel
theorem tyX5_ok : ∀ k, k < 4 → parseFieldDescriptor (TX5 k).2.2.1 = some (tyX5 k) := by decide +kernel
abbrev cX5_init : ByteArray := prog_7_method_1_code
def yX5_init : MethodName := ⟨RX5, "<init>", "()V"⟩
def RX6 : String := "TickCircuits$Row"
def TX6 : u_T := fun k => match k with
  | _ => ("TickCircuits$Row", "cells", "[I", true)
def tyX6 : Nat → FieldType := fun k => match k with
  | _ => .array .int
abbrev wsX60 : List Cond := u_ws RX6 TX6 1
theorem nmX6 : ∀ a, a < 1 → ∀ b, b < 1 → a ≠ b → (TX6 a).2.1 ≠ (TX6 b).2.1 := by decide +kernel
theorem tyX6_ok : ∀ k, k < 1 → parseFieldDescriptor (TX6 k).2.2.1 = some (tyX6 k) := by decide +kernel
abbrev cX6_init : ByteArray := prog_8_method_1_code
def yX6_init : MethodName := ⟨RX6, "<init>", "(I)V"⟩
abbrev cX6_get : ByteArray := prog_8_method_2_code
def yX6_get : MethodName := ⟨RX6, "get", "(I)I"⟩
abbrev cX6_set : ByteArray := prog_8_method_3_code
def yX6_set : MethodName := ⟨RX6, "set", "(II)V"⟩
abbrev cX6_clear : ByteArray := prog_8_method_4_code
def yX6_clear : MethodName := ⟨RX6, "clear", "()V"⟩
def RX7 : String := "TickCircuits$StepTable"
def TX7 : u_T := fun k => match k with
  | 0 => ("TickCircuits$StepTable", "statesBehind", "LTickCircuits$Row;", true)
  | 1 => ("TickCircuits$StepTable", "outputSets", "LTickCircuits$Row;", true)
  | _ => ("TickCircuits$StepTable", "firstState", "I", false)
def tyX7 : Nat → FieldType := fun k => match k with
  | 0 => .object "TickCircuits$Row"
  | 1 => .object "TickCircuits$Row"
  | _ => .int
abbrev wsX70 : List Cond := u_ws RX7 TX7 3
theorem nmX7 : ∀ a, a < 3 → ∀ b, b < 3 → a ≠ b → (TX7 a).2.1 ≠ (TX7 b).2.1 := by decide +kernel
theorem tyX7_ok : ∀ k, k < 3 → parseFieldDescriptor (TX7 k).2.2.1 = some (tyX7 k) := by decide +kernel
abbrev cX7_init : ByteArray := prog_9_method_1_code
def yX7_init : MethodName := ⟨RX7, "<init>", "()V"⟩
abbrev cX7_fillFrom : ByteArray := prog_9_method_2_code
def yX7_fillFrom : MethodName := ⟨RX7, "fillFrom", "(LTickCircuits$Circuit;)V"⟩
abbrev cX7_firstState : ByteArray := prog_9_method_3_code
def yX7_firstState : MethodName := ⟨RX7, "firstState", "()I"⟩
abbrev cX7_stateBehind : ByteArray := prog_9_method_4_code
def yX7_stateBehind : MethodName := ⟨RX7, "stateBehind", "(II)I"⟩
abbrev cX7_outputSet : ByteArray := prog_9_method_5_code
def yX7_outputSet : MethodName := ⟨RX7, "outputSet", "(I)I"⟩
abbrev cX7_statesComeTo : ByteArray := prog_9_method_6_code
def yX7_statesComeTo : MethodName := ⟨RX7, "statesComeTo", "()I"⟩
abbrev cX7_statesBehindAny : ByteArray := prog_9_method_7_code
def yX7_statesBehindAny : MethodName := ⟨RX7, "statesBehindAny", "(I)I"⟩
abbrev cX7_steadyRegisters : ByteArray := prog_9_method_8_code
def yX7_steadyRegisters : MethodName := ⟨RX7, "steadyRegisters", "(I)I"⟩
def RX8 : String := "TickCircuits$Text"
def TX8 : u_T := fun k => match k with
  | 0 => ("TickCircuits$Text", "characters", "LTickCircuits$Row;", true)
  | _ => ("TickCircuits$Text", "length", "I", false)
def tyX8 : Nat → FieldType := fun k => match k with
  | 0 => .object "TickCircuits$Row"
  | _ => .int
abbrev wsX80 : List Cond := u_ws RX8 TX8 2
theorem nmX8 : ∀ a, a < 2 → ∀ b, b < 2 → a ≠ b → (TX8 a).2.1 ≠ (TX8 b).2.1 := by decide +kernel
theorem tyX8_ok : ∀ k, k < 2 → parseFieldDescriptor (TX8 k).2.2.1 = some (tyX8 k) := by decide +kernel
abbrev cX8_init : ByteArray := prog_10_method_1_code
def yX8_init : MethodName := ⟨RX8, "<init>", "()V"⟩
abbrev cX8_length : ByteArray := prog_10_method_2_code
def yX8_length : MethodName := ⟨RX8, "length", "()I"⟩
def RX9 : String := "TickCircuits"
def TX9 : u_T := fun k => match k with
  | 0 => ("TickCircuits", "zero", "LTickCircuits$Circuit;", true)
  | 1 => ("TickCircuits", "one", "LTickCircuits$Circuit;", true)
  | 2 => ("TickCircuits", "trial", "LTickCircuits$Circuit;", true)
  | 3 => ("TickCircuits", "zeroTable", "LTickCircuits$StepTable;", true)
  | 4 => ("TickCircuits", "oneTable", "LTickCircuits$StepTable;", true)
  | 5 => ("TickCircuits", "askedTable", "LTickCircuits$StepTable;", true)
  | 6 => ("TickCircuits", "walk", "LTickCircuits$PairWalk;", true)
  | 7 => ("TickCircuits", "lateWalk", "LTickCircuits$LateWalk;", true)
  | 8 => ("TickCircuits", "alike", "LTickCircuits$AlikeStates;", true)
  | 9 => ("TickCircuits", "history", "LTickCircuits$History;", true)
  | 10 => ("TickCircuits", "text", "LTickCircuits$Text;", true)
  | _ => ("TickCircuits", "reader", "LTickCircuits$Reader;", true)
def tyX9 : Nat → FieldType := fun k => match k with
  | 0 => .object "TickCircuits$Circuit"
  | 1 => .object "TickCircuits$Circuit"
  | 2 => .object "TickCircuits$Circuit"
  | 3 => .object "TickCircuits$StepTable"
  | 4 => .object "TickCircuits$StepTable"
  | 5 => .object "TickCircuits$StepTable"
  | 6 => .object "TickCircuits$PairWalk"
  | 7 => .object "TickCircuits$LateWalk"
  | 8 => .object "TickCircuits$AlikeStates"
  | 9 => .object "TickCircuits$History"
  | 10 => .object "TickCircuits$Text"
  | _ => .object "TickCircuits$Reader"
abbrev wsX90 : List Cond := u_ws RX9 TX9 12
theorem nmX9 : ∀ a, a < 12 → ∀ b, b < 12 → a ≠ b → (TX9 a).2.1 ≠ (TX9 b).2.1 := by decide +kernel
theorem tyX9_ok : ∀ k, k < 12 → parseFieldDescriptor (TX9 k).2.2.1 = some (tyX9 k) := by decide +kernel
abbrev cX9_init : ByteArray := prog_1_method_1_code
def yX9_init : MethodName := ⟨RX9, "<init>", "()V"⟩
abbrev cX9_gate : ByteArray := prog_1_method_2_code
def yX9_gate : MethodName := ⟨RX9, "gate", "(IIIII)I"⟩
abbrev cX9_register : ByteArray := prog_1_method_4_code
def yX9_register : MethodName := ⟨RX9, "register", "(IIII)I"⟩
abbrev cX9_output : ByteArray := prog_1_method_5_code
def yX9_output : MethodName := ⟨RX9, "output", "(II)I"⟩
abbrev cX9_copy : ByteArray := prog_1_method_6_code
def yX9_copy : MethodName := ⟨RX9, "copy", "(I)I"⟩
abbrev cX9_circuitOf : ByteArray := prog_1_method_7_code
def yX9_circuitOf : MethodName := ⟨RX9, "circuitOf", "(II)I"⟩
abbrev cX9_bit : ByteArray := prog_1_method_8_code
def yX9_bit : MethodName := ⟨RX9, "bit", "(IIII)I"⟩
abbrev cX9_behind : ByteArray := prog_1_method_9_code
def yX9_behind : MethodName := ⟨RX9, "behind", "(III)I"⟩
abbrev cX9_run : ByteArray := prog_1_method_10_code
def yX9_run : MethodName := ⟨RX9, "run", "(IIII)I"⟩
abbrev cX9_pairs : ByteArray := prog_1_method_13_code
def yX9_pairs : MethodName := ⟨RX9, "pairs", "()I"⟩
abbrev cX9_apart : ByteArray := prog_1_method_14_code
def yX9_apart : MethodName := ⟨RX9, "apart", "(I)I"⟩
abbrev cX9_late : ByteArray := prog_1_method_15_code
def yX9_late : MethodName := ⟨RX9, "late", "()I"⟩
abbrev cX9_same : ByteArray := prog_1_method_16_code
def yX9_same : MethodName := ⟨RX9, "same", "(I)I"⟩
abbrev cX9_kinds : ByteArray := prog_1_method_17_code
def yX9_kinds : MethodName := ⟨RX9, "kinds", "(I)I"⟩
abbrev cX9_count : ByteArray := prog_1_method_18_code
def yX9_count : MethodName := ⟨RX9, "count", "(I)I"⟩
abbrev cX9_undo : ByteArray := prog_1_method_19_code
def yX9_undo : MethodName := ⟨RX9, "undo", "()I"⟩
abbrev cX9_circuitAt : ByteArray := prog_1_method_24_code
def yX9_circuitAt : MethodName := ⟨RX9, "circuitAt", "(I)LTickCircuits$Circuit;"⟩
abbrev cX9_tellWires : ByteArray := prog_1_method_25_code
def yX9_tellWires : MethodName := ⟨RX9, "tellWires", "(LTickCircuits$Circuit;I)I"⟩
abbrev cX9_tellStates : ByteArray := prog_1_method_26_code
def yX9_tellStates : MethodName := ⟨RX9, "tellStates", "(LTickCircuits$Circuit;I)I"⟩
abbrev cX9_tellGate : ByteArray := prog_1_method_27_code
def yX9_tellGate : MethodName := ⟨RX9, "tellGate", "(LTickCircuits$Circuit;II)I"⟩
abbrev cX9_walkWith : ByteArray := prog_1_method_28_code
def yX9_walkWith : MethodName := ⟨RX9, "walkWith", "(LTickCircuits$Circuit;)V"⟩
abbrev cX9_neverApart : ByteArray := prog_1_method_29_code
def yX9_neverApart : MethodName := ⟨RX9, "neverApart", "(LTickCircuits$Circuit;)Z"⟩
abbrev cX9_firstPairApart : ByteArray := prog_1_method_30_code
def yX9_firstPairApart : MethodName := ⟨RX9, "firstPairApart", "()I"⟩
abbrev cX9_differingInputs : ByteArray := prog_1_method_31_code
def yX9_differingInputs : MethodName := ⟨RX9, "differingInputs", "(I)I"⟩
abbrev cX9_isWithin : ByteArray := prog_1_method_32_code
def yX9_isWithin : MethodName := ⟨RX9, "isWithin", "(III)Z"⟩
abbrev cX9_isCircuit : ByteArray := prog_1_method_33_code
def yX9_isCircuit : MethodName := ⟨RX9, "isCircuit", "(I)Z"⟩
abbrev cX9_isRegister : ByteArray := prog_1_method_34_code
def yX9_isRegister : MethodName := ⟨RX9, "isRegister", "(I)Z"⟩
abbrev cX9_isWire : ByteArray := prog_1_method_35_code
def yX9_isWire : MethodName := ⟨RX9, "isWire", "(I)Z"⟩
abbrev cX9_isState : ByteArray := prog_1_method_36_code
def yX9_isState : MethodName := ⟨RX9, "isState", "(I)Z"⟩
abbrev cX9_areInputs : ByteArray := prog_1_method_37_code
def yX9_areInputs : MethodName := ⟨RX9, "areInputs", "(I)Z"⟩
abbrev cX9_mayFeed : ByteArray := prog_1_method_38_code
def yX9_mayFeed : MethodName := ⟨RX9, "mayFeed", "(II)Z"⟩
abbrev cX9_bitOf : ByteArray := prog_1_method_39_code
def yX9_bitOf : MethodName := ⟨RX9, "bitOf", "(II)I"⟩
abbrev cX9_leastOf : ByteArray := prog_1_method_40_code
def yX9_leastOf : MethodName := ⟨RX9, "leastOf", "(I)I"⟩
def RX10 : String := "TickCircuitsModel"
def TX10 : u_T := fun k => match k with
  | _ => ("", "", "", false)
def tyX10 : Nat → FieldType := fun k => match k with
  | _ => .int
abbrev wsX100 : List Cond := u_ws RX10 TX10 0
theorem nmX10 : ∀ a, a < 0 → ∀ b, b < 0 → a ≠ b → (TX10 a).2.1 ≠ (TX10 b).2.1 := by decide +kernel
theorem tyX10_ok : ∀ k, k < 0 → parseFieldDescriptor (TX10 k).2.2.1 = some (tyX10 k) := by decide +kernel
def RJ7 : String := "java/util/Arrays"
def TJ7 : u_T := fun k => match k with
  | _ => ("", "", "", false)
def tyJ7 : Nat → FieldType := fun k => match k with
  | _ => .int
abbrev wsJ70 : List Cond := u_ws RJ7 TJ7 0
theorem nmJ7 : ∀ a, a < 0 → ∀ b, b < 0 → a ≠ b → (TJ7 a).2.1 ≠ (TJ7 b).2.1 := by decide +kernel
theorem tyJ7_ok : ∀ k, k < 0 → parseFieldDescriptor (TJ7 k).2.2.1 = some (tyJ7 k) := by decide +kernel
abbrev cJ7_fill_53178 : ByteArray := prog_13_method_103_code
def yJ7_fill_53178 : MethodName := ⟨RJ7, "fill", "([II)V"⟩
def RL : String := "TickCircuitsLaw"
abbrev cL_cell : ByteArray := method_2_code
def yL_cell : MethodName := ⟨RL, "cell", "([II)I"⟩
abbrev cL_bits : ByteArray := method_3_code
def yL_bits : MethodName := ⟨RL, "bits", "(I)I"⟩
abbrev cL_holds : ByteArray := method_4_code
def yL_holds : MethodName := ⟨RL, "holds", "(LTickCircuits;I)Z"⟩
abbrev cL_apart : ByteArray := method_5_code
def yL_apart : MethodName := ⟨RL, "apart", "(LTickCircuits;)Z"⟩
abbrev cL_runs : ByteArray := method_6_code
def yL_runs : MethodName := ⟨RL, "runs", "(LTickCircuits;I)Z"⟩
abbrev cL_acts : ByteArray := method_7_code
def yL_acts : MethodName := ⟨RL, "acts", "(LTickCircuits;I)Z"⟩
abbrev cL_law : ByteArray := code
def yL_law : MethodName := ⟨RL, "law", "([I)Z"⟩
abbrev vwCl : List vw_C := [(RX0, TX0, 1), (RX1, TX1, 4), (RX2, TX2, 2), (RX3, TX3, 3), (RX4, TX4, 7), (RX5, TX5, 4), (RX6, TX6, 1), (RX7, TX7, 3), (RX8, TX8, 2), (RX9, TX9, 12)]

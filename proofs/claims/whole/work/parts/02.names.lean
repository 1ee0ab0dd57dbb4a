def F_PL : u_T := fun k => match k with
  | 0 => ("ProtectedLine", "source", "LProtectedLine$StreamSource;", true)
  | 1 => ("ProtectedLine", "nodeA", "LProtectedLine$NodeA;", true)
  | 2 => ("ProtectedLine", "working", "LProtectedLine$Line;", true)
  | 3 => ("ProtectedLine", "protection", "LProtectedLine$Line;", true)
  | 4 => ("ProtectedLine", "back", "LProtectedLine$BackLine;", true)
  | 5 => ("ProtectedLine", "nodeB", "LProtectedLine$Switch;", true)
  | 6 => ("ProtectedLine", "stream", "LProtectedLine$StreamReader;", true)
  | _ => ("ProtectedLine", "reader", "LProtectedLine$PointerReader;", true)
def t_PL : Nat → FieldType := fun k => match k with
  | 0 => .object "ProtectedLine$StreamSource"
  | 1 => .object "ProtectedLine$NodeA"
  | 2 => .object "ProtectedLine$Line"
  | 3 => .object "ProtectedLine$Line"
  | 4 => .object "ProtectedLine$BackLine"
  | 5 => .object "ProtectedLine$Switch"
  | 6 => .object "ProtectedLine$StreamReader"
  | _ => .object "ProtectedLine$PointerReader"
def F_SS : u_T := fun k => match k with
  | 0 => ("ProtectedLine$StreamSource", "ready", "[I", true)
  | 1 => ("ProtectedLine$StreamSource", "lengths", "[I", true)
  | 2 => ("ProtectedLine$StreamSource", "oldest", "I", false)
  | 3 => ("ProtectedLine$StreamSource", "queued", "I", false)
  | 4 => ("ProtectedLine$StreamSource", "before", "I", false)
  | 5 => ("ProtectedLine$StreamSource", "current", "[I", true)
  | 6 => ("ProtectedLine$StreamSource", "length", "I", false)
  | _ => ("ProtectedLine$StreamSource", "position", "I", false)
def t_SS : Nat → FieldType := fun k => match k with
  | 0 => .array .int
  | 1 => .array .int
  | 2 => .int
  | 3 => .int
  | 4 => .int
  | 5 => .array .int
  | 6 => .int
  | _ => .int
def F_NA : u_T := fun k => match k with
  | 0 => ("ProtectedLine$NodeA", "containers", "LProtectedLine$ContainerSource;", true)
  | 1 => ("ProtectedLine$NodeA", "heard", "LProtectedLine$Listener;", true)
  | 2 => ("ProtectedLine$NodeA", "content", "[I", true)
  | 3 => ("ProtectedLine$NodeA", "p", "I", false)
  | 4 => ("ProtectedLine$NodeA", "debt", "I", false)
  | _ => ("ProtectedLine$NodeA", "rest", "I", false)
def t_NA : Nat → FieldType := fun k => match k with
  | 0 => .object "ProtectedLine$ContainerSource"
  | 1 => .object "ProtectedLine$Listener"
  | 2 => .array .int
  | 3 => .int
  | 4 => .int
  | _ => .int
def F_CS : u_T := fun k => match k with
  | 0 => ("ProtectedLine$ContainerSource", "source", "LProtectedLine$StreamSource;", true)
  | 1 => ("ProtectedLine$ContainerSource", "place", "I", false)
  | _ => ("ProtectedLine$ContainerSource", "joined", "I", false)
def t_CS : Nat → FieldType := fun k => match k with
  | 0 => .object "ProtectedLine$StreamSource"
  | 1 => .int
  | _ => .int
def F_LI : u_T := fun k => match k with
  | 0 => ("ProtectedLine$Listener", "accepted", "I", false)
  | 1 => ("ProtectedLine$Listener", "latest", "I", false)
  | _ => ("ProtectedLine$Listener", "row", "I", false)
def t_LI : Nat → FieldType := fun k => match k with
  | 0 => .int
  | 1 => .int
  | _ => .int
def F_LN : u_T := fun k => match k with
  | 0 => ("ProtectedLine$Line", "delay", "I", true)
  | 1 => ("ProtectedLine$Line", "underWay", "[I", true)
  | 2 => ("ProtectedLine$Line", "launched", "I", false)
  | 3 => ("ProtectedLine$Line", "joinedSent", "I", false)
  | 4 => ("ProtectedLine$Line", "broken", "Z", false)
  | 5 => ("ProtectedLine$Line", "harm", "[I", true)
  | 6 => ("ProtectedLine$Line", "arrived", "[I", true)
  | 7 => ("ProtectedLine$Line", "hasArrived", "Z", false)
  | 8 => ("ProtectedLine$Line", "joinedArrived", "I", false)
  | 9 => ("ProtectedLine$Line", "state", "I", false)
  | 10 => ("ProtectedLine$Line", "badRow", "I", false)
  | _ => ("ProtectedLine$Line", "errorBits", "I", false)
def t_LN : Nat → FieldType := fun k => match k with
  | 0 => .int
  | 1 => .array .int
  | 2 => .int
  | 3 => .int
  | 4 => .boolean
  | 5 => .array .int
  | 6 => .array .int
  | 7 => .boolean
  | 8 => .int
  | 9 => .int
  | 10 => .int
  | _ => .int
def F_BL : u_T := fun k => match k with
  | 0 => ("ProtectedLine$BackLine", "delay", "I", true)
  | 1 => ("ProtectedLine$BackLine", "underWay", "[I", true)
  | _ => ("ProtectedLine$BackLine", "launched", "I", false)
def t_BL : Nat → FieldType := fun k => match k with
  | 0 => .int
  | 1 => .array .int
  | _ => .int
def F_SW : u_T := fun k => match k with
  | 0 => ("ProtectedLine$Switch", "hold", "I", true)
  | 1 => ("ProtectedLine$Switch", "wait", "I", true)
  | 2 => ("ProtectedLine$Switch", "heard", "LProtectedLine$Listener;", true)
  | 3 => ("ProtectedLine$Switch", "order", "I", false)
  | 4 => ("ProtectedLine$Switch", "failedFor", "I", false)
  | 5 => ("ProtectedLine$Switch", "waitLeft", "I", false)
  | 6 => ("ProtectedLine$Switch", "asked", "I", false)
  | _ => ("ProtectedLine$Switch", "chosen", "I", false)
def t_SW : Nat → FieldType := fun k => match k with
  | 0 => .int
  | 1 => .int
  | 2 => .object "ProtectedLine$Listener"
  | 3 => .int
  | 4 => .int
  | 5 => .int
  | 6 => .int
  | _ => .int
def F_SR : u_T := fun k => match k with
  | 0 => ("ProtectedLine$StreamReader", "state", "I", false)
  | 1 => ("ProtectedLine$StreamReader", "half", "Z", false)
  | 2 => ("ProtectedLine$StreamReader", "first", "I", false)
  | 3 => ("ProtectedLine$StreamReader", "length", "I", false)
  | 4 => ("ProtectedLine$StreamReader", "done", "I", false)
  | 5 => ("ProtectedLine$StreamReader", "before", "I", false)
  | 6 => ("ProtectedLine$StreamReader", "check", "I", false)
  | 7 => ("ProtectedLine$StreamReader", "frame", "[I", true)
  | 8 => ("ProtectedLine$StreamReader", "good", "I", false)
  | 9 => ("ProtectedLine$StreamReader", "bad", "I", false)
  | 10 => ("ProtectedLine$StreamReader", "sizes", "[I", true)
  | _ => ("ProtectedLine$StreamReader", "contents", "[I", true)
def t_SR : Nat → FieldType := fun k => match k with
  | 0 => .int
  | 1 => .boolean
  | 2 => .int
  | 3 => .int
  | 4 => .int
  | 5 => .int
  | 6 => .int
  | 7 => .array .int
  | 8 => .int
  | 9 => .int
  | 10 => .array .int
  | _ => .array .int
def F_PR : u_T := fun k => match k with
  | 0 => ("ProtectedLine$PointerReader", "stream", "LProtectedLine$StreamReader;", true)
  | 1 => ("ProtectedLine$PointerReader", "v", "I", false)
  | 2 => ("ProtectedLine$PointerReader", "gapRow", "I", false)
  | 3 => ("ProtectedLine$PointerReader", "plainRow", "I", false)
  | 4 => ("ProtectedLine$PointerReader", "plainQ", "I", false)
  | 5 => ("ProtectedLine$PointerReader", "strangeRow", "I", false)
  | 6 => ("ProtectedLine$PointerReader", "sinceFirst", "I", false)
  | 7 => ("ProtectedLine$PointerReader", "joined", "I", false)
  | _ => ("ProtectedLine$PointerReader", "errorBits", "I", false)
def t_PR : Nat → FieldType := fun k => match k with
  | 0 => .object "ProtectedLine$StreamReader"
  | 1 => .int
  | 2 => .int
  | 3 => .int
  | 4 => .int
  | 5 => .int
  | 6 => .int
  | 7 => .int
  | _ => .int
def F_RM : u_T := fun k => match k with
  | 0 => ("ProtectedLineModel", "delay", "[I", true)
  | 1 => ("ProtectedLineModel", "hold", "I", true)
  | 2 => ("ProtectedLineModel", "wait", "I", true)
  | 3 => ("ProtectedLineModel", "time", "I", false)
  | 4 => ("ProtectedLineModel", "waiting", "I", false)
  | 5 => ("ProtectedLineModel", "queue", "[I", true)
  | 6 => ("ProtectedLineModel", "going", "[I", true)
  | 7 => ("ProtectedLineModel", "length", "I", false)
  | 8 => ("ProtectedLineModel", "taken", "I", false)
  | 9 => ("ProtectedLineModel", "scrambled", "I", false)
  | 10 => ("ProtectedLineModel", "place", "I", false)
  | 11 => ("ProtectedLineModel", "parity", "I", false)
  | 12 => ("ProtectedLineModel", "joined", "I", false)
  | 13 => ("ProtectedLineModel", "lead", "I", false)
  | 14 => ("ProtectedLineModel", "debt", "I", false)
  | 15 => ("ProtectedLineModel", "quiet", "I", false)
  | 16 => ("ProtectedLineModel", "bridge", "Z", false)
  | 17 => ("ProtectedLineModel", "acceptedA", "I", false)
  | 18 => ("ProtectedLineModel", "sameA", "I", false)
  | 19 => ("ProtectedLineModel", "latestA", "I", false)
  | 20 => ("ProtectedLineModel", "sent", "[I", true)
  | 21 => ("ProtectedLineModel", "back", "[I", true)
  | 22 => ("ProtectedLineModel", "row", "[I", true)
  | 23 => ("ProtectedLineModel", "frame", "[I", true)
  | 24 => ("ProtectedLineModel", "cut", "[Z", true)
  | 25 => ("ProtectedLineModel", "spoil", "[I", true)
  | 26 => ("ProtectedLineModel", "now", "[I", true)
  | 27 => ("ProtectedLineModel", "came", "[Z", true)
  | 28 => ("ProtectedLineModel", "before", "[Z", true)
  | 29 => ("ProtectedLineModel", "was", "[I", true)
  | 30 => ("ProtectedLineModel", "state", "[I", true)
  | 31 => ("ProtectedLineModel", "bad", "[I", true)
  | 32 => ("ProtectedLineModel", "errors", "[I", true)
  | 33 => ("ProtectedLineModel", "failedFor", "I", false)
  | 34 => ("ProtectedLineModel", "acceptedB", "I", false)
  | 35 => ("ProtectedLineModel", "sameB", "I", false)
  | 36 => ("ProtectedLineModel", "latestB", "I", false)
  | 37 => ("ProtectedLineModel", "order", "I", false)
  | 38 => ("ProtectedLineModel", "request", "I", false)
  | 39 => ("ProtectedLineModel", "waits", "I", false)
  | 40 => ("ProtectedLineModel", "selected", "I", false)
  | 41 => ("ProtectedLineModel", "pointer", "I", false)
  | 42 => ("ProtectedLineModel", "gaps", "I", false)
  | 43 => ("ProtectedLineModel", "strange", "I", false)
  | 44 => ("ProtectedLineModel", "rowFor", "I", false)
  | 45 => ("ProtectedLineModel", "rowOf", "I", false)
  | 46 => ("ProtectedLineModel", "chain", "I", false)
  | 47 => ("ProtectedLineModel", "sum", "I", false)
  | 48 => ("ProtectedLineModel", "pathErrors", "I", false)
  | 49 => ("ProtectedLineModel", "sync", "I", false)
  | 50 => ("ProtectedLineModel", "first", "I", false)
  | 51 => ("ProtectedLineModel", "left", "I", false)
  | 52 => ("ProtectedLineModel", "long0", "I", false)
  | 53 => ("ProtectedLineModel", "filled", "I", false)
  | 54 => ("ProtectedLineModel", "memory", "I", false)
  | 55 => ("ProtectedLineModel", "body", "[I", true)
  | 56 => ("ProtectedLineModel", "delivered", "I", false)
  | 57 => ("ProtectedLineModel", "dropped", "I", false)
  | _ => ("ProtectedLineModel", "kept", "[I", true)
def t_RM : Nat → FieldType := fun k => match k with
  | 0 => .array .int
  | 1 => .int
  | 2 => .int
  | 3 => .int
  | 4 => .int
  | 5 => .array .int
  | 6 => .array .int
  | 7 => .int
  | 8 => .int
  | 9 => .int
  | 10 => .int
  | 11 => .int
  | 12 => .int
  | 13 => .int
  | 14 => .int
  | 15 => .int
  | 16 => .boolean
  | 17 => .int
  | 18 => .int
  | 19 => .int
  | 20 => .array .int
  | 21 => .array .int
  | 22 => .array .int
  | 23 => .array .int
  | 24 => .array .boolean
  | 25 => .array .int
  | 26 => .array .int
  | 27 => .array .boolean
  | 28 => .array .boolean
  | 29 => .array .int
  | 30 => .array .int
  | 31 => .array .int
  | 32 => .array .int
  | 33 => .int
  | 34 => .int
  | 35 => .int
  | 36 => .int
  | 37 => .int
  | 38 => .int
  | 39 => .int
  | 40 => .int
  | 41 => .int
  | 42 => .int
  | 43 => .int
  | 44 => .int
  | 45 => .int
  | 46 => .int
  | 47 => .int
  | 48 => .int
  | 49 => .int
  | 50 => .int
  | 51 => .int
  | 52 => .int
  | 53 => .int
  | 54 => .int
  | 55 => .array .int
  | 56 => .int
  | 57 => .int
  | _ => .array .int
abbrev b_PL_init : ByteArray := prog_1_method_1_code
abbrev y_PL_init : MethodName := ⟨"ProtectedLine", "<init>", "(IIII)V"⟩
abbrev b_SS_init : ByteArray := prog_10_method_1_code
abbrev y_SS_init : MethodName := ⟨"ProtectedLine$StreamSource", "<init>", "()V"⟩
abbrev b_CS_init : ByteArray := prog_4_method_1_code
abbrev y_CS_init : MethodName := ⟨"ProtectedLine$ContainerSource", "<init>", "(LProtectedLine$StreamSource;)V"⟩
abbrev b_NA_init : ByteArray := prog_7_method_1_code
abbrev y_NA_init : MethodName := ⟨"ProtectedLine$NodeA", "<init>", "(LProtectedLine$ContainerSource;)V"⟩
abbrev b_LI_init : ByteArray := prog_6_method_1_code
abbrev y_LI_init : MethodName := ⟨"ProtectedLine$Listener", "<init>", "()V"⟩
abbrev b_PL_delayOf : ByteArray := prog_1_method_25_code
abbrev y_PL_delayOf : MethodName := ⟨"ProtectedLine", "delayOf", "(I)I"⟩
abbrev b_LN_init : ByteArray := prog_5_method_1_code
abbrev y_LN_init : MethodName := ⟨"ProtectedLine$Line", "<init>", "(I)V"⟩
abbrev b_BL_init : ByteArray := prog_2_method_1_code
abbrev y_BL_init : MethodName := ⟨"ProtectedLine$BackLine", "<init>", "(I)V"⟩
abbrev b_SW_init : ByteArray := prog_11_method_1_code
abbrev y_SW_init : MethodName := ⟨"ProtectedLine$Switch", "<init>", "(II)V"⟩
abbrev b_SR_init : ByteArray := prog_9_method_1_code
abbrev y_SR_init : MethodName := ⟨"ProtectedLine$StreamReader", "<init>", "()V"⟩
abbrev b_PR_init : ByteArray := prog_8_method_1_code
abbrev y_PR_init : MethodName := ⟨"ProtectedLine$PointerReader", "<init>", "(LProtectedLine$StreamReader;)V"⟩
abbrev b_PL_send : ByteArray := prog_1_method_2_code
abbrev y_PL_send : MethodName := ⟨"ProtectedLine", "send", "(IJ)Z"⟩
abbrev b_SS_enqueue : ByteArray := prog_10_method_2_code
abbrev y_SS_enqueue : MethodName := ⟨"ProtectedLine$StreamSource", "enqueue", "(IJ)Z"⟩
abbrev b_SS_makeReady : ByteArray := prog_10_method_3_code
abbrev y_SS_makeReady : MethodName := ⟨"ProtectedLine$StreamSource", "makeReady", "(IIJ)V"⟩
abbrev b_CO_hash : ByteArray := prog_3_method_2_code
abbrev y_CO_hash : MethodName := ⟨"ProtectedLine$Code", "hash", "(I)I"⟩
abbrev b_PL_tick : ByteArray := prog_1_method_3_code
abbrev y_PL_tick : MethodName := ⟨"ProtectedLine", "tick", "(I)Z"⟩
abbrev b_PL_passTick : ByteArray := prog_1_method_21_code
abbrev y_PL_passTick : MethodName := ⟨"ProtectedLine", "passTick", "()V"⟩
abbrev b_BL_arriving : ByteArray := prog_2_method_2_code
abbrev y_BL_arriving : MethodName := ⟨"ProtectedLine$BackLine", "arriving", "(Z)I"⟩
abbrev b_LI_hear : ByteArray := prog_6_method_2_code
abbrev y_LI_hear : MethodName := ⟨"ProtectedLine$Listener", "hear", "(I)V"⟩
abbrev b_NA_transmit : ByteArray := prog_7_method_4_code
abbrev y_NA_transmit : MethodName := ⟨"ProtectedLine$NodeA", "transmit", "(LProtectedLine$Line;LProtectedLine$Line;)V"⟩
abbrev b_NA_justification : ByteArray := prog_7_method_5_code
abbrev y_NA_justification : MethodName := ⟨"ProtectedLine$NodeA", "justification", "()I"⟩
abbrev b_NA_fill : ByteArray := prog_7_method_6_code
abbrev y_NA_fill : MethodName := ⟨"ProtectedLine$NodeA", "fill", "(I)V"⟩
abbrev b_CO_pointerByte : ByteArray := prog_3_method_5_code
abbrev y_CO_pointerByte : MethodName := ⟨"ProtectedLine$Code", "pointerByte", "(I)I"⟩
abbrev b_CS_nextByte : ByteArray := prog_4_method_2_code
abbrev y_CS_nextByte : MethodName := ⟨"ProtectedLine$ContainerSource", "nextByte", "()I"⟩
abbrev b_SS_nextByte : ByteArray := prog_10_method_4_code
abbrev y_SS_nextByte : MethodName := ⟨"ProtectedLine$StreamSource", "nextByte", "()I"⟩
abbrev b_SS_begin : ByteArray := prog_10_method_5_code
abbrev y_SS_begin : MethodName := ⟨"ProtectedLine$StreamSource", "begin", "()V"⟩
abbrev b_NA_bridgeOn : ByteArray := prog_7_method_3_code
abbrev y_NA_bridgeOn : MethodName := ⟨"ProtectedLine$NodeA", "bridgeOn", "()Z"⟩
abbrev b_LN_launch : ByteArray := prog_5_method_2_code
abbrev y_LN_launch : MethodName := ⟨"ProtectedLine$Line", "launch", "(I[I)V"⟩
abbrev b_LN_slotOf : ByteArray := prog_5_method_10_code
abbrev y_LN_slotOf : MethodName := ⟨"ProtectedLine$Line", "slotOf", "(I)I"⟩
abbrev b_LN_joinedFrom : ByteArray := prog_5_method_11_code
abbrev y_LN_joinedFrom : MethodName := ⟨"ProtectedLine$Line", "joinedFrom", "([II)I"⟩
abbrev b_LN_receive : ByteArray := prog_5_method_4_code
abbrev y_LN_receive : MethodName := ⟨"ProtectedLine$Line", "receive", "()V"⟩
abbrev b_LN_bringIn : ByteArray := prog_5_method_5_code
abbrev y_LN_bringIn : MethodName := ⟨"ProtectedLine$Line", "bringIn", "(I)V"⟩
abbrev b_JA_fill : ByteArray := prog_16_method_103_code
abbrev y_JA_fill : MethodName := ⟨"java/util/Arrays", "fill", "([II)V"⟩
abbrev b_LN_align : ByteArray := prog_5_method_6_code
abbrev y_LN_align : MethodName := ⟨"ProtectedLine$Line", "align", "(Z)V"⟩
abbrev b_LN_readable : ByteArray := prog_5_method_8_code
abbrev y_LN_readable : MethodName := ⟨"ProtectedLine$Line", "readable", "()Z"⟩
abbrev b_LN_plainAt : ByteArray := prog_5_method_9_code
abbrev y_LN_plainAt : MethodName := ⟨"ProtectedLine$Line", "plainAt", "(I)I"⟩
abbrev b_JI_bitCount : ByteArray := prog_14_method_49_code
abbrev y_JI_bitCount : MethodName := ⟨"java/lang/Integer", "bitCount", "(I)I"⟩
abbrev b_LN_failed : ByteArray := prog_5_method_7_code
abbrev y_LN_failed : MethodName := ⟨"ProtectedLine$Line", "failed", "()Z"⟩
abbrev b_SW_decide : ByteArray := prog_11_method_2_code
abbrev y_SW_decide : MethodName := ⟨"ProtectedLine$Switch", "decide", "(ZZ)V"⟩
abbrev b_SW_pressing : ByteArray := prog_11_method_3_code
abbrev y_SW_pressing : MethodName := ⟨"ProtectedLine$Switch", "pressing", "(Z)I"⟩
abbrev b_SW_waitOn : ByteArray := prog_11_method_4_code
abbrev y_SW_waitOn : MethodName := ⟨"ProtectedLine$Switch", "waitOn", "()I"⟩
abbrev b_PL_lineAt : ByteArray := prog_1_method_22_code
abbrev y_PL_lineAt : MethodName := ⟨"ProtectedLine", "lineAt", "(I)LProtectedLine$Line;"⟩
abbrev b_PR_take : ByteArray := prog_8_method_3_code
abbrev y_PR_take : MethodName := ⟨"ProtectedLine$PointerReader", "take", "(LProtectedLine$Line;)V"⟩
abbrev b_PR_follow : ByteArray := prog_8_method_5_code
abbrev y_PR_follow : MethodName := ⟨"ProtectedLine$PointerReader", "follow", "(I)I"⟩
abbrev b_PR_seek : ByteArray := prog_8_method_7_code
abbrev y_PR_seek : MethodName := ⟨"ProtectedLine$PointerReader", "seek", "(I)V"⟩
abbrev b_PR_countPlain : ByteArray := prog_8_method_9_code
abbrev y_PR_countPlain : MethodName := ⟨"ProtectedLine$PointerReader", "countPlain", "(I)V"⟩
abbrev b_CO_plainFor : ByteArray := prog_3_method_6_code
abbrev y_CO_plainFor : MethodName := ⟨"ProtectedLine$Code", "plainFor", "(I)I"⟩
abbrev b_PR_endRows : ByteArray := prog_8_method_10_code
abbrev y_PR_endRows : MethodName := ⟨"ProtectedLine$PointerReader", "endRows", "()V"⟩
abbrev b_PR_shiftIn : ByteArray := prog_8_method_6_code
abbrev y_PR_shiftIn : MethodName := ⟨"ProtectedLine$PointerReader", "shiftIn", "(I)I"⟩
abbrev b_PR_doubt : ByteArray := prog_8_method_8_code
abbrev y_PR_doubt : MethodName := ⟨"ProtectedLine$PointerReader", "doubt", "(I)V"⟩
abbrev b_PR_breakOff : ByteArray := prog_8_method_11_code
abbrev y_PR_breakOff : MethodName := ⟨"ProtectedLine$PointerReader", "breakOff", "()V"⟩
abbrev b_SR_hunt : ByteArray := prog_9_method_2_code
abbrev y_SR_hunt : MethodName := ⟨"ProtectedLine$StreamReader", "hunt", "()V"⟩
abbrev b_PR_beginContainer : ByteArray := prog_8_method_4_code
abbrev y_PR_beginContainer : MethodName := ⟨"ProtectedLine$PointerReader", "beginContainer", "(I)V"⟩
abbrev b_SR_give : ByteArray := prog_9_method_3_code
abbrev y_SR_give : MethodName := ⟨"ProtectedLine$StreamReader", "give", "(I)V"⟩
abbrev b_SR_takeFrameByte : ByteArray := prog_9_method_5_code
abbrev y_SR_takeFrameByte : MethodName := ⟨"ProtectedLine$StreamReader", "takeFrameByte", "(I)V"⟩
abbrev b_SR_endFrame : ByteArray := prog_9_method_6_code
abbrev y_SR_endFrame : MethodName := ⟨"ProtectedLine$StreamReader", "endFrame", "(I)V"⟩
abbrev b_SR_slotOf : ByteArray := prog_9_method_8_code
abbrev y_SR_slotOf : MethodName := ⟨"ProtectedLine$StreamReader", "slotOf", "(I)I"⟩
abbrev b_SR_takeHeader : ByteArray := prog_9_method_4_code
abbrev y_SR_takeHeader : MethodName := ⟨"ProtectedLine$StreamReader", "takeHeader", "(I)V"⟩
abbrev b_CO_lengthRepaired : ByteArray := prog_3_method_4_code
abbrev y_CO_lengthRepaired : MethodName := ⟨"ProtectedLine$Code", "lengthRepaired", "(II)I"⟩
abbrev b_CO_lengthIn : ByteArray := prog_3_method_3_code
abbrev y_CO_lengthIn : MethodName := ⟨"ProtectedLine$Code", "lengthIn", "(II)I"⟩
abbrev b_PR_gap : ByteArray := prog_8_method_2_code
abbrev y_PR_gap : MethodName := ⟨"ProtectedLine$PointerReader", "gap", "()V"⟩
abbrev b_SW_kByte : ByteArray := prog_11_method_5_code
abbrev y_SW_kByte : MethodName := ⟨"ProtectedLine$Switch", "kByte", "()I"⟩
abbrev b_BL_launch : ByteArray := prog_2_method_3_code
abbrev y_BL_launch : MethodName := ⟨"ProtectedLine$BackLine", "launch", "(I)V"⟩
abbrev b_PL_cut : ByteArray := prog_1_method_4_code
abbrev y_PL_cut : MethodName := ⟨"ProtectedLine", "cut", "(IZ)Z"⟩
abbrev b_PL_isLine : ByteArray := prog_1_method_23_code
abbrev y_PL_isLine : MethodName := ⟨"ProtectedLine", "isLine", "(I)Z"⟩
abbrev b_PL_damage : ByteArray := prog_1_method_5_code
abbrev y_PL_damage : MethodName := ⟨"ProtectedLine", "damage", "(III)Z"⟩
abbrev b_PL_isPlace : ByteArray := prog_1_method_24_code
abbrev y_PL_isPlace : MethodName := ⟨"ProtectedLine", "isPlace", "(I)Z"⟩
abbrev b_PL_drift : ByteArray := prog_1_method_6_code
abbrev y_PL_drift : MethodName := ⟨"ProtectedLine", "drift", "(I)Z"⟩
abbrev b_NA_owe : ByteArray := prog_7_method_2_code
abbrev y_NA_owe : MethodName := ⟨"ProtectedLine$NodeA", "owe", "(I)Z"⟩
abbrev b_PL_command : ByteArray := prog_1_method_7_code
abbrev y_PL_command : MethodName := ⟨"ProtectedLine", "command", "(I)Z"⟩
abbrev b_PL_waiting : ByteArray := prog_1_method_8_code
abbrev y_PL_waiting : MethodName := ⟨"ProtectedLine", "waiting", "()I"⟩
abbrev b_PL_sent : ByteArray := prog_1_method_9_code
abbrev y_PL_sent : MethodName := ⟨"ProtectedLine", "sent", "(II)I"⟩
abbrev b_LN_latestByte : ByteArray := prog_5_method_3_code
abbrev y_LN_latestByte : MethodName := ⟨"ProtectedLine$Line", "latestByte", "(I)I"⟩
abbrev b_PL_alignment : ByteArray := prog_1_method_10_code
abbrev y_PL_alignment : MethodName := ⟨"ProtectedLine", "alignment", "(I)I"⟩
abbrev b_PL_errors : ByteArray := prog_1_method_11_code
abbrev y_PL_errors : MethodName := ⟨"ProtectedLine", "errors", "(I)I"⟩
abbrev b_PL_request : ByteArray := prog_1_method_12_code
abbrev y_PL_request : MethodName := ⟨"ProtectedLine", "request", "()I"⟩
abbrev b_PL_bridged : ByteArray := prog_1_method_13_code
abbrev y_PL_bridged : MethodName := ⟨"ProtectedLine", "bridged", "()Z"⟩
abbrev b_PL_selected : ByteArray := prog_1_method_14_code
abbrev y_PL_selected : MethodName := ⟨"ProtectedLine", "selected", "()I"⟩
abbrev b_PL_pointer : ByteArray := prog_1_method_15_code
abbrev y_PL_pointer : MethodName := ⟨"ProtectedLine", "pointer", "()I"⟩
abbrev b_PL_pathErrors : ByteArray := prog_1_method_16_code
abbrev y_PL_pathErrors : MethodName := ⟨"ProtectedLine", "pathErrors", "()I"⟩
abbrev b_PL_sync : ByteArray := prog_1_method_17_code
abbrev y_PL_sync : MethodName := ⟨"ProtectedLine", "sync", "()I"⟩
abbrev b_PL_delivered : ByteArray := prog_1_method_18_code
abbrev y_PL_delivered : MethodName := ⟨"ProtectedLine", "delivered", "()I"⟩
abbrev b_PL_dropped : ByteArray := prog_1_method_19_code
abbrev y_PL_dropped : MethodName := ⟨"ProtectedLine", "dropped", "()I"⟩
abbrev b_PL_got : ByteArray := prog_1_method_20_code
abbrev y_PL_got : MethodName := ⟨"ProtectedLine", "got", "(II)I"⟩
abbrev b_SR_kept : ByteArray := prog_9_method_7_code
abbrev y_SR_kept : MethodName := ⟨"ProtectedLine$StreamReader", "kept", "(II)I"⟩
abbrev b_LAW_cell : ByteArray := method_2_code
abbrev y_LAW_cell : MethodName := ⟨"ProtectedLineLaw", "cell", "([II)I"⟩
abbrev b_RM_init : ByteArray := prog_13_method_1_code
abbrev y_RM_init : MethodName := ⟨"ProtectedLineModel", "<init>", "(IIII)V"⟩
abbrev b_RM_send : ByteArray := prog_13_method_5_code
abbrev y_RM_send : MethodName := ⟨"ProtectedLineModel", "send", "(IJ)Z"⟩
abbrev b_RM_cut : ByteArray := prog_13_method_6_code
abbrev y_RM_cut : MethodName := ⟨"ProtectedLineModel", "cut", "(IZ)Z"⟩
abbrev b_RM_isLine : ByteArray := prog_13_method_3_code
abbrev y_RM_isLine : MethodName := ⟨"ProtectedLineModel", "isLine", "(I)Z"⟩
abbrev b_RM_damage : ByteArray := prog_13_method_7_code
abbrev y_RM_damage : MethodName := ⟨"ProtectedLineModel", "damage", "(III)Z"⟩
abbrev b_RM_isPlace : ByteArray := prog_13_method_4_code
abbrev y_RM_isPlace : MethodName := ⟨"ProtectedLineModel", "isPlace", "(I)Z"⟩
abbrev b_RM_drift : ByteArray := prog_13_method_8_code
abbrev y_RM_drift : MethodName := ⟨"ProtectedLineModel", "drift", "(I)Z"⟩
abbrev b_RM_command : ByteArray := prog_13_method_9_code
abbrev y_RM_command : MethodName := ⟨"ProtectedLineModel", "command", "(I)Z"⟩
abbrev b_RM_tick : ByteArray := prog_13_method_10_code
abbrev y_RM_tick : MethodName := ⟨"ProtectedLineModel", "tick", "(I)Z"⟩
abbrev b_RM_hear : ByteArray := prog_13_method_11_code
abbrev y_RM_hear : MethodName := ⟨"ProtectedLineModel", "hear", "()V"⟩
abbrev b_RM_build : ByteArray := prog_13_method_15_code
abbrev y_RM_build : MethodName := ⟨"ProtectedLineModel", "build", "()V"⟩
abbrev b_RM_contained : ByteArray := prog_13_method_14_code
abbrev y_RM_contained : MethodName := ⟨"ProtectedLineModel", "contained", "()I"⟩
abbrev b_RM_streamed : ByteArray := prog_13_method_13_code
abbrev y_RM_streamed : MethodName := ⟨"ProtectedLineModel", "streamed", "()I"⟩
abbrev b_RM_load : ByteArray := prog_13_method_12_code
abbrev y_RM_load : MethodName := ⟨"ProtectedLineModel", "load", "()V"⟩
abbrev b_RM_hash : ByteArray := prog_13_method_2_code
abbrev y_RM_hash : MethodName := ⟨"ProtectedLineModel", "hash", "(I)I"⟩
abbrev b_RM_put : ByteArray := prog_13_method_16_code
abbrev y_RM_put : MethodName := ⟨"ProtectedLineModel", "put", "(I)V"⟩
abbrev b_RM_arrive : ByteArray := prog_13_method_17_code
abbrev y_RM_arrive : MethodName := ⟨"ProtectedLineModel", "arrive", "()V"⟩
abbrev b_RM_align : ByteArray := prog_13_method_18_code
abbrev y_RM_align : MethodName := ⟨"ProtectedLineModel", "align", "(I)V"⟩
abbrev b_RM_ones : ByteArray := prog_13_method_19_code
abbrev y_RM_ones : MethodName := ⟨"ProtectedLineModel", "ones", "(I)I"⟩
abbrev b_RM_listen : ByteArray := prog_13_method_20_code
abbrev y_RM_listen : MethodName := ⟨"ProtectedLineModel", "listen", "()V"⟩
abbrev b_RM_decide : ByteArray := prog_13_method_21_code
abbrev y_RM_decide : MethodName := ⟨"ProtectedLineModel", "decide", "()V"⟩
abbrev b_RM_select : ByteArray := prog_13_method_22_code
abbrev y_RM_select : MethodName := ⟨"ProtectedLineModel", "select", "()V"⟩
abbrev b_RM_read : ByteArray := prog_13_method_27_code
abbrev y_RM_read : MethodName := ⟨"ProtectedLineModel", "read", "(II)V"⟩
abbrev b_RM_plain : ByteArray := prog_13_method_25_code
abbrev y_RM_plain : MethodName := ⟨"ProtectedLineModel", "plain", "(I)I"⟩
abbrev b_RM_third : ByteArray := prog_13_method_26_code
abbrev y_RM_third : MethodName := ⟨"ProtectedLineModel", "third", "(I)Z"⟩
abbrev b_RM_hunt : ByteArray := prog_13_method_31_code
abbrev y_RM_hunt : MethodName := ⟨"ProtectedLineModel", "hunt", "()V"⟩
abbrev b_RM_found : ByteArray := prog_13_method_28_code
abbrev y_RM_found : MethodName := ⟨"ProtectedLineModel", "found", "(I)V"⟩
abbrev b_RM_unread : ByteArray := prog_13_method_29_code
abbrev y_RM_unread : MethodName := ⟨"ProtectedLineModel", "unread", "(I)Z"⟩
abbrev b_RM_lose : ByteArray := prog_13_method_24_code
abbrev y_RM_lose : MethodName := ⟨"ProtectedLineModel", "lose", "()V"⟩
abbrev b_RM_give : ByteArray := prog_13_method_30_code
abbrev y_RM_give : MethodName := ⟨"ProtectedLineModel", "give", "(IZ)V"⟩
abbrev b_RM_take : ByteArray := prog_13_method_33_code
abbrev y_RM_take : MethodName := ⟨"ProtectedLineModel", "take", "(I)V"⟩
abbrev b_RM_content : ByteArray := prog_13_method_37_code
abbrev y_RM_content : MethodName := ⟨"ProtectedLineModel", "content", "(I)V"⟩
abbrev b_RM_finish : ByteArray := prog_13_method_38_code
abbrev y_RM_finish : MethodName := ⟨"ProtectedLineModel", "finish", "()V"⟩
abbrev b_RM_pair : ByteArray := prog_13_method_34_code
abbrev y_RM_pair : MethodName := ⟨"ProtectedLineModel", "pair", "(II)V"⟩
abbrev b_RM_header : ByteArray := prog_13_method_32_code
abbrev y_RM_header : MethodName := ⟨"ProtectedLineModel", "header", "(II)Z"⟩
abbrev b_RM_enter : ByteArray := prog_13_method_36_code
abbrev y_RM_enter : MethodName := ⟨"ProtectedLineModel", "enter", "(I)V"⟩
abbrev b_RM_mend : ByteArray := prog_13_method_35_code
abbrev y_RM_mend : MethodName := ⟨"ProtectedLineModel", "mend", "(II)V"⟩
abbrev b_RM_gap : ByteArray := prog_13_method_23_code
abbrev y_RM_gap : MethodName := ⟨"ProtectedLineModel", "gap", "()V"⟩
abbrev b_RM_waiting : ByteArray := prog_13_method_39_code
abbrev y_RM_waiting : MethodName := ⟨"ProtectedLineModel", "waiting", "()I"⟩
abbrev b_RM_sent : ByteArray := prog_13_method_40_code
abbrev y_RM_sent : MethodName := ⟨"ProtectedLineModel", "sent", "(II)I"⟩
abbrev b_RM_alignment : ByteArray := prog_13_method_41_code
abbrev y_RM_alignment : MethodName := ⟨"ProtectedLineModel", "alignment", "(I)I"⟩
abbrev b_RM_errors : ByteArray := prog_13_method_42_code
abbrev y_RM_errors : MethodName := ⟨"ProtectedLineModel", "errors", "(I)I"⟩
abbrev b_RM_request : ByteArray := prog_13_method_43_code
abbrev y_RM_request : MethodName := ⟨"ProtectedLineModel", "request", "()I"⟩
abbrev b_RM_bridged : ByteArray := prog_13_method_44_code
abbrev y_RM_bridged : MethodName := ⟨"ProtectedLineModel", "bridged", "()Z"⟩
abbrev b_RM_selected : ByteArray := prog_13_method_45_code
abbrev y_RM_selected : MethodName := ⟨"ProtectedLineModel", "selected", "()I"⟩
abbrev b_RM_pointer : ByteArray := prog_13_method_46_code
abbrev y_RM_pointer : MethodName := ⟨"ProtectedLineModel", "pointer", "()I"⟩
abbrev b_RM_pathErrors : ByteArray := prog_13_method_47_code
abbrev y_RM_pathErrors : MethodName := ⟨"ProtectedLineModel", "pathErrors", "()I"⟩
abbrev b_RM_sync : ByteArray := prog_13_method_48_code
abbrev y_RM_sync : MethodName := ⟨"ProtectedLineModel", "sync", "()I"⟩
abbrev b_RM_delivered : ByteArray := prog_13_method_49_code
abbrev y_RM_delivered : MethodName := ⟨"ProtectedLineModel", "delivered", "()I"⟩
abbrev b_RM_dropped : ByteArray := prog_13_method_50_code
abbrev y_RM_dropped : MethodName := ⟨"ProtectedLineModel", "dropped", "()I"⟩
abbrev b_RM_got : ByteArray := prog_13_method_51_code
abbrev y_RM_got : MethodName := ⟨"ProtectedLineModel", "got", "(II)I"⟩
abbrev plCl : List vw_C := [("ProtectedLine", F_PL, 8), ("ProtectedLine$StreamSource", F_SS, 8), ("ProtectedLine$NodeA", F_NA, 6), ("ProtectedLine$ContainerSource", F_CS, 3), ("ProtectedLine$Listener", F_LI, 3), ("ProtectedLine$Line", F_LN, 12), ("ProtectedLine$BackLine", F_BL, 3), ("ProtectedLine$Switch", F_SW, 8), ("ProtectedLine$StreamReader", F_SR, 12), ("ProtectedLine$PointerReader", F_PR, 9), ("ProtectedLineModel", F_RM, 59)]
def plWG : List Cond := lw_tbl.filter goodWord
theorem plGood (w : Cond) (h : w ∈ plWG) : (w.onTables && w.keeps) = true ∨ ∃ ty, w = .arrayClass ty := good_of_word (List.mem_filter.mp h).2
theorem mt {w : Cond} (i : Nat) (h : tables_1[i]? = some w) (hg : goodWord w = true) : w ∈ plWG := List.mem_filter.mpr ⟨List.mem_append_right _ (List.mem_of_getElem? h), hg⟩
theorem ms {y : MethodName} {n : Nat} (i : Nat) (h : lw_privs[i]? = some (y, n)) : Cond.selects y.cls y y ∈ plWG := List.mem_filter.mpr ⟨List.mem_append_left _ (List.mem_map.mpr ⟨(y, n), List.mem_of_getElem? h, rfl⟩), rfl⟩
def plNF : List (String × Nat × String × String × String × String) := [("ProtectedLine", 111, "ProtectedLine$StreamSource", "queued", "I", "ProtectedLine"), ("ProtectedLine$Switch", 37, "ProtectedLine$Listener", "accepted", "I", "ProtectedLine"), ("ProtectedLine$NodeA", 30, "ProtectedLine$Listener", "accepted", "I", "ProtectedLine"), ("ProtectedLine", 148, "ProtectedLine$NodeA", "heard", "LProtectedLine$Listener;", "ProtectedLine"), ("ProtectedLine", 93, "ProtectedLine$Line", "broken", "Z", "ProtectedLine"), ("ProtectedLine", 100, "ProtectedLine$Line", "harm", "[I", "ProtectedLine"), ("ProtectedLine", 117, "ProtectedLine$Line", "state", "I", "ProtectedLine"), ("ProtectedLine", 120, "ProtectedLine$Line", "errorBits", "I", "ProtectedLine"), ("ProtectedLine", 168, "ProtectedLine$Switch", "heard", "LProtectedLine$Listener;", "ProtectedLine"), ("ProtectedLine", 107, "ProtectedLine$Switch", "order", "I", "ProtectedLine"), ("ProtectedLine", 123, "ProtectedLine$Switch", "asked", "I", "ProtectedLine"), ("ProtectedLine", 130, "ProtectedLine$Switch", "chosen", "I", "ProtectedLine"), ("ProtectedLine", 137, "ProtectedLine$StreamReader", "state", "I", "ProtectedLine"), ("ProtectedLine", 138, "ProtectedLine$StreamReader", "good", "I", "ProtectedLine"), ("ProtectedLine", 141, "ProtectedLine$StreamReader", "bad", "I", "ProtectedLine"), ("ProtectedLine", 133, "ProtectedLine$PointerReader", "v", "I", "ProtectedLine"), ("ProtectedLine", 136, "ProtectedLine$PointerReader", "errorBits", "I", "ProtectedLine")]
def plNM : List (String × Nat × MethodName × String) := [("ProtectedLine", 9, y_SS_init, "ProtectedLine"), ("ProtectedLine$NodeA", 11, y_LI_init, "ProtectedLine"), ("ProtectedLine$Switch", 9, y_LI_init, "ProtectedLine"), ("ProtectedLine", 64, y_SR_init, "ProtectedLine")]
set_option maxRecDepth 20000 in
theorem n_PL : ∀ a, a < 8 → ∀ b, b < 8 → a ≠ b → (F_PL a).2.1 ≠ (F_PL b).2.1 := by decide +kernel
set_option maxRecDepth 20000 in
theorem t_PL_ok : ∀ k, k < 8 → parseFieldDescriptor (F_PL k).2.2.1 = some (t_PL k) := by decide +kernel
set_option maxRecDepth 20000 in
theorem df_PL : ∀ j, j < 8 → defaultValue (t_PL j) = vp_V [.null, .null, .null, .null, .null, .null, .null, .null] j := by
  intro j hj
  rcases (show j = 0 ∨ j = 1 ∨ j = 2 ∨ j = 3 ∨ j = 4 ∨ j = 5 ∨ j = 6 ∨ j = 7 by omega) with rfl | rfl | rfl | rfl | rfl | rfl | rfl | rfl <;> rfl
set_option maxRecDepth 20000 in
theorem in_PL : ∀ w ∈ u_ws "ProtectedLine" F_PL 8, w ∈ plWG := by
  intro w hw
  obtain ⟨k, hk, rfl⟩ := List.mem_map.mp hw
  have hk := List.mem_range.mp hk
  rcases (show k = 0 ∨ k = 1 ∨ k = 2 ∨ k = 3 ∨ k = 4 ∨ k = 5 ∨ k = 6 ∨ k = 7 by omega) with rfl | rfl | rfl | rfl | rfl | rfl | rfl | rfl
  · exact mt 310 (by decide +kernel) rfl
  · exact mt 312 (by decide +kernel) rfl
  · exact mt 314 (by decide +kernel) rfl
  · exact mt 316 (by decide +kernel) rfl
  · exact mt 318 (by decide +kernel) rfl
  · exact mt 320 (by decide +kernel) rfl
  · exact mt 322 (by decide +kernel) rfl
  · exact mt 324 (by decide +kernel) rfl
set_option maxRecDepth 20000 in
theorem n_SS : ∀ a, a < 8 → ∀ b, b < 8 → a ≠ b → (F_SS a).2.1 ≠ (F_SS b).2.1 := by decide +kernel
set_option maxRecDepth 20000 in
theorem t_SS_ok : ∀ k, k < 8 → parseFieldDescriptor (F_SS k).2.2.1 = some (t_SS k) := by decide +kernel
set_option maxRecDepth 20000 in
theorem df_SS : ∀ j, j < 8 → defaultValue (t_SS j) = vp_V [.null, .null, .int 0, .int 0, .int 0, .null, .int 0, .int 0] j := by
  intro j hj
  rcases (show j = 0 ∨ j = 1 ∨ j = 2 ∨ j = 3 ∨ j = 4 ∨ j = 5 ∨ j = 6 ∨ j = 7 by omega) with rfl | rfl | rfl | rfl | rfl | rfl | rfl | rfl <;> rfl
set_option maxRecDepth 20000 in
theorem in_SS : ∀ w ∈ u_ws "ProtectedLine$StreamSource" F_SS 8, w ∈ plWG := by
  intro w hw
  obtain ⟨k, hk, rfl⟩ := List.mem_map.mp hw
  have hk := List.mem_range.mp hk
  rcases (show k = 0 ∨ k = 1 ∨ k = 2 ∨ k = 3 ∨ k = 4 ∨ k = 5 ∨ k = 6 ∨ k = 7 by omega) with rfl | rfl | rfl | rfl | rfl | rfl | rfl | rfl
  · exact mt 39 (by decide +kernel) rfl
  · exact mt 41 (by decide +kernel) rfl
  · exact mt 43 (by decide +kernel) rfl
  · exact mt 45 (by decide +kernel) rfl
  · exact mt 47 (by decide +kernel) rfl
  · exact mt 49 (by decide +kernel) rfl
  · exact mt 51 (by decide +kernel) rfl
  · exact mt 53 (by decide +kernel) rfl
set_option maxRecDepth 20000 in
theorem n_NA : ∀ a, a < 6 → ∀ b, b < 6 → a ≠ b → (F_NA a).2.1 ≠ (F_NA b).2.1 := by decide +kernel
set_option maxRecDepth 20000 in
theorem t_NA_ok : ∀ k, k < 6 → parseFieldDescriptor (F_NA k).2.2.1 = some (t_NA k) := by decide +kernel
set_option maxRecDepth 20000 in
theorem df_NA : ∀ j, j < 6 → defaultValue (t_NA j) = vp_V [.null, .null, .null, .int 0, .int 0, .int 0] j := by
  intro j hj
  rcases (show j = 0 ∨ j = 1 ∨ j = 2 ∨ j = 3 ∨ j = 4 ∨ j = 5 by omega) with rfl | rfl | rfl | rfl | rfl | rfl <;> rfl
set_option maxRecDepth 20000 in
theorem in_NA : ∀ w ∈ u_ws "ProtectedLine$NodeA" F_NA 6, w ∈ plWG := by
  intro w hw
  obtain ⟨k, hk, rfl⟩ := List.mem_map.mp hw
  have hk := List.mem_range.mp hk
  rcases (show k = 0 ∨ k = 1 ∨ k = 2 ∨ k = 3 ∨ k = 4 ∨ k = 5 by omega) with rfl | rfl | rfl | rfl | rfl | rfl
  · exact mt 104 (by decide +kernel) rfl
  · exact mt 106 (by decide +kernel) rfl
  · exact mt 108 (by decide +kernel) rfl
  · exact mt 110 (by decide +kernel) rfl
  · exact mt 112 (by decide +kernel) rfl
  · exact mt 114 (by decide +kernel) rfl
set_option maxRecDepth 20000 in
theorem n_CS : ∀ a, a < 3 → ∀ b, b < 3 → a ≠ b → (F_CS a).2.1 ≠ (F_CS b).2.1 := by decide +kernel
set_option maxRecDepth 20000 in
theorem t_CS_ok : ∀ k, k < 3 → parseFieldDescriptor (F_CS k).2.2.1 = some (t_CS k) := by decide +kernel
set_option maxRecDepth 20000 in
theorem df_CS : ∀ j, j < 3 → defaultValue (t_CS j) = vp_V [.null, .int 0, .int 0] j := by
  intro j hj
  rcases (show j = 0 ∨ j = 1 ∨ j = 2 by omega) with rfl | rfl | rfl <;> rfl
set_option maxRecDepth 20000 in
theorem in_CS : ∀ w ∈ u_ws "ProtectedLine$ContainerSource" F_CS 3, w ∈ plWG := by
  intro w hw
  obtain ⟨k, hk, rfl⟩ := List.mem_map.mp hw
  have hk := List.mem_range.mp hk
  rcases (show k = 0 ∨ k = 1 ∨ k = 2 by omega) with rfl | rfl | rfl
  · exact mt 68 (by decide +kernel) rfl
  · exact mt 70 (by decide +kernel) rfl
  · exact mt 72 (by decide +kernel) rfl
set_option maxRecDepth 20000 in
theorem n_LI : ∀ a, a < 3 → ∀ b, b < 3 → a ≠ b → (F_LI a).2.1 ≠ (F_LI b).2.1 := by decide +kernel
set_option maxRecDepth 20000 in
theorem t_LI_ok : ∀ k, k < 3 → parseFieldDescriptor (F_LI k).2.2.1 = some (t_LI k) := by decide +kernel
set_option maxRecDepth 20000 in
theorem df_LI : ∀ j, j < 3 → defaultValue (t_LI j) = vp_V [.int 0, .int 0, .int 0] j := by
  intro j hj
  rcases (show j = 0 ∨ j = 1 ∨ j = 2 by omega) with rfl | rfl | rfl <;> rfl
set_option maxRecDepth 20000 in
theorem in_LI : ∀ w ∈ u_ws "ProtectedLine$Listener" F_LI 3, w ∈ plWG := by
  intro w hw
  obtain ⟨k, hk, rfl⟩ := List.mem_map.mp hw
  have hk := List.mem_range.mp hk
  rcases (show k = 0 ∨ k = 1 ∨ k = 2 by omega) with rfl | rfl | rfl
  · exact mt 90 (by decide +kernel) rfl
  · exact mt 92 (by decide +kernel) rfl
  · exact mt 94 (by decide +kernel) rfl
set_option maxRecDepth 20000 in
theorem n_LN : ∀ a, a < 12 → ∀ b, b < 12 → a ≠ b → (F_LN a).2.1 ≠ (F_LN b).2.1 := by decide +kernel
set_option maxRecDepth 20000 in
theorem t_LN_ok : ∀ k, k < 12 → parseFieldDescriptor (F_LN k).2.2.1 = some (t_LN k) := by decide +kernel
set_option maxRecDepth 20000 in
theorem df_LN : ∀ j, j < 12 → defaultValue (t_LN j) = vp_V [.int 0, .null, .int 0, .int 0, .int 0, .null, .null, .int 0, .int 0, .int 0, .int 0, .int 0] j := by
  intro j hj
  rcases (show j = 0 ∨ j = 1 ∨ j = 2 ∨ j = 3 ∨ j = 4 ∨ j = 5 ∨ j = 6 ∨ j = 7 ∨ j = 8 ∨ j = 9 ∨ j = 10 ∨ j = 11 by omega) with rfl | rfl | rfl | rfl | rfl | rfl | rfl | rfl | rfl | rfl | rfl | rfl <;> rfl
set_option maxRecDepth 20000 in
theorem in_LN : ∀ w ∈ u_ws "ProtectedLine$Line" F_LN 12, w ∈ plWG := by
  intro w hw
  obtain ⟨k, hk, rfl⟩ := List.mem_map.mp hw
  have hk := List.mem_range.mp hk
  rcases (show k = 0 ∨ k = 1 ∨ k = 2 ∨ k = 3 ∨ k = 4 ∨ k = 5 ∨ k = 6 ∨ k = 7 ∨ k = 8 ∨ k = 9 ∨ k = 10 ∨ k = 11 by omega) with rfl | rfl | rfl | rfl | rfl | rfl | rfl | rfl | rfl | rfl | rfl | rfl
  · exact mt 142 (by decide +kernel) rfl
  · exact mt 144 (by decide +kernel) rfl
  · exact mt 146 (by decide +kernel) rfl
  · exact mt 148 (by decide +kernel) rfl
  · exact mt 150 (by decide +kernel) rfl
  · exact mt 152 (by decide +kernel) rfl
  · exact mt 154 (by decide +kernel) rfl
  · exact mt 156 (by decide +kernel) rfl
  · exact mt 158 (by decide +kernel) rfl
  · exact mt 160 (by decide +kernel) rfl
  · exact mt 162 (by decide +kernel) rfl
  · exact mt 164 (by decide +kernel) rfl
set_option maxRecDepth 20000 in
theorem n_BL : ∀ a, a < 3 → ∀ b, b < 3 → a ≠ b → (F_BL a).2.1 ≠ (F_BL b).2.1 := by decide +kernel
set_option maxRecDepth 20000 in
theorem t_BL_ok : ∀ k, k < 3 → parseFieldDescriptor (F_BL k).2.2.1 = some (t_BL k) := by decide +kernel
set_option maxRecDepth 20000 in
theorem df_BL : ∀ j, j < 3 → defaultValue (t_BL j) = vp_V [.int 0, .null, .int 0] j := by
  intro j hj
  rcases (show j = 0 ∨ j = 1 ∨ j = 2 by omega) with rfl | rfl | rfl <;> rfl
set_option maxRecDepth 20000 in
theorem in_BL : ∀ w ∈ u_ws "ProtectedLine$BackLine" F_BL 3, w ∈ plWG := by
  intro w hw
  obtain ⟨k, hk, rfl⟩ := List.mem_map.mp hw
  have hk := List.mem_range.mp hk
  rcases (show k = 0 ∨ k = 1 ∨ k = 2 by omega) with rfl | rfl | rfl
  · exact mt 176 (by decide +kernel) rfl
  · exact mt 178 (by decide +kernel) rfl
  · exact mt 180 (by decide +kernel) rfl
set_option maxRecDepth 20000 in
theorem n_SW : ∀ a, a < 8 → ∀ b, b < 8 → a ≠ b → (F_SW a).2.1 ≠ (F_SW b).2.1 := by decide +kernel
set_option maxRecDepth 20000 in
theorem t_SW_ok : ∀ k, k < 8 → parseFieldDescriptor (F_SW k).2.2.1 = some (t_SW k) := by decide +kernel
set_option maxRecDepth 20000 in
theorem df_SW : ∀ j, j < 8 → defaultValue (t_SW j) = vp_V [.int 0, .int 0, .null, .int 0, .int 0, .int 0, .int 0, .int 0] j := by
  intro j hj
  rcases (show j = 0 ∨ j = 1 ∨ j = 2 ∨ j = 3 ∨ j = 4 ∨ j = 5 ∨ j = 6 ∨ j = 7 by omega) with rfl | rfl | rfl | rfl | rfl | rfl | rfl | rfl <;> rfl
set_option maxRecDepth 20000 in
theorem in_SW : ∀ w ∈ u_ws "ProtectedLine$Switch" F_SW 8, w ∈ plWG := by
  intro w hw
  obtain ⟨k, hk, rfl⟩ := List.mem_map.mp hw
  have hk := List.mem_range.mp hk
  rcases (show k = 0 ∨ k = 1 ∨ k = 2 ∨ k = 3 ∨ k = 4 ∨ k = 5 ∨ k = 6 ∨ k = 7 by omega) with rfl | rfl | rfl | rfl | rfl | rfl | rfl | rfl
  · exact mt 203 (by decide +kernel) rfl
  · exact mt 205 (by decide +kernel) rfl
  · exact mt 207 (by decide +kernel) rfl
  · exact mt 209 (by decide +kernel) rfl
  · exact mt 211 (by decide +kernel) rfl
  · exact mt 213 (by decide +kernel) rfl
  · exact mt 215 (by decide +kernel) rfl
  · exact mt 217 (by decide +kernel) rfl
set_option maxRecDepth 20000 in
theorem n_SR : ∀ a, a < 12 → ∀ b, b < 12 → a ≠ b → (F_SR a).2.1 ≠ (F_SR b).2.1 := by decide +kernel
set_option maxRecDepth 20000 in
theorem t_SR_ok : ∀ k, k < 12 → parseFieldDescriptor (F_SR k).2.2.1 = some (t_SR k) := by decide +kernel
set_option maxRecDepth 20000 in
theorem df_SR : ∀ j, j < 12 → defaultValue (t_SR j) = vp_V [.int 0, .int 0, .int 0, .int 0, .int 0, .int 0, .int 0, .null, .int 0, .int 0, .null, .null] j := by
  intro j hj
  rcases (show j = 0 ∨ j = 1 ∨ j = 2 ∨ j = 3 ∨ j = 4 ∨ j = 5 ∨ j = 6 ∨ j = 7 ∨ j = 8 ∨ j = 9 ∨ j = 10 ∨ j = 11 by omega) with rfl | rfl | rfl | rfl | rfl | rfl | rfl | rfl | rfl | rfl | rfl | rfl <;> rfl
set_option maxRecDepth 20000 in
theorem in_SR : ∀ w ∈ u_ws "ProtectedLine$StreamReader" F_SR 12, w ∈ plWG := by
  intro w hw
  obtain ⟨k, hk, rfl⟩ := List.mem_map.mp hw
  have hk := List.mem_range.mp hk
  rcases (show k = 0 ∨ k = 1 ∨ k = 2 ∨ k = 3 ∨ k = 4 ∨ k = 5 ∨ k = 6 ∨ k = 7 ∨ k = 8 ∨ k = 9 ∨ k = 10 ∨ k = 11 by omega) with rfl | rfl | rfl | rfl | rfl | rfl | rfl | rfl | rfl | rfl | rfl | rfl
  · exact mt 241 (by decide +kernel) rfl
  · exact mt 243 (by decide +kernel) rfl
  · exact mt 245 (by decide +kernel) rfl
  · exact mt 247 (by decide +kernel) rfl
  · exact mt 249 (by decide +kernel) rfl
  · exact mt 251 (by decide +kernel) rfl
  · exact mt 253 (by decide +kernel) rfl
  · exact mt 255 (by decide +kernel) rfl
  · exact mt 257 (by decide +kernel) rfl
  · exact mt 259 (by decide +kernel) rfl
  · exact mt 261 (by decide +kernel) rfl
  · exact mt 263 (by decide +kernel) rfl
set_option maxRecDepth 20000 in
theorem n_PR : ∀ a, a < 9 → ∀ b, b < 9 → a ≠ b → (F_PR a).2.1 ≠ (F_PR b).2.1 := by decide +kernel
set_option maxRecDepth 20000 in
theorem t_PR_ok : ∀ k, k < 9 → parseFieldDescriptor (F_PR k).2.2.1 = some (t_PR k) := by decide +kernel
set_option maxRecDepth 20000 in
theorem df_PR : ∀ j, j < 9 → defaultValue (t_PR j) = vp_V [.null, .int 0, .int 0, .int 0, .int 0, .int 0, .int 0, .int 0, .int 0] j := by
  intro j hj
  rcases (show j = 0 ∨ j = 1 ∨ j = 2 ∨ j = 3 ∨ j = 4 ∨ j = 5 ∨ j = 6 ∨ j = 7 ∨ j = 8 by omega) with rfl | rfl | rfl | rfl | rfl | rfl | rfl | rfl | rfl <;> rfl
set_option maxRecDepth 20000 in
theorem in_PR : ∀ w ∈ u_ws "ProtectedLine$PointerReader" F_PR 9, w ∈ plWG := by
  intro w hw
  obtain ⟨k, hk, rfl⟩ := List.mem_map.mp hw
  have hk := List.mem_range.mp hk
  rcases (show k = 0 ∨ k = 1 ∨ k = 2 ∨ k = 3 ∨ k = 4 ∨ k = 5 ∨ k = 6 ∨ k = 7 ∨ k = 8 by omega) with rfl | rfl | rfl | rfl | rfl | rfl | rfl | rfl | rfl
  · exact mt 283 (by decide +kernel) rfl
  · exact mt 285 (by decide +kernel) rfl
  · exact mt 287 (by decide +kernel) rfl
  · exact mt 289 (by decide +kernel) rfl
  · exact mt 291 (by decide +kernel) rfl
  · exact mt 293 (by decide +kernel) rfl
  · exact mt 295 (by decide +kernel) rfl
  · exact mt 297 (by decide +kernel) rfl
  · exact mt 299 (by decide +kernel) rfl
set_option maxRecDepth 20000 in
theorem n_RM : ∀ a, a < 59 → ∀ b, b < 59 → a ≠ b → (F_RM a).2.1 ≠ (F_RM b).2.1 := by decide +kernel
set_option maxRecDepth 20000 in
theorem t_RM_ok : ∀ k, k < 59 → parseFieldDescriptor (F_RM k).2.2.1 = some (t_RM k) := by decide +kernel
set_option maxRecDepth 20000 in
theorem df_RM : ∀ j, j < 59 → defaultValue (t_RM j) = vp_V [.null, .int 0, .int 0, .int 0, .int 0, .null, .null, .int 0, .int 0, .int 0, .int 0, .int 0, .int 0, .int 0, .int 0, .int 0, .int 0, .int 0, .int 0, .int 0, .null, .null, .null, .null, .null, .null, .null, .null, .null, .null, .null, .null, .null, .int 0, .int 0, .int 0, .int 0, .int 0, .int 0, .int 0, .int 0, .int 0, .int 0, .int 0, .int 0, .int 0, .int 0, .int 0, .int 0, .int 0, .int 0, .int 0, .int 0, .int 0, .int 0, .null, .int 0, .int 0, .null] j := by
  intro j hj
  rcases (show j = 0 ∨ j = 1 ∨ j = 2 ∨ j = 3 ∨ j = 4 ∨ j = 5 ∨ j = 6 ∨ j = 7 ∨ j = 8 ∨ j = 9 ∨ j = 10 ∨ j = 11 ∨ j = 12 ∨ j = 13 ∨ j = 14 ∨ j = 15 ∨ j = 16 ∨ j = 17 ∨ j = 18 ∨ j = 19 ∨ j = 20 ∨ j = 21 ∨ j = 22 ∨ j = 23 ∨ j = 24 ∨ j = 25 ∨ j = 26 ∨ j = 27 ∨ j = 28 ∨ j = 29 ∨ j = 30 ∨ j = 31 ∨ j = 32 ∨ j = 33 ∨ j = 34 ∨ j = 35 ∨ j = 36 ∨ j = 37 ∨ j = 38 ∨ j = 39 ∨ j = 40 ∨ j = 41 ∨ j = 42 ∨ j = 43 ∨ j = 44 ∨ j = 45 ∨ j = 46 ∨ j = 47 ∨ j = 48 ∨ j = 49 ∨ j = 50 ∨ j = 51 ∨ j = 52 ∨ j = 53 ∨ j = 54 ∨ j = 55 ∨ j = 56 ∨ j = 57 ∨ j = 58 by omega) with rfl | rfl | rfl | rfl | rfl | rfl | rfl | rfl | rfl | rfl | rfl | rfl | rfl | rfl | rfl | rfl | rfl | rfl | rfl | rfl | rfl | rfl | rfl | rfl | rfl | rfl | rfl | rfl | rfl | rfl | rfl | rfl | rfl | rfl | rfl | rfl | rfl | rfl | rfl | rfl | rfl | rfl | rfl | rfl | rfl | rfl | rfl | rfl | rfl | rfl | rfl | rfl | rfl | rfl | rfl | rfl | rfl | rfl | rfl <;> rfl
set_option maxRecDepth 20000 in
theorem in_RM : ∀ w ∈ u_ws "ProtectedLineModel" F_RM 59, w ∈ plWG := by
  intro w hw
  obtain ⟨k, hk, rfl⟩ := List.mem_map.mp hw
  have hk := List.mem_range.mp hk
  rcases (show k = 0 ∨ k = 1 ∨ k = 2 ∨ k = 3 ∨ k = 4 ∨ k = 5 ∨ k = 6 ∨ k = 7 ∨ k = 8 ∨ k = 9 ∨ k = 10 ∨ k = 11 ∨ k = 12 ∨ k = 13 ∨ k = 14 ∨ k = 15 ∨ k = 16 ∨ k = 17 ∨ k = 18 ∨ k = 19 ∨ k = 20 ∨ k = 21 ∨ k = 22 ∨ k = 23 ∨ k = 24 ∨ k = 25 ∨ k = 26 ∨ k = 27 ∨ k = 28 ∨ k = 29 ∨ k = 30 ∨ k = 31 ∨ k = 32 ∨ k = 33 ∨ k = 34 ∨ k = 35 ∨ k = 36 ∨ k = 37 ∨ k = 38 ∨ k = 39 ∨ k = 40 ∨ k = 41 ∨ k = 42 ∨ k = 43 ∨ k = 44 ∨ k = 45 ∨ k = 46 ∨ k = 47 ∨ k = 48 ∨ k = 49 ∨ k = 50 ∨ k = 51 ∨ k = 52 ∨ k = 53 ∨ k = 54 ∨ k = 55 ∨ k = 56 ∨ k = 57 ∨ k = 58 by omega) with rfl | rfl | rfl | rfl | rfl | rfl | rfl | rfl | rfl | rfl | rfl | rfl | rfl | rfl | rfl | rfl | rfl | rfl | rfl | rfl | rfl | rfl | rfl | rfl | rfl | rfl | rfl | rfl | rfl | rfl | rfl | rfl | rfl | rfl | rfl | rfl | rfl | rfl | rfl | rfl | rfl | rfl | rfl | rfl | rfl | rfl | rfl | rfl | rfl | rfl | rfl | rfl | rfl | rfl | rfl | rfl | rfl | rfl | rfl
  · exact mt 701 (by decide +kernel) rfl
  · exact mt 703 (by decide +kernel) rfl
  · exact mt 705 (by decide +kernel) rfl
  · exact mt 707 (by decide +kernel) rfl
  · exact mt 709 (by decide +kernel) rfl
  · exact mt 711 (by decide +kernel) rfl
  · exact mt 713 (by decide +kernel) rfl
  · exact mt 715 (by decide +kernel) rfl
  · exact mt 717 (by decide +kernel) rfl
  · exact mt 719 (by decide +kernel) rfl
  · exact mt 721 (by decide +kernel) rfl
  · exact mt 723 (by decide +kernel) rfl
  · exact mt 725 (by decide +kernel) rfl
  · exact mt 727 (by decide +kernel) rfl
  · exact mt 729 (by decide +kernel) rfl
  · exact mt 731 (by decide +kernel) rfl
  · exact mt 733 (by decide +kernel) rfl
  · exact mt 735 (by decide +kernel) rfl
  · exact mt 737 (by decide +kernel) rfl
  · exact mt 739 (by decide +kernel) rfl
  · exact mt 741 (by decide +kernel) rfl
  · exact mt 743 (by decide +kernel) rfl
  · exact mt 745 (by decide +kernel) rfl
  · exact mt 747 (by decide +kernel) rfl
  · exact mt 749 (by decide +kernel) rfl
  · exact mt 751 (by decide +kernel) rfl
  · exact mt 753 (by decide +kernel) rfl
  · exact mt 755 (by decide +kernel) rfl
  · exact mt 757 (by decide +kernel) rfl
  · exact mt 759 (by decide +kernel) rfl
  · exact mt 761 (by decide +kernel) rfl
  · exact mt 763 (by decide +kernel) rfl
  · exact mt 765 (by decide +kernel) rfl
  · exact mt 767 (by decide +kernel) rfl
  · exact mt 769 (by decide +kernel) rfl
  · exact mt 771 (by decide +kernel) rfl
  · exact mt 773 (by decide +kernel) rfl
  · exact mt 775 (by decide +kernel) rfl
  · exact mt 777 (by decide +kernel) rfl
  · exact mt 779 (by decide +kernel) rfl
  · exact mt 781 (by decide +kernel) rfl
  · exact mt 783 (by decide +kernel) rfl
  · exact mt 785 (by decide +kernel) rfl
  · exact mt 787 (by decide +kernel) rfl
  · exact mt 789 (by decide +kernel) rfl
  · exact mt 791 (by decide +kernel) rfl
  · exact mt 793 (by decide +kernel) rfl
  · exact mt 795 (by decide +kernel) rfl
  · exact mt 797 (by decide +kernel) rfl
  · exact mt 799 (by decide +kernel) rfl
  · exact mt 801 (by decide +kernel) rfl
  · exact mt 803 (by decide +kernel) rfl
  · exact mt 805 (by decide +kernel) rfl
  · exact mt 807 (by decide +kernel) rfl
  · exact mt 809 (by decide +kernel) rfl
  · exact mt 811 (by decide +kernel) rfl
  · exact mt 813 (by decide +kernel) rfl
  · exact mt 815 (by decide +kernel) rfl
  · exact mt 817 (by decide +kernel) rfl

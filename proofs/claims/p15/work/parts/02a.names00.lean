def RX0 : String := "HopCredits$Flow"
def TX0 : u_T := fun k => match k with
  | 0 => ("HopCredits$Flow", "gap", "I", false)
  | 1 => ("HopCredits$Flow", "start", "I", false)
  | 2 => ("HopCredits$Flow", "takes", "I", false)
  | 3 => ("HopCredits$Flow", "came", "I", false)
  | 4 => ("HopCredits$Flow", "spilt", "I", false)
  | 5 => ("HopCredits$Flow", "delivered", "I", false)
  | 6 => ("HopCredits$Flow", "cameNow", "Z", false)
  | _ => ("HopCredits$Flow", "deliveredNow", "Z", false)
def tyX0 : Nat → FieldType := fun k => match k with
  | 0 => .int
  | 1 => .int
  | 2 => .int
  | 3 => .int
  | 4 => .int
  | 5 => .int
  | 6 => .boolean
  | _ => .boolean
abbrev wsX00 : List Cond := u_ws RX0 TX0 8
theorem nmX0 : ∀ a, a < 8 → ∀ b, b < 8 → a ≠ b → (TX0 a).2.1 ≠ (TX0 b).2.1 := by decide +kernel
theorem tyX0_ok : ∀ k, k < 8 → parseFieldDescriptor (TX0 k).2.2.1 = some (tyX0 k) := by decide +kernel
abbrev cX0_init : ByteArray := prog_2_method_1_code
def yX0_init : MethodName := ⟨RX0, "<init>", "()V"⟩
abbrev cX0_lay : ByteArray := prog_2_method_2_code
def yX0_lay : MethodName := ⟨RX0, "lay", "(III)V"⟩
abbrev cX0_copy : ByteArray := prog_2_method_3_code
def yX0_copy : MethodName := ⟨RX0, "copy", "(LHopCredits$Flow;)V"⟩
abbrev cX0_comesIn : ByteArray := prog_2_method_4_code
def yX0_comesIn : MethodName := ⟨RX0, "comesIn", "(I)Z"⟩
abbrev cX0_takesIn : ByteArray := prog_2_method_5_code
def yX0_takesIn : MethodName := ⟨RX0, "takesIn", "(I)Z"⟩
def RX1 : String := "HopCredits$Lane"
def TX1 : u_T := fun k => match k with
  | 0 => ("HopCredits$Lane", "sent", "I", false)
  | 1 => ("HopCredits$Lane", "gone", "I", false)
  | 2 => ("HopCredits$Lane", "known", "I", false)
  | 3 => ("HopCredits$Lane", "zone", "I", false)
  | 4 => ("HopCredits$Lane", "waited", "I", false)
  | 5 => ("HopCredits$Lane", "sinceUpdate", "I", false)
  | _ => ("HopCredits$Lane", "sinceAdapt", "I", false)
def tyX1 : Nat → FieldType := fun k => match k with
  | 0 => .int
  | 1 => .int
  | 2 => .int
  | 3 => .int
  | 4 => .int
  | 5 => .int
  | _ => .int
abbrev wsX10 : List Cond := u_ws RX1 TX1 7
theorem nmX1 : ∀ a, a < 7 → ∀ b, b < 7 → a ≠ b → (TX1 a).2.1 ≠ (TX1 b).2.1 := by decide +kernel
theorem tyX1_ok : ∀ k, k < 7 → parseFieldDescriptor (TX1 k).2.2.1 = some (tyX1 k) := by decide +kernel
abbrev cX1_init : ByteArray := prog_3_method_1_code
def yX1_init : MethodName := ⟨RX1, "<init>", "()V"⟩
abbrev cX1_lay : ByteArray := prog_3_method_2_code
def yX1_lay : MethodName := ⟨RX1, "lay", "(I)V"⟩
abbrev cX1_copy : ByteArray := prog_3_method_3_code
def yX1_copy : MethodName := ⟨RX1, "copy", "(LHopCredits$Lane;)V"⟩
abbrev cX1_out : ByteArray := prog_3_method_4_code
def yX1_out : MethodName := ⟨RX1, "out", "()I"⟩
abbrev cX1_credit : ByteArray := prog_3_method_5_code
def yX1_credit : MethodName := ⟨RX1, "credit", "()I"⟩
abbrev cX1_hear : ByteArray := prog_3_method_6_code
def yX1_hear : MethodName := ⟨RX1, "hear", "(I)V"⟩
def RX2 : String := "HopCredits$Link"
def TX2 : u_T := fun k => match k with
  | 0 => ("HopCredits$Link", "delay", "I", false)
  | 1 => ("HopCredits$Link", "pool", "I", false)
  | 2 => ("HopCredits$Link", "every", "I", false)
  | 3 => ("HopCredits$Link", "jammed", "I", false)
  | 4 => ("HopCredits$Link", "latest", "I", false)
  | 5 => ("HopCredits$Link", "sender", "I", false)
  | 6 => ("HopCredits$Link", "cellAt", "[I", true)
  | 7 => ("HopCredits$Link", "updateAt", "[I", true)
  | 8 => ("HopCredits$Link", "probesAt", "[I", true)
  | _ => ("HopCredits$Link", "lanes", "[LHopCredits$Lane;", true)
def tyX2 : Nat → FieldType := fun k => match k with
  | 0 => .int
  | 1 => .int
  | 2 => .int
  | 3 => .int
  | 4 => .int
  | 5 => .int
  | 6 => .array .int
  | 7 => .array .int
  | 8 => .array .int
  | _ => .array (.object "HopCredits$Lane")
abbrev wsX20 : List Cond := u_ws RX2 TX2 10
theorem nmX2 : ∀ a, a < 10 → ∀ b, b < 10 → a ≠ b → (TX2 a).2.1 ≠ (TX2 b).2.1 := by decide +kernel
theorem tyX2_ok : ∀ k, k < 10 → parseFieldDescriptor (TX2 k).2.2.1 = some (tyX2 k) := by decide +kernel
abbrev cX2_init : ByteArray := prog_4_method_1_code
def yX2_init : MethodName := ⟨RX2, "<init>", "()V"⟩
abbrev cX2_lay : ByteArray := prog_4_method_2_code
def yX2_lay : MethodName := ⟨RX2, "lay", "(IIII)V"⟩
abbrev cX2_clearSlot : ByteArray := prog_4_method_3_code
def yX2_clearSlot : MethodName := ⟨RX2, "clearSlot", "(I)V"⟩
abbrev cX2_copy : ByteArray := prog_4_method_4_code
def yX2_copy : MethodName := ⟨RX2, "copy", "(LHopCredits$Link;)V"⟩
abbrev cX2_cellsOn : ByteArray := prog_4_method_5_code
def yX2_cellsOn : MethodName := ⟨RX2, "cellsOn", "()I"⟩
abbrev cX2_cellsOnOf : ByteArray := prog_4_method_6_code
def yX2_cellsOnOf : MethodName := ⟨RX2, "cellsOnOf", "(I)I"⟩
abbrev cX2_updatesOn : ByteArray := prog_4_method_7_code
def yX2_updatesOn : MethodName := ⟨RX2, "updatesOn", "()I"⟩
abbrev cX2_probesOn : ByteArray := prog_4_method_8_code
def yX2_probesOn : MethodName := ⟨RX2, "probesOn", "()I"⟩
abbrev cX2_probeBits : ByteArray := prog_4_method_9_code
def yX2_probeBits : MethodName := ⟨RX2, "probeBits", "(I)I"⟩
abbrev cX2_roomFor : ByteArray := prog_4_method_10_code
def yX2_roomFor : MethodName := ⟨RX2, "roomFor", "(II)I"⟩
def RX3 : String := "HopCredits$Net"
def TX3 : u_T := fun k => match k with
  | 0 => ("HopCredits$Net", "hops", "I", false)
  | 1 => ("HopCredits$Net", "circuits", "I", false)
  | 2 => ("HopCredits$Net", "reserve", "I", false)
  | 3 => ("HopCredits$Net", "adapts", "I", false)
  | 4 => ("HopCredits$Net", "probes", "I", false)
  | 5 => ("HopCredits$Net", "tick", "I", false)
  | 6 => ("HopCredits$Net", "lost", "I", false)
  | 7 => ("HopCredits$Net", "probesSent", "I", false)
  | 8 => ("HopCredits$Net", "links", "[LHopCredits$Link;", true)
  | 9 => ("HopCredits$Net", "flows", "[LHopCredits$Flow;", true)
  | _ => ("HopCredits$Net", "buffers", "[I", true)
def tyX3 : Nat → FieldType := fun k => match k with
  | 0 => .int
  | 1 => .int
  | 2 => .int
  | 3 => .int
  | 4 => .int
  | 5 => .int
  | 6 => .int
  | 7 => .int
  | 8 => .array (.object "HopCredits$Link")
  | 9 => .array (.object "HopCredits$Flow")
  | _ => .array .int
abbrev wsX30 : List Cond := u_ws RX3 TX3 11
theorem nmX3 : ∀ a, a < 11 → ∀ b, b < 11 → a ≠ b → (TX3 a).2.1 ≠ (TX3 b).2.1 := by decide +kernel
theorem tyX3_ok : ∀ k, k < 11 → parseFieldDescriptor (TX3 k).2.2.1 = some (tyX3 k) := by decide +kernel
abbrev cX3_init : ByteArray := prog_5_method_1_code
def yX3_init : MethodName := ⟨RX3, "<init>", "()V"⟩
abbrev cX3_lay : ByteArray := prog_5_method_2_code
def yX3_lay : MethodName := ⟨RX3, "lay", "(LHopCredits$Reading;)V"⟩
abbrev cX3_layAlone : ByteArray := prog_5_method_3_code
def yX3_layAlone : MethodName := ⟨RX3, "layAlone", "(IIII)V"⟩
abbrev cX3_layRules : ByteArray := prog_5_method_4_code
def yX3_layRules : MethodName := ⟨RX3, "layRules", "(III)V"⟩
abbrev cX3_copy : ByteArray := prog_5_method_5_code
def yX3_copy : MethodName := ⟨RX3, "copy", "(LHopCredits$Net;)V"⟩
abbrev cX3_steps : ByteArray := prog_5_method_6_code
def yX3_steps : MethodName := ⟨RX3, "steps", "(I)V"⟩
abbrev cX3_step : ByteArray := prog_5_method_7_code
def yX3_step : MethodName := ⟨RX3, "step", "()V"⟩
abbrev cX3_restingStep : ByteArray := prog_5_method_8_code
def yX3_restingStep : MethodName := ⟨RX3, "restingStep", "()V"⟩
abbrev cX3_arriveOver : ByteArray := prog_5_method_9_code
def yX3_arriveOver : MethodName := ⟨RX3, "arriveOver", "(I)V"⟩
abbrev cX3_come : ByteArray := prog_5_method_10_code
def yX3_come : MethodName := ⟨RX3, "come", "(I)V"⟩
abbrev cX3_take : ByteArray := prog_5_method_11_code
def yX3_take : MethodName := ⟨RX3, "take", "(I)V"⟩
abbrev cX3_sendOver : ByteArray := prog_5_method_12_code
def yX3_sendOver : MethodName := ⟨RX3, "sendOver", "(I)V"⟩
abbrev cX3_nextSender : ByteArray := prog_5_method_13_code
def yX3_nextSender : MethodName := ⟨RX3, "nextSender", "(I)I"⟩
abbrev cX3_goneFrom : ByteArray := prog_5_method_14_code
def yX3_goneFrom : MethodName := ⟨RX3, "goneFrom", "(II)V"⟩
abbrev cX3_sendUpdate : ByteArray := prog_5_method_15_code
def yX3_sendUpdate : MethodName := ⟨RX3, "sendUpdate", "(LHopCredits$Link;I)V"⟩
abbrev cX3_sendProbe : ByteArray := prog_5_method_16_code
def yX3_sendProbe : MethodName := ⟨RX3, "sendProbe", "(LHopCredits$Link;I)V"⟩
abbrev cX3_waitAt : ByteArray := prog_5_method_17_code
def yX3_waitAt : MethodName := ⟨RX3, "waitAt", "(I)V"⟩
abbrev cX3_adapt : ByteArray := prog_5_method_18_code
def yX3_adapt : MethodName := ⟨RX3, "adapt", "(LHopCredits$Link;)V"⟩
abbrev cX3_aimOf : ByteArray := prog_5_method_19_code
def yX3_aimOf : MethodName := ⟨RX3, "aimOf", "(LHopCredits$Link;I)I"⟩
abbrev cX3_waitingAt : ByteArray := prog_5_method_20_code
def yX3_waitingAt : MethodName := ⟨RX3, "waitingAt", "(II)I"⟩
abbrev cX3_lacksCredit : ByteArray := prog_5_method_21_code
def yX3_lacksCredit : MethodName := ⟨RX3, "lacksCredit", "(II)Z"⟩
abbrev cX3_crowd : ByteArray := prog_5_method_22_code
def yX3_crowd : MethodName := ⟨RX3, "crowd", "(III)I"⟩
abbrev cX3_cellsOf : ByteArray := prog_5_method_23_code
def yX3_cellsOf : MethodName := ⟨RX3, "cellsOf", "(I)I"⟩
abbrev cX3_cellsOfAll : ByteArray := prog_5_method_24_code
def yX3_cellsOfAll : MethodName := ⟨RX3, "cellsOfAll", "()I"⟩
abbrev cX3_deliveredOfAll : ByteArray := prog_5_method_25_code
def yX3_deliveredOfAll : MethodName := ⟨RX3, "deliveredOfAll", "()I"⟩
abbrev cX3_unknown : ByteArray := prog_5_method_26_code
def yX3_unknown : MethodName := ⟨RX3, "unknown", "()I"⟩
abbrev cX3_movedNow : ByteArray := prog_5_method_27_code
def yX3_movedNow : MethodName := ⟨RX3, "movedNow", "()Z"⟩
def RX4 : String := "HopCredits$Reading"
def TX4 : u_T := fun k => match k with
  | 0 => ("HopCredits$Reading", "text", "[I", false)
  | 1 => ("HopCredits$Reading", "length", "I", false)
  | 2 => ("HopCredits$Reading", "at", "I", false)
  | 3 => ("HopCredits$Reading", "fault", "I", false)
  | 4 => ("HopCredits$Reading", "hopsTold", "I", false)
  | 5 => ("HopCredits$Reading", "circuitsTold", "I", false)
  | _ => ("HopCredits$Reading", "values", "[I", true)
def tyX4 : Nat → FieldType := fun k => match k with
  | 0 => .array .int
  | 1 => .int
  | 2 => .int
  | 3 => .int
  | 4 => .int
  | 5 => .int
  | _ => .array .int
abbrev wsX40 : List Cond := u_ws RX4 TX4 7
theorem nmX4 : ∀ a, a < 7 → ∀ b, b < 7 → a ≠ b → (TX4 a).2.1 ≠ (TX4 b).2.1 := by decide +kernel
theorem tyX4_ok : ∀ k, k < 7 → parseFieldDescriptor (TX4 k).2.2.1 = some (tyX4 k) := by decide +kernel
abbrev cX4_init : ByteArray := prog_6_method_1_code
def yX4_init : MethodName := ⟨RX4, "<init>", "()V"⟩
abbrev cX4_faultOf : ByteArray := prog_6_method_2_code
def yX4_faultOf : MethodName := ⟨RX4, "faultOf", "([II)I"⟩
abbrev cX4_setUsual : ByteArray := prog_6_method_3_code
def yX4_setUsual : MethodName := ⟨RX4, "setUsual", "()V"⟩
abbrev cX4_kindOf : ByteArray := prog_6_method_4_code
def yX4_kindOf : MethodName := ⟨RX4, "kindOf", "(I)I"⟩
abbrev cX4_readClause : ByteArray := prog_6_method_5_code
def yX4_readClause : MethodName := ⟨RX4, "readClause", "(Z)V"⟩
abbrev cX4_readHead : ByteArray := prog_6_method_6_code
def yX4_readHead : MethodName := ⟨RX4, "readHead", "(Z)I"⟩
abbrev cX4_clauseOf : ByteArray := prog_6_method_7_code
def yX4_clauseOf : MethodName := ⟨RX4, "clauseOf", "(IZ)I"⟩
abbrev cX4_itemOf : ByteArray := prog_6_method_8_code
def yX4_itemOf : MethodName := ⟨RX4, "itemOf", "(II)I"⟩
abbrev cX4_readNumber : ByteArray := prog_6_method_9_code
def yX4_readNumber : MethodName := ⟨RX4, "readNumber", "(II)V"⟩
abbrev cX4_isDigitHere : ByteArray := prog_6_method_10_code
def yX4_isDigitHere : MethodName := ⟨RX4, "isDigitHere", "()Z"⟩
abbrev cX4_passBlanks : ByteArray := prog_6_method_11_code
def yX4_passBlanks : MethodName := ⟨RX4, "passBlanks", "()V"⟩
abbrev cX4_hops : ByteArray := prog_6_method_12_code
def yX4_hops : MethodName := ⟨RX4, "hops", "()I"⟩
abbrev cX4_circuits : ByteArray := prog_6_method_13_code
def yX4_circuits : MethodName := ⟨RX4, "circuits", "()I"⟩
abbrev cX4_ofRules : ByteArray := prog_6_method_14_code
def yX4_ofRules : MethodName := ⟨RX4, "ofRules", "(I)I"⟩
abbrev cX4_ofHop : ByteArray := prog_6_method_15_code
def yX4_ofHop : MethodName := ⟨RX4, "ofHop", "(II)I"⟩
abbrev cX4_ofCircuit : ByteArray := prog_6_method_16_code
def yX4_ofCircuit : MethodName := ⟨RX4, "ofCircuit", "(II)I"⟩
def RX5 : String := "HopCredits$Trips"
def TX5 : u_T := fun k => match k with
  | 0 => ("HopCredits$Trips", "begun", "[I", true)
  | 1 => ("HopCredits$Trips", "first", "I", false)
  | 2 => ("HopCredits$Trips", "underway", "I", false)
  | 3 => ("HopCredits$Trips", "latest", "I", false)
  | 4 => ("HopCredits$Trips", "longest", "I", false)
  | _ => ("HopCredits$Trips", "total", "I", false)
def tyX5 : Nat → FieldType := fun k => match k with
  | 0 => .array .int
  | 1 => .int
  | 2 => .int
  | 3 => .int
  | 4 => .int
  | _ => .int
abbrev wsX50 : List Cond := u_ws RX5 TX5 6
theorem nmX5 : ∀ a, a < 6 → ∀ b, b < 6 → a ≠ b → (TX5 a).2.1 ≠ (TX5 b).2.1 := by decide +kernel
theorem tyX5_ok : ∀ k, k < 6 → parseFieldDescriptor (TX5 k).2.2.1 = some (tyX5 k) := by decide +kernel
abbrev cX5_init : ByteArray := prog_7_method_1_code
def yX5_init : MethodName := ⟨RX5, "<init>", "()V"⟩
abbrev cX5_clear : ByteArray := prog_7_method_2_code
def yX5_clear : MethodName := ⟨RX5, "clear", "()V"⟩
abbrev cX5_begin : ByteArray := prog_7_method_3_code
def yX5_begin : MethodName := ⟨RX5, "begin", "(I)V"⟩
abbrev cX5_firstBegun : ByteArray := prog_7_method_4_code
def yX5_firstBegun : MethodName := ⟨RX5, "firstBegun", "()I"⟩
abbrev cX5_finish : ByteArray := prog_7_method_5_code
def yX5_finish : MethodName := ⟨RX5, "finish", "(I)V"⟩
def RX6 : String := "HopCredits"
def TX6 : u_T := fun k => match k with
  | 0 => ("HopCredits", "tape", "[I", true)
  | 1 => ("HopCredits", "tapeLength", "I", false)
  | 2 => ("HopCredits", "refused", "[I", true)
  | 3 => ("HopCredits", "reading", "LHopCredits$Reading;", true)
  | 4 => ("HopCredits", "now", "LHopCredits$Net;", true)
  | 5 => ("HopCredits", "apart", "LHopCredits$Net;", true)
  | 6 => ("HopCredits", "trips", "[LHopCredits$Trips;", true)
  | 7 => ("HopCredits", "tally", "[I", true)
  | _ => ("HopCredits", "laid", "Z", false)
abbrev cX6_reaches : ByteArray := prog_1_method_42_code
def yX6_reaches : MethodName := ⟨RX6, "reaches", "(II)Z"⟩
abbrev cX6_outside : ByteArray := prog_1_method_62_code
def yX6_outside : MethodName := ⟨RX6, "outside", "(III)Z"⟩
def RX7 : String := "HopCreditsModel"
def TX7 : u_T := fun k => match k with
  | 0 => ("HopCreditsModel", "thrown", "I", false)
  | 1 => ("HopCreditsModel", "tape", "[I", true)
  | 2 => ("HopCreditsModel", "taped", "I", false)
  | 3 => ("HopCreditsModel", "at", "I", false)
  | 4 => ("HopCreditsModel", "wrong", "I", false)
  | 5 => ("HopCreditsModel", "readRule", "[I", true)
  | 6 => ("HopCreditsModel", "readHop", "[I", true)
  | 7 => ("HopCreditsModel", "readCircuit", "[I", true)
  | 8 => ("HopCreditsModel", "readHops", "I", false)
  | 9 => ("HopCreditsModel", "readCircuits", "I", false)
  | 10 => ("HopCreditsModel", "now", "[I", true)
  | 11 => ("HopCreditsModel", "refused", "[I", true)
  | 12 => ("HopCreditsModel", "rule", "[I", true)
  | 13 => ("HopCreditsModel", "hop", "[I", true)
  | 14 => ("HopCreditsModel", "hops", "I", false)
  | 15 => ("HopCreditsModel", "circuits", "I", false)
  | 16 => ("HopCreditsModel", "aims", "[I", true)
  | 17 => ("HopCreditsModel", "aside", "[I", true)
  | 18 => ("HopCreditsModel", "sentNow", "[I", true)
  | 19 => ("HopCreditsModel", "aloneCell", "[I", true)
  | _ => ("HopCreditsModel", "aloneTold", "[I", true)
def RJ0 : String := "java/lang/String"
abbrev cJ0_charAt_5068e : ByteArray := prog_16_method_56_code
def yJ0_charAt_5068e : MethodName := ⟨RJ0, "charAt", "(I)C"⟩
abbrev cJ0_isLatin1_aae02 : ByteArray := prog_16_method_154_code
def yJ0_isLatin1_aae02 : MethodName := ⟨RJ0, "isLatin1", "()Z"⟩
abbrev cJ0_checkIndex_df160 : ByteArray := prog_16_method_155_code
def yJ0_checkIndex_df160 : MethodName := ⟨RJ0, "checkIndex", "(II)V"⟩
def RJ1 : String := "java/lang/StringLatin1"
abbrev cJ1_charAt_3b067 : ByteArray := prog_17_method_2_code
def yJ1_charAt_3b067 : MethodName := ⟨RJ1, "charAt", "([BI)C"⟩
def RJ2 : String := "java/lang/StringUTF16"
abbrev cJ2_getChar_3b067 : ByteArray := prog_18_method_5_code
def yJ2_getChar_3b067 : MethodName := ⟨RJ2, "getChar", "([BI)C"⟩
abbrev cJ2_length_9d52b : ByteArray := prog_18_method_6_code
def yJ2_length_9d52b : MethodName := ⟨RJ2, "length", "([B)I"⟩
abbrev cJ2_charAt_3b067 : ByteArray := prog_18_method_83_code
def yJ2_charAt_3b067 : MethodName := ⟨RJ2, "charAt", "([BI)C"⟩
abbrev cJ2_checkIndex_2214a : ByteArray := prog_18_method_91_code
def yJ2_checkIndex_2214a : MethodName := ⟨RJ2, "checkIndex", "(I[B)V"⟩
def RJ3 : String := "jdk/internal/util/Preconditions"
abbrev cJ3_checkIndex_8e157 : ByteArray := prog_24_method_11_code
def yJ3_checkIndex_8e157 : MethodName := ⟨RJ3, "checkIndex", "(IILjava/util/function/BiFunction;)I"⟩
def wsX0_init : List Cond := .code yX0_init cX0_init 1 none :: ([.methodLink RX0 1 objectInit, .instanceMethod objectInit, .code objectInit ⟨#[0xb1]⟩ 1 none])
def wsX0_lay : List Cond := .code yX0_lay cX0_lay 4 none :: ([.fieldLink RX0 7 "HopCredits$Flow" "gap" "I", .fieldLink RX0 13 "HopCredits$Flow" "start" "I", .fieldLink RX0 16 "HopCredits$Flow" "takes" "I", .fieldLink RX0 19 "HopCredits$Flow" "came" "I", .fieldLink RX0 22 "HopCredits$Flow" "spilt" "I", .fieldLink RX0 25 "HopCredits$Flow" "delivered" "I", .fieldLink RX0 28 "HopCredits$Flow" "cameNow" "Z", .fieldLink RX0 32 "HopCredits$Flow" "deliveredNow" "Z"] ++ wsX00)
def wsX0_copy : List Cond := .code yX0_copy cX0_copy 2 none :: ([.fieldLink RX0 7 "HopCredits$Flow" "gap" "I", .fieldLink RX0 13 "HopCredits$Flow" "start" "I", .fieldLink RX0 16 "HopCredits$Flow" "takes" "I", .fieldLink RX0 19 "HopCredits$Flow" "came" "I", .fieldLink RX0 22 "HopCredits$Flow" "spilt" "I", .fieldLink RX0 25 "HopCredits$Flow" "delivered" "I", .fieldLink RX0 28 "HopCredits$Flow" "cameNow" "Z", .fieldLink RX0 32 "HopCredits$Flow" "deliveredNow" "Z"] ++ wsX00)
def wsX0_comesIn : List Cond := .code yX0_comesIn cX0_comesIn 2 (some .boolean) :: ([.fieldLink RX0 7 "HopCredits$Flow" "gap" "I", .fieldLink RX0 13 "HopCredits$Flow" "start" "I"] ++ wsX00)
def wsX0_takesIn : List Cond := .code yX0_takesIn cX0_takesIn 2 (some .boolean) :: ([.fieldLink RX0 16 "HopCredits$Flow" "takes" "I"] ++ wsX00)
def wsX1_init : List Cond := .code yX1_init cX1_init 1 none :: ([.methodLink RX1 3 objectInit, .instanceMethod objectInit, .code objectInit ⟨#[0xb1]⟩ 1 none])
def wsX1_lay : List Cond := .code yX1_lay cX1_lay 2 none :: ([.fieldLink RX1 9 "HopCredits$Lane" "sent" "I", .fieldLink RX1 15 "HopCredits$Lane" "gone" "I", .fieldLink RX1 18 "HopCredits$Lane" "known" "I", .fieldLink RX1 21 "HopCredits$Lane" "zone" "I", .fieldLink RX1 24 "HopCredits$Lane" "waited" "I", .fieldLink RX1 27 "HopCredits$Lane" "sinceUpdate" "I", .fieldLink RX1 30 "HopCredits$Lane" "sinceAdapt" "I"] ++ wsX10)
def wsX1_copy : List Cond := .code yX1_copy cX1_copy 2 none :: ([.fieldLink RX1 9 "HopCredits$Lane" "sent" "I", .fieldLink RX1 15 "HopCredits$Lane" "gone" "I", .fieldLink RX1 18 "HopCredits$Lane" "known" "I", .fieldLink RX1 21 "HopCredits$Lane" "zone" "I", .fieldLink RX1 24 "HopCredits$Lane" "waited" "I", .fieldLink RX1 27 "HopCredits$Lane" "sinceUpdate" "I", .fieldLink RX1 30 "HopCredits$Lane" "sinceAdapt" "I"] ++ wsX10)
def wsX1_out : List Cond := .code yX1_out cX1_out 1 (some .int) :: ([.fieldLink RX1 9 "HopCredits$Lane" "sent" "I", .fieldLink RX1 18 "HopCredits$Lane" "known" "I"] ++ wsX10)
def wsX1_credit : List Cond := .code yX1_credit cX1_credit 1 (some .int) :: ([.fieldLink RX1 21 "HopCredits$Lane" "zone" "I", .methodLink RX1 37 Lib.Math.max.name, .static Lib.Math.max.name, .initialized "java/lang/Math", .code Lib.Math.max.name Lib.Math.max.code 2 (some .int), .methodLink RX1 33 yX1_out, .instanceMethod yX1_out, .selects RX1 yX1_out yX1_out, .initialized RX1, .code yX1_out cX1_out 1 (some .int), .fieldLink RX1 9 "HopCredits$Lane" "sent" "I", .fieldLink RX1 18 "HopCredits$Lane" "known" "I"] ++ wsX10)
def wsX6_reaches : List Cond := .code yX6_reaches cX6_reaches 2 (some .boolean) :: ([])
def wsX1_hear : List Cond := .code yX1_hear cX1_hear 2 none :: ([.fieldLink RX1 18 "HopCredits$Lane" "known" "I", .static yX6_reaches, .initialized RX6, .code yX6_reaches cX6_reaches 2 (some .boolean)] ++ wsX10)
def wsX2_init : List Cond := .code yX2_init cX2_init 2 none :: ([.methodLink RX2 3 objectInit, .instanceMethod objectInit, .code objectInit ⟨#[0xb1]⟩ 1 none, .arrayClass .int, .fieldLink RX2 9 "HopCredits$Link" "cellAt" "[I", .fieldLink RX2 15 "HopCredits$Link" "updateAt" "[I", .fieldLink RX2 18 "HopCredits$Link" "probesAt" "[I", .classLink RX2 21 RX1, .fieldLink RX2 23 "HopCredits$Link" "lanes" "[LHopCredits$Lane;", .instantiable RX1 7, .initialized RX1, .instanceMethod yX1_init, .code yX1_init cX1_init 1 none, .methodLink RX1 3 objectInit] ++ wsX20 ++ wsX10)
def wsX2_clearSlot : List Cond := .code yX2_clearSlot cX2_clearSlot 3 none :: ([.fieldLink RX2 9 "HopCredits$Link" "cellAt" "[I", .fieldLink RX2 15 "HopCredits$Link" "updateAt" "[I", .fieldLink RX2 18 "HopCredits$Link" "probesAt" "[I"] ++ wsX20)
def wsX2_lay_r1 : List Cond := [Cond.fieldLink RX2 28 "HopCredits$Link" "delay" "I", Cond.fieldLink RX2 32 "HopCredits$Link" "pool" "I", Cond.fieldLink RX2 35 "HopCredits$Link" "every" "I", Cond.fieldLink RX2 38 "HopCredits$Link" "jammed" "I", Cond.fieldLink RX2 41 "HopCredits$Link" "latest" "I", Cond.fieldLink RX2 44 "HopCredits$Link" "sender" "I", Cond.fieldLink RX2 23 "HopCredits$Link" "lanes" "[LHopCredits$Lane;", Cond.methodLink RX2 47 yX2_clearSlot, Cond.instanceMethod yX2_clearSlot, Cond.selects RX2 yX2_clearSlot yX2_clearSlot, Cond.initialized RX2, Cond.code yX2_clearSlot cX2_clearSlot 3 none, Cond.fieldLink RX2 9 "HopCredits$Link" "cellAt" "[I", Cond.fieldLink RX2 15 "HopCredits$Link" "updateAt" "[I", Cond.fieldLink RX2 18 "HopCredits$Link" "probesAt" "[I", Cond.methodLink RX2 51 yX1_lay, Cond.instanceMethod yX1_lay, Cond.selects RX1 yX1_lay yX1_lay, Cond.initialized RX1, Cond.code yX1_lay cX1_lay 2 none, Cond.fieldLink RX1 9 "HopCredits$Lane" "sent" "I", Cond.fieldLink RX1 15 "HopCredits$Lane" "gone" "I", Cond.fieldLink RX1 18 "HopCredits$Lane" "known" "I", Cond.fieldLink RX1 21 "HopCredits$Lane" "zone" "I"]
def wsX2_lay_r2 : List Cond := [Cond.fieldLink RX1 24 "HopCredits$Lane" "waited" "I", Cond.fieldLink RX1 27 "HopCredits$Lane" "sinceUpdate" "I", Cond.fieldLink RX1 30 "HopCredits$Lane" "sinceAdapt" "I"]
def wsX2_lay : List Cond := .code yX2_lay cX2_lay 6 none :: ((wsX2_lay_r1 ++ wsX2_lay_r2) ++ wsX20 ++ wsX10)
def wsX2_copy_r1 : List Cond := [Cond.fieldLink RX2 28 "HopCredits$Link" "delay" "I", Cond.fieldLink RX2 32 "HopCredits$Link" "pool" "I", Cond.fieldLink RX2 35 "HopCredits$Link" "every" "I", Cond.fieldLink RX2 38 "HopCredits$Link" "jammed" "I", Cond.fieldLink RX2 41 "HopCredits$Link" "latest" "I", Cond.fieldLink RX2 44 "HopCredits$Link" "sender" "I", Cond.fieldLink RX2 9 "HopCredits$Link" "cellAt" "[I", Cond.methodLink RX2 54 arraycopyName, Cond.native arraycopyName, Cond.static arraycopyName, Cond.initialized "java/lang/System", Cond.fieldLink RX2 15 "HopCredits$Link" "updateAt" "[I", Cond.fieldLink RX2 18 "HopCredits$Link" "probesAt" "[I", Cond.fieldLink RX2 23 "HopCredits$Link" "lanes" "[LHopCredits$Lane;", Cond.methodLink RX2 60 yX1_copy, Cond.instanceMethod yX1_copy, Cond.selects RX1 yX1_copy yX1_copy, Cond.initialized RX1, Cond.code yX1_copy cX1_copy 2 none, Cond.fieldLink RX1 9 "HopCredits$Lane" "sent" "I", Cond.fieldLink RX1 15 "HopCredits$Lane" "gone" "I", Cond.fieldLink RX1 18 "HopCredits$Lane" "known" "I", Cond.fieldLink RX1 21 "HopCredits$Lane" "zone" "I", Cond.fieldLink RX1 24 "HopCredits$Lane" "waited" "I"]
def wsX2_copy_r2 : List Cond := [Cond.fieldLink RX1 27 "HopCredits$Lane" "sinceUpdate" "I", Cond.fieldLink RX1 30 "HopCredits$Lane" "sinceAdapt" "I"]
def wsX2_copy : List Cond := .code yX2_copy cX2_copy 3 none :: ((wsX2_copy_r1 ++ wsX2_copy_r2) ++ wsX20 ++ wsX10)
def wsX2_cellsOn : List Cond := .code yX2_cellsOn cX2_cellsOn 3 (some .int) :: ([.fieldLink RX2 9 "HopCredits$Link" "cellAt" "[I"] ++ wsX20)
def wsX2_cellsOnOf : List Cond := .code yX2_cellsOnOf cX2_cellsOnOf 4 (some .int) :: ([.fieldLink RX2 9 "HopCredits$Link" "cellAt" "[I"] ++ wsX20)
def wsX2_updatesOn : List Cond := .code yX2_updatesOn cX2_updatesOn 3 (some .int) :: ([.fieldLink RX2 15 "HopCredits$Link" "updateAt" "[I"] ++ wsX20)
def wsX2_probesOn : List Cond := .code yX2_probesOn cX2_probesOn 3 (some .int) :: ([.fieldLink RX2 18 "HopCredits$Link" "probesAt" "[I"] ++ wsX20)
def wsX2_probeBits : List Cond := .code yX2_probeBits cX2_probeBits 4 (some .int) :: ([.fieldLink RX2 18 "HopCredits$Link" "probesAt" "[I"] ++ wsX20)
def wsX2_roomFor : List Cond := .code yX2_roomFor cX2_roomFor 5 (some .int) :: ([.fieldLink RX2 32 "HopCredits$Link" "pool" "I", .fieldLink RX2 23 "HopCredits$Link" "lanes" "[LHopCredits$Lane;", .fieldLink RX2 64 "HopCredits$Lane" "zone" "I", .methodLink RX2 71 Lib.Math.max.name, .static Lib.Math.max.name, .initialized "java/lang/Math", .code Lib.Math.max.name Lib.Math.max.code 2 (some .int), .methodLink RX2 67 yX1_out, .instanceMethod yX1_out, .selects RX1 yX1_out yX1_out, .initialized RX1, .code yX1_out cX1_out 1 (some .int), .fieldLink RX1 9 "HopCredits$Lane" "sent" "I", .fieldLink RX1 18 "HopCredits$Lane" "known" "I"] ++ wsX20 ++ wsX10)
def wsX3_init_r1 : List Cond := [Cond.methodLink RX3 3 objectInit, Cond.instanceMethod objectInit, Cond.code objectInit ⟨#[0xb1]⟩ 1 none, Cond.classLink RX3 9 RX2, Cond.fieldLink RX3 11 "HopCredits$Net" "links" "[LHopCredits$Link;", Cond.classLink RX3 17 RX0, Cond.fieldLink RX3 19 "HopCredits$Net" "flows" "[LHopCredits$Flow;", Cond.arrayClass .int, Cond.fieldLink RX3 23 "HopCredits$Net" "buffers" "[I", Cond.instantiable RX2 10, Cond.initialized RX2, Cond.instantiable RX0 8, Cond.initialized RX0, Cond.methodLink RX3 27 yX2_init, Cond.instanceMethod yX2_init, Cond.code yX2_init cX2_init 2 none, Cond.methodLink RX2 3 objectInit, Cond.fieldLink RX2 9 "HopCredits$Link" "cellAt" "[I", Cond.fieldLink RX2 15 "HopCredits$Link" "updateAt" "[I", Cond.fieldLink RX2 18 "HopCredits$Link" "probesAt" "[I", Cond.classLink RX2 21 RX1, Cond.fieldLink RX2 23 "HopCredits$Link" "lanes" "[LHopCredits$Lane;", Cond.instantiable RX1 7, Cond.initialized RX1]
def wsX3_init_r2 : List Cond := [Cond.instanceMethod yX1_init, Cond.code yX1_init cX1_init 1 none, Cond.methodLink RX1 3 objectInit, Cond.instanceMethod yX0_init, Cond.code yX0_init cX0_init 1 none, Cond.methodLink RX0 1 objectInit]
def wsX3_init : List Cond := .code yX3_init cX3_init 2 none :: ((wsX3_init_r1 ++ wsX3_init_r2) ++ wsX30 ++ wsX20 ++ wsX00 ++ wsX10)
def wsX4_hops : List Cond := .code yX4_hops cX4_hops 1 (some .int) :: ([.fieldLink RX4 34 "HopCredits$Reading" "hopsTold" "I", .methodLink RX4 94 Lib.Math.max.name, .static Lib.Math.max.name, .initialized "java/lang/Math", .code Lib.Math.max.name Lib.Math.max.code 2 (some .int)] ++ wsX40)
def wsX4_circuits : List Cond := .code yX4_circuits cX4_circuits 1 (some .int) :: ([.fieldLink RX4 37 "HopCredits$Reading" "circuitsTold" "I", .methodLink RX4 94 Lib.Math.max.name, .static Lib.Math.max.name, .initialized "java/lang/Math", .code Lib.Math.max.name Lib.Math.max.code 2 (some .int)] ++ wsX40)
def wsX4_ofRules : List Cond := .code yX4_ofRules cX4_ofRules 2 (some .int) :: ([.fieldLink RX4 15 "HopCredits$Reading" "values" "[I"] ++ wsX40)
def wsX3_layRules : List Cond := .code yX3_layRules cX3_layRules 5 none :: ([.fieldLink RX3 53 "HopCredits$Net" "hops" "I", .fieldLink RX3 62 "HopCredits$Net" "circuits" "I", .fieldLink RX3 59 "HopCredits$Net" "reserve" "I", .fieldLink RX3 46 "HopCredits$Net" "adapts" "I", .fieldLink RX3 50 "HopCredits$Net" "probes" "I", .fieldLink RX3 78 "HopCredits$Net" "tick" "I", .fieldLink RX3 81 "HopCredits$Net" "lost" "I", .fieldLink RX3 84 "HopCredits$Net" "probesSent" "I", .fieldLink RX3 23 "HopCredits$Net" "buffers" "[I"] ++ wsX30)
def wsX4_ofHop : List Cond := .code yX4_ofHop cX4_ofHop 3 (some .int) :: ([.fieldLink RX4 15 "HopCredits$Reading" "values" "[I"] ++ wsX40)
def wsX4_ofCircuit : List Cond := .code yX4_ofCircuit cX4_ofCircuit 3 (some .int) :: ([.fieldLink RX4 15 "HopCredits$Reading" "values" "[I"] ++ wsX40)
def wsX3_lay_r1 : List Cond := [Cond.fieldLink RX3 46 "HopCredits$Net" "adapts" "I", Cond.fieldLink RX3 50 "HopCredits$Net" "probes" "I", Cond.fieldLink RX3 53 "HopCredits$Net" "hops" "I", Cond.fieldLink RX3 59 "HopCredits$Net" "reserve" "I", Cond.fieldLink RX3 62 "HopCredits$Net" "circuits" "I", Cond.methodLink RX3 64 Lib.Math.max.name, Cond.static Lib.Math.max.name, Cond.initialized "java/lang/Math", Cond.code Lib.Math.max.name Lib.Math.max.code 2 (some .int), Cond.fieldLink RX3 11 "HopCredits$Net" "links" "[LHopCredits$Link;", Cond.fieldLink RX3 19 "HopCredits$Net" "flows" "[LHopCredits$Flow;", Cond.methodLink RX3 29 yX4_hops, Cond.instanceMethod yX4_hops, Cond.selects RX4 yX4_hops yX4_hops, Cond.initialized RX4, Cond.code yX4_hops cX4_hops 1 (some .int), Cond.fieldLink RX4 34 "HopCredits$Reading" "hopsTold" "I", Cond.methodLink RX4 94 Lib.Math.max.name, Cond.methodLink RX3 35 yX4_circuits, Cond.instanceMethod yX4_circuits, Cond.selects RX4 yX4_circuits yX4_circuits, Cond.code yX4_circuits cX4_circuits 1 (some .int), Cond.fieldLink RX4 37 "HopCredits$Reading" "circuitsTold" "I", Cond.methodLink RX3 38 yX4_ofRules]
def wsX3_lay_r2 : List Cond := [Cond.instanceMethod yX4_ofRules, Cond.selects RX4 yX4_ofRules yX4_ofRules, Cond.code yX4_ofRules cX4_ofRules 2 (some .int), Cond.fieldLink RX4 15 "HopCredits$Reading" "values" "[I", Cond.methodLink RX3 42 yX3_layRules, Cond.instanceMethod yX3_layRules, Cond.selects RX3 yX3_layRules yX3_layRules, Cond.initialized RX3, Cond.code yX3_layRules cX3_layRules 5 none, Cond.fieldLink RX3 78 "HopCredits$Net" "tick" "I", Cond.fieldLink RX3 81 "HopCredits$Net" "lost" "I", Cond.fieldLink RX3 84 "HopCredits$Net" "probesSent" "I", Cond.fieldLink RX3 23 "HopCredits$Net" "buffers" "[I", Cond.methodLink RX3 55 yX4_ofHop, Cond.instanceMethod yX4_ofHop, Cond.selects RX4 yX4_ofHop yX4_ofHop, Cond.code yX4_ofHop cX4_ofHop 3 (some .int), Cond.methodLink RX3 69 yX2_lay, Cond.instanceMethod yX2_lay, Cond.selects RX2 yX2_lay yX2_lay, Cond.initialized RX2, Cond.code yX2_lay cX2_lay 6 none, Cond.fieldLink RX2 28 "HopCredits$Link" "delay" "I", Cond.fieldLink RX2 32 "HopCredits$Link" "pool" "I"]
def wsX3_lay_r3 : List Cond := [Cond.fieldLink RX2 35 "HopCredits$Link" "every" "I", Cond.fieldLink RX2 38 "HopCredits$Link" "jammed" "I", Cond.fieldLink RX2 41 "HopCredits$Link" "latest" "I", Cond.fieldLink RX2 44 "HopCredits$Link" "sender" "I", Cond.fieldLink RX2 23 "HopCredits$Link" "lanes" "[LHopCredits$Lane;", Cond.methodLink RX2 47 yX2_clearSlot, Cond.instanceMethod yX2_clearSlot, Cond.selects RX2 yX2_clearSlot yX2_clearSlot, Cond.code yX2_clearSlot cX2_clearSlot 3 none, Cond.fieldLink RX2 9 "HopCredits$Link" "cellAt" "[I", Cond.fieldLink RX2 15 "HopCredits$Link" "updateAt" "[I", Cond.fieldLink RX2 18 "HopCredits$Link" "probesAt" "[I", Cond.methodLink RX2 51 yX1_lay, Cond.instanceMethod yX1_lay, Cond.selects RX1 yX1_lay yX1_lay, Cond.initialized RX1, Cond.code yX1_lay cX1_lay 2 none, Cond.fieldLink RX1 9 "HopCredits$Lane" "sent" "I", Cond.fieldLink RX1 15 "HopCredits$Lane" "gone" "I", Cond.fieldLink RX1 18 "HopCredits$Lane" "known" "I", Cond.fieldLink RX1 21 "HopCredits$Lane" "zone" "I", Cond.fieldLink RX1 24 "HopCredits$Lane" "waited" "I", Cond.fieldLink RX1 27 "HopCredits$Lane" "sinceUpdate" "I", Cond.fieldLink RX1 30 "HopCredits$Lane" "sinceAdapt" "I"]
def wsX3_lay_r4 : List Cond := [Cond.methodLink RX3 73 yX4_ofCircuit, Cond.instanceMethod yX4_ofCircuit, Cond.selects RX4 yX4_ofCircuit yX4_ofCircuit, Cond.code yX4_ofCircuit cX4_ofCircuit 3 (some .int), Cond.methodLink RX3 76 yX0_lay, Cond.instanceMethod yX0_lay, Cond.selects RX0 yX0_lay yX0_lay, Cond.initialized RX0, Cond.code yX0_lay cX0_lay 4 none, Cond.fieldLink RX0 7 "HopCredits$Flow" "gap" "I", Cond.fieldLink RX0 13 "HopCredits$Flow" "start" "I", Cond.fieldLink RX0 16 "HopCredits$Flow" "takes" "I", Cond.fieldLink RX0 19 "HopCredits$Flow" "came" "I", Cond.fieldLink RX0 22 "HopCredits$Flow" "spilt" "I", Cond.fieldLink RX0 25 "HopCredits$Flow" "delivered" "I", Cond.fieldLink RX0 28 "HopCredits$Flow" "cameNow" "Z", Cond.fieldLink RX0 32 "HopCredits$Flow" "deliveredNow" "Z"]
def wsX3_lay : List Cond := .code yX3_lay cX3_lay 5 none :: ((wsX3_lay_r1 ++ (wsX3_lay_r2 ++ (wsX3_lay_r3 ++ wsX3_lay_r4))) ++ wsX30 ++ wsX40 ++ wsX20 ++ wsX10 ++ wsX00)
def wsX3_layAlone_r1 : List Cond := [Cond.fieldLink RX3 11 "HopCredits$Net" "links" "[LHopCredits$Link;", Cond.fieldLink RX3 19 "HopCredits$Net" "flows" "[LHopCredits$Flow;", Cond.fieldLink RX3 23 "HopCredits$Net" "buffers" "[I", Cond.methodLink RX3 42 yX3_layRules, Cond.instanceMethod yX3_layRules, Cond.selects RX3 yX3_layRules yX3_layRules, Cond.initialized RX3, Cond.code yX3_layRules cX3_layRules 5 none, Cond.fieldLink RX3 53 "HopCredits$Net" "hops" "I", Cond.fieldLink RX3 62 "HopCredits$Net" "circuits" "I", Cond.fieldLink RX3 59 "HopCredits$Net" "reserve" "I", Cond.fieldLink RX3 46 "HopCredits$Net" "adapts" "I", Cond.fieldLink RX3 50 "HopCredits$Net" "probes" "I", Cond.fieldLink RX3 78 "HopCredits$Net" "tick" "I", Cond.fieldLink RX3 81 "HopCredits$Net" "lost" "I", Cond.fieldLink RX3 84 "HopCredits$Net" "probesSent" "I", Cond.methodLink RX3 69 yX2_lay, Cond.instanceMethod yX2_lay, Cond.selects RX2 yX2_lay yX2_lay, Cond.initialized RX2, Cond.code yX2_lay cX2_lay 6 none, Cond.fieldLink RX2 28 "HopCredits$Link" "delay" "I", Cond.fieldLink RX2 32 "HopCredits$Link" "pool" "I", Cond.fieldLink RX2 35 "HopCredits$Link" "every" "I"]
def wsX3_layAlone_r2 : List Cond := [Cond.fieldLink RX2 38 "HopCredits$Link" "jammed" "I", Cond.fieldLink RX2 41 "HopCredits$Link" "latest" "I", Cond.fieldLink RX2 44 "HopCredits$Link" "sender" "I", Cond.fieldLink RX2 23 "HopCredits$Link" "lanes" "[LHopCredits$Lane;", Cond.methodLink RX2 47 yX2_clearSlot, Cond.instanceMethod yX2_clearSlot, Cond.selects RX2 yX2_clearSlot yX2_clearSlot, Cond.code yX2_clearSlot cX2_clearSlot 3 none, Cond.fieldLink RX2 9 "HopCredits$Link" "cellAt" "[I", Cond.fieldLink RX2 15 "HopCredits$Link" "updateAt" "[I", Cond.fieldLink RX2 18 "HopCredits$Link" "probesAt" "[I", Cond.methodLink RX2 51 yX1_lay, Cond.instanceMethod yX1_lay, Cond.selects RX1 yX1_lay yX1_lay, Cond.initialized RX1, Cond.code yX1_lay cX1_lay 2 none, Cond.fieldLink RX1 9 "HopCredits$Lane" "sent" "I", Cond.fieldLink RX1 15 "HopCredits$Lane" "gone" "I", Cond.fieldLink RX1 18 "HopCredits$Lane" "known" "I", Cond.fieldLink RX1 21 "HopCredits$Lane" "zone" "I", Cond.fieldLink RX1 24 "HopCredits$Lane" "waited" "I", Cond.fieldLink RX1 27 "HopCredits$Lane" "sinceUpdate" "I", Cond.fieldLink RX1 30 "HopCredits$Lane" "sinceAdapt" "I", Cond.methodLink RX3 76 yX0_lay]
def wsX3_layAlone_r3 : List Cond := [Cond.instanceMethod yX0_lay, Cond.selects RX0 yX0_lay yX0_lay, Cond.initialized RX0, Cond.code yX0_lay cX0_lay 4 none, Cond.fieldLink RX0 7 "HopCredits$Flow" "gap" "I", Cond.fieldLink RX0 13 "HopCredits$Flow" "start" "I", Cond.fieldLink RX0 16 "HopCredits$Flow" "takes" "I", Cond.fieldLink RX0 19 "HopCredits$Flow" "came" "I", Cond.fieldLink RX0 22 "HopCredits$Flow" "spilt" "I", Cond.fieldLink RX0 25 "HopCredits$Flow" "delivered" "I", Cond.fieldLink RX0 28 "HopCredits$Flow" "cameNow" "Z", Cond.fieldLink RX0 32 "HopCredits$Flow" "deliveredNow" "Z"]
def wsX3_layAlone : List Cond := .code yX3_layAlone cX3_layAlone 5 none :: ((wsX3_layAlone_r1 ++ (wsX3_layAlone_r2 ++ wsX3_layAlone_r3)) ++ wsX30 ++ wsX20 ++ wsX10 ++ wsX00)
def wsX3_copy_r1 : List Cond := [Cond.fieldLink RX3 53 "HopCredits$Net" "hops" "I", Cond.fieldLink RX3 62 "HopCredits$Net" "circuits" "I", Cond.fieldLink RX3 59 "HopCredits$Net" "reserve" "I", Cond.fieldLink RX3 46 "HopCredits$Net" "adapts" "I", Cond.fieldLink RX3 50 "HopCredits$Net" "probes" "I", Cond.fieldLink RX3 78 "HopCredits$Net" "tick" "I", Cond.fieldLink RX3 81 "HopCredits$Net" "lost" "I", Cond.fieldLink RX3 84 "HopCredits$Net" "probesSent" "I", Cond.fieldLink RX3 11 "HopCredits$Net" "links" "[LHopCredits$Link;", Cond.fieldLink RX3 19 "HopCredits$Net" "flows" "[LHopCredits$Flow;", Cond.fieldLink RX3 23 "HopCredits$Net" "buffers" "[I", Cond.methodLink RX3 94 arraycopyName, Cond.native arraycopyName, Cond.static arraycopyName, Cond.initialized "java/lang/System", Cond.methodLink RX3 87 yX2_copy, Cond.instanceMethod yX2_copy, Cond.selects RX2 yX2_copy yX2_copy, Cond.initialized RX2, Cond.code yX2_copy cX2_copy 3 none, Cond.fieldLink RX2 28 "HopCredits$Link" "delay" "I", Cond.fieldLink RX2 32 "HopCredits$Link" "pool" "I", Cond.fieldLink RX2 35 "HopCredits$Link" "every" "I", Cond.fieldLink RX2 38 "HopCredits$Link" "jammed" "I"]
def wsX3_copy_r2 : List Cond := [Cond.fieldLink RX2 41 "HopCredits$Link" "latest" "I", Cond.fieldLink RX2 44 "HopCredits$Link" "sender" "I", Cond.fieldLink RX2 9 "HopCredits$Link" "cellAt" "[I", Cond.methodLink RX2 54 arraycopyName, Cond.fieldLink RX2 15 "HopCredits$Link" "updateAt" "[I", Cond.fieldLink RX2 18 "HopCredits$Link" "probesAt" "[I", Cond.fieldLink RX2 23 "HopCredits$Link" "lanes" "[LHopCredits$Lane;", Cond.methodLink RX2 60 yX1_copy, Cond.instanceMethod yX1_copy, Cond.selects RX1 yX1_copy yX1_copy, Cond.initialized RX1, Cond.code yX1_copy cX1_copy 2 none, Cond.fieldLink RX1 9 "HopCredits$Lane" "sent" "I", Cond.fieldLink RX1 15 "HopCredits$Lane" "gone" "I", Cond.fieldLink RX1 18 "HopCredits$Lane" "known" "I", Cond.fieldLink RX1 21 "HopCredits$Lane" "zone" "I", Cond.fieldLink RX1 24 "HopCredits$Lane" "waited" "I", Cond.fieldLink RX1 27 "HopCredits$Lane" "sinceUpdate" "I", Cond.fieldLink RX1 30 "HopCredits$Lane" "sinceAdapt" "I", Cond.methodLink RX3 91 yX0_copy, Cond.instanceMethod yX0_copy, Cond.selects RX0 yX0_copy yX0_copy, Cond.initialized RX0, Cond.code yX0_copy cX0_copy 2 none]
def wsX3_copy_r3 : List Cond := [Cond.fieldLink RX0 7 "HopCredits$Flow" "gap" "I", Cond.fieldLink RX0 13 "HopCredits$Flow" "start" "I", Cond.fieldLink RX0 16 "HopCredits$Flow" "takes" "I", Cond.fieldLink RX0 19 "HopCredits$Flow" "came" "I", Cond.fieldLink RX0 22 "HopCredits$Flow" "spilt" "I", Cond.fieldLink RX0 25 "HopCredits$Flow" "delivered" "I", Cond.fieldLink RX0 28 "HopCredits$Flow" "cameNow" "Z", Cond.fieldLink RX0 32 "HopCredits$Flow" "deliveredNow" "Z"]
def wsX3_copy : List Cond := .code yX3_copy cX3_copy 3 none :: ((wsX3_copy_r1 ++ (wsX3_copy_r2 ++ wsX3_copy_r3)) ++ wsX30 ++ wsX20 ++ wsX10 ++ wsX00)
def wsX3_sendUpdate : List Cond := .code yX3_sendUpdate cX3_sendUpdate 3 none :: ([.fieldLink RX3 207 "HopCredits$Link" "jammed" "I", .fieldLink RX3 81 "HopCredits$Net" "lost" "I", .fieldLink RX3 125 "HopCredits$Link" "updateAt" "[I", .fieldLink RX3 78 "HopCredits$Net" "tick" "I", .fieldLink RX3 183 "HopCredits$Link" "delay" "I", .fieldLink RX3 128 "HopCredits$Link" "lanes" "[LHopCredits$Lane;", .fieldLink RX3 198 "HopCredits$Lane" "gone" "I"] ++ wsX20 ++ wsX30 ++ wsX10)
def wsX3_arriveOver_r1 : List Cond := [Cond.fieldLink RX3 11 "HopCredits$Net" "links" "[LHopCredits$Link;", Cond.fieldLink RX3 78 "HopCredits$Net" "tick" "I", Cond.fieldLink RX3 122 "HopCredits$Link" "cellAt" "[I", Cond.fieldLink RX3 23 "HopCredits$Net" "buffers" "[I", Cond.fieldLink RX3 62 "HopCredits$Net" "circuits" "I", Cond.fieldLink RX3 125 "HopCredits$Link" "updateAt" "[I", Cond.fieldLink RX3 128 "HopCredits$Link" "lanes" "[LHopCredits$Lane;", Cond.fieldLink RX3 137 "HopCredits$Link" "probesAt" "[I", Cond.methodLink RX3 132 yX1_hear, Cond.instanceMethod yX1_hear, Cond.selects RX1 yX1_hear yX1_hear, Cond.initialized RX1, Cond.code yX1_hear cX1_hear 2 none, Cond.fieldLink RX1 18 "HopCredits$Lane" "known" "I", Cond.static yX6_reaches, Cond.initialized RX6, Cond.code yX6_reaches cX6_reaches 2 (some .boolean), Cond.methodLink RX3 140 yX3_sendUpdate, Cond.instanceMethod yX3_sendUpdate, Cond.selects RX3 yX3_sendUpdate yX3_sendUpdate, Cond.initialized RX3, Cond.code yX3_sendUpdate cX3_sendUpdate 3 none, Cond.fieldLink RX3 207 "HopCredits$Link" "jammed" "I", Cond.fieldLink RX3 81 "HopCredits$Net" "lost" "I"]
def wsX3_arriveOver_r2 : List Cond := [Cond.fieldLink RX3 183 "HopCredits$Link" "delay" "I", Cond.fieldLink RX3 198 "HopCredits$Lane" "gone" "I", Cond.methodLink RX3 144 yX2_clearSlot, Cond.instanceMethod yX2_clearSlot, Cond.selects RX2 yX2_clearSlot yX2_clearSlot, Cond.initialized RX2, Cond.code yX2_clearSlot cX2_clearSlot 3 none, Cond.fieldLink RX2 9 "HopCredits$Link" "cellAt" "[I", Cond.fieldLink RX2 15 "HopCredits$Link" "updateAt" "[I", Cond.fieldLink RX2 18 "HopCredits$Link" "probesAt" "[I"]
def wsX3_arriveOver : List Cond := .code yX3_arriveOver cX3_arriveOver 9 none :: ((wsX3_arriveOver_r1 ++ wsX3_arriveOver_r2) ++ wsX30 ++ wsX20 ++ wsX10)
def wsX3_come : List Cond := .code yX3_come cX3_come 3 none :: ([.fieldLink RX3 19 "HopCredits$Net" "flows" "[LHopCredits$Flow;", .fieldLink RX3 147 "HopCredits$Flow" "cameNow" "Z", .fieldLink RX3 78 "HopCredits$Net" "tick" "I", .fieldLink RX3 155 "HopCredits$Flow" "came" "I", .fieldLink RX3 23 "HopCredits$Net" "buffers" "[I", .fieldLink RX3 158 "HopCredits$Flow" "spilt" "I", .methodLink RX3 151 yX0_comesIn, .instanceMethod yX0_comesIn, .selects RX0 yX0_comesIn yX0_comesIn, .initialized RX0, .code yX0_comesIn cX0_comesIn 2 (some .boolean), .fieldLink RX0 7 "HopCredits$Flow" "gap" "I", .fieldLink RX0 13 "HopCredits$Flow" "start" "I"] ++ wsX30 ++ wsX00)
def wsX3_goneFrom : List Cond := .code yX3_goneFrom cX3_goneFrom 5 none :: ([.fieldLink RX3 11 "HopCredits$Net" "links" "[LHopCredits$Link;", .fieldLink RX3 128 "HopCredits$Link" "lanes" "[LHopCredits$Lane;", .fieldLink RX3 198 "HopCredits$Lane" "gone" "I", .fieldLink RX3 201 "HopCredits$Lane" "sinceUpdate" "I", .fieldLink RX3 204 "HopCredits$Link" "every" "I", .methodLink RX3 140 yX3_sendUpdate, .instanceMethod yX3_sendUpdate, .selects RX3 yX3_sendUpdate yX3_sendUpdate, .initialized RX3, .code yX3_sendUpdate cX3_sendUpdate 3 none, .fieldLink RX3 207 "HopCredits$Link" "jammed" "I", .fieldLink RX3 81 "HopCredits$Net" "lost" "I", .fieldLink RX3 125 "HopCredits$Link" "updateAt" "[I", .fieldLink RX3 78 "HopCredits$Net" "tick" "I", .fieldLink RX3 183 "HopCredits$Link" "delay" "I"] ++ wsX30 ++ wsX20 ++ wsX10)
def wsX3_take_r1 : List Cond := [Cond.fieldLink RX3 19 "HopCredits$Net" "flows" "[LHopCredits$Flow;", Cond.fieldLink RX3 53 "HopCredits$Net" "hops" "I", Cond.fieldLink RX3 78 "HopCredits$Net" "tick" "I", Cond.fieldLink RX3 23 "HopCredits$Net" "buffers" "[I", Cond.fieldLink RX3 164 "HopCredits$Flow" "deliveredNow" "Z", Cond.fieldLink RX3 167 "HopCredits$Flow" "delivered" "I", Cond.methodLink RX3 161 yX0_takesIn, Cond.instanceMethod yX0_takesIn, Cond.selects RX0 yX0_takesIn yX0_takesIn, Cond.initialized RX0, Cond.code yX0_takesIn cX0_takesIn 2 (some .boolean), Cond.fieldLink RX0 16 "HopCredits$Flow" "takes" "I", Cond.methodLink RX3 170 yX3_goneFrom, Cond.instanceMethod yX3_goneFrom, Cond.selects RX3 yX3_goneFrom yX3_goneFrom, Cond.initialized RX3, Cond.code yX3_goneFrom cX3_goneFrom 5 none, Cond.fieldLink RX3 11 "HopCredits$Net" "links" "[LHopCredits$Link;", Cond.fieldLink RX3 128 "HopCredits$Link" "lanes" "[LHopCredits$Lane;", Cond.fieldLink RX3 198 "HopCredits$Lane" "gone" "I", Cond.fieldLink RX3 201 "HopCredits$Lane" "sinceUpdate" "I", Cond.fieldLink RX3 204 "HopCredits$Link" "every" "I", Cond.methodLink RX3 140 yX3_sendUpdate, Cond.instanceMethod yX3_sendUpdate]
def wsX3_take_r2 : List Cond := [Cond.selects RX3 yX3_sendUpdate yX3_sendUpdate, Cond.code yX3_sendUpdate cX3_sendUpdate 3 none, Cond.fieldLink RX3 207 "HopCredits$Link" "jammed" "I", Cond.fieldLink RX3 81 "HopCredits$Net" "lost" "I", Cond.fieldLink RX3 125 "HopCredits$Link" "updateAt" "[I", Cond.fieldLink RX3 183 "HopCredits$Link" "delay" "I"]
def wsX3_take : List Cond := .code yX3_take cX3_take 4 none :: ((wsX3_take_r1 ++ wsX3_take_r2) ++ wsX30 ++ wsX00 ++ wsX20 ++ wsX10)
def wsX3_nextSender : List Cond := .code yX3_nextSender cX3_nextSender 6 (some .int) :: ([.fieldLink RX3 11 "HopCredits$Net" "links" "[LHopCredits$Link;", .fieldLink RX3 62 "HopCredits$Net" "circuits" "I", .fieldLink RX3 180 "HopCredits$Link" "latest" "I", .fieldLink RX3 128 "HopCredits$Link" "lanes" "[LHopCredits$Lane;", .fieldLink RX3 23 "HopCredits$Net" "buffers" "[I", .fieldLink RX3 195 "HopCredits$Lane" "zone" "I", .methodLink RX3 192 yX1_out, .instanceMethod yX1_out, .selects RX1 yX1_out yX1_out, .initialized RX1, .code yX1_out cX1_out 1 (some .int), .fieldLink RX1 9 "HopCredits$Lane" "sent" "I", .fieldLink RX1 18 "HopCredits$Lane" "known" "I"] ++ wsX30 ++ wsX20 ++ wsX10)
def wsX3_sendOver_r1 : List Cond := [Cond.fieldLink RX3 11 "HopCredits$Net" "links" "[LHopCredits$Link;", Cond.fieldLink RX3 177 "HopCredits$Link" "sender" "I", Cond.fieldLink RX3 180 "HopCredits$Link" "latest" "I", Cond.fieldLink RX3 122 "HopCredits$Link" "cellAt" "[I", Cond.fieldLink RX3 78 "HopCredits$Net" "tick" "I", Cond.fieldLink RX3 183 "HopCredits$Link" "delay" "I", Cond.fieldLink RX3 23 "HopCredits$Net" "buffers" "[I", Cond.fieldLink RX3 128 "HopCredits$Link" "lanes" "[LHopCredits$Lane;", Cond.fieldLink RX3 186 "HopCredits$Lane" "sent" "I", Cond.fieldLink RX3 189 "HopCredits$Lane" "sinceAdapt" "I", Cond.methodLink RX3 174 yX3_nextSender, Cond.instanceMethod yX3_nextSender, Cond.selects RX3 yX3_nextSender yX3_nextSender, Cond.initialized RX3, Cond.code yX3_nextSender cX3_nextSender 6 (some .int), Cond.fieldLink RX3 62 "HopCredits$Net" "circuits" "I", Cond.fieldLink RX3 195 "HopCredits$Lane" "zone" "I", Cond.methodLink RX3 192 yX1_out, Cond.instanceMethod yX1_out, Cond.selects RX1 yX1_out yX1_out, Cond.initialized RX1, Cond.code yX1_out cX1_out 1 (some .int), Cond.fieldLink RX1 9 "HopCredits$Lane" "sent" "I", Cond.fieldLink RX1 18 "HopCredits$Lane" "known" "I"]
def wsX3_sendOver_r2 : List Cond := [Cond.methodLink RX3 170 yX3_goneFrom, Cond.instanceMethod yX3_goneFrom, Cond.selects RX3 yX3_goneFrom yX3_goneFrom, Cond.code yX3_goneFrom cX3_goneFrom 5 none, Cond.fieldLink RX3 198 "HopCredits$Lane" "gone" "I", Cond.fieldLink RX3 201 "HopCredits$Lane" "sinceUpdate" "I", Cond.fieldLink RX3 204 "HopCredits$Link" "every" "I", Cond.methodLink RX3 140 yX3_sendUpdate, Cond.instanceMethod yX3_sendUpdate, Cond.selects RX3 yX3_sendUpdate yX3_sendUpdate, Cond.code yX3_sendUpdate cX3_sendUpdate 3 none, Cond.fieldLink RX3 207 "HopCredits$Link" "jammed" "I", Cond.fieldLink RX3 81 "HopCredits$Net" "lost" "I", Cond.fieldLink RX3 125 "HopCredits$Link" "updateAt" "[I"]
def wsX3_sendOver : List Cond := .code yX3_sendOver cX3_sendOver 5 none :: ((wsX3_sendOver_r1 ++ wsX3_sendOver_r2) ++ wsX30 ++ wsX20 ++ wsX10)
def wsX3_lacksCredit : List Cond := .code yX3_lacksCredit cX3_lacksCredit 3 (some .boolean) :: ([.fieldLink RX3 23 "HopCredits$Net" "buffers" "[I", .fieldLink RX3 11 "HopCredits$Net" "links" "[LHopCredits$Link;", .fieldLink RX3 128 "HopCredits$Link" "lanes" "[LHopCredits$Lane;", .fieldLink RX3 195 "HopCredits$Lane" "zone" "I", .methodLink RX3 192 yX1_out, .instanceMethod yX1_out, .selects RX1 yX1_out yX1_out, .initialized RX1, .code yX1_out cX1_out 1 (some .int), .fieldLink RX1 9 "HopCredits$Lane" "sent" "I", .fieldLink RX1 18 "HopCredits$Lane" "known" "I"] ++ wsX30 ++ wsX20 ++ wsX10)
def wsX3_sendProbe : List Cond := .code yX3_sendProbe cX3_sendProbe 3 none :: ([.fieldLink RX3 137 "HopCredits$Link" "probesAt" "[I", .fieldLink RX3 78 "HopCredits$Net" "tick" "I", .fieldLink RX3 183 "HopCredits$Link" "delay" "I", .fieldLink RX3 128 "HopCredits$Link" "lanes" "[LHopCredits$Lane;", .fieldLink RX3 210 "HopCredits$Lane" "waited" "I", .fieldLink RX3 84 "HopCredits$Net" "probesSent" "I"] ++ wsX20 ++ wsX30 ++ wsX10)
def wsX3_waitAt_r1 : List Cond := [Cond.fieldLink RX3 62 "HopCredits$Net" "circuits" "I", Cond.fieldLink RX3 11 "HopCredits$Net" "links" "[LHopCredits$Link;", Cond.fieldLink RX3 128 "HopCredits$Link" "lanes" "[LHopCredits$Lane;", Cond.fieldLink RX3 210 "HopCredits$Lane" "waited" "I", Cond.fieldLink RX3 50 "HopCredits$Net" "probes" "I", Cond.methodLink RX3 213 yX3_lacksCredit, Cond.instanceMethod yX3_lacksCredit, Cond.selects RX3 yX3_lacksCredit yX3_lacksCredit, Cond.initialized RX3, Cond.code yX3_lacksCredit cX3_lacksCredit 3 (some .boolean), Cond.fieldLink RX3 23 "HopCredits$Net" "buffers" "[I", Cond.fieldLink RX3 195 "HopCredits$Lane" "zone" "I", Cond.methodLink RX3 192 yX1_out, Cond.instanceMethod yX1_out, Cond.selects RX1 yX1_out yX1_out, Cond.initialized RX1, Cond.code yX1_out cX1_out 1 (some .int), Cond.fieldLink RX1 9 "HopCredits$Lane" "sent" "I", Cond.fieldLink RX1 18 "HopCredits$Lane" "known" "I", Cond.methodLink RX3 217 yX3_sendProbe, Cond.instanceMethod yX3_sendProbe, Cond.selects RX3 yX3_sendProbe yX3_sendProbe, Cond.code yX3_sendProbe cX3_sendProbe 3 none, Cond.fieldLink RX3 137 "HopCredits$Link" "probesAt" "[I"]
def wsX3_waitAt_r2 : List Cond := [Cond.fieldLink RX3 78 "HopCredits$Net" "tick" "I", Cond.fieldLink RX3 183 "HopCredits$Link" "delay" "I", Cond.fieldLink RX3 84 "HopCredits$Net" "probesSent" "I"]
def wsX3_waitAt : List Cond := .code yX3_waitAt cX3_waitAt 4 none :: ((wsX3_waitAt_r1 ++ wsX3_waitAt_r2) ++ wsX30 ++ wsX20 ++ wsX10)
def wsX3_aimOf : List Cond := .code yX3_aimOf cX3_aimOf 5 (some .int) :: ([.fieldLink RX3 62 "HopCredits$Net" "circuits" "I", .fieldLink RX3 128 "HopCredits$Link" "lanes" "[LHopCredits$Lane;", .fieldLink RX3 189 "HopCredits$Lane" "sinceAdapt" "I", .fieldLink RX3 230 "HopCredits$Link" "pool" "I", .fieldLink RX3 59 "HopCredits$Net" "reserve" "I"] ++ wsX30 ++ wsX20 ++ wsX10)
def wsX3_adapt_r1 : List Cond := [Cond.fieldLink RX3 62 "HopCredits$Net" "circuits" "I", Cond.fieldLink RX3 128 "HopCredits$Link" "lanes" "[LHopCredits$Lane;", Cond.fieldLink RX3 195 "HopCredits$Lane" "zone" "I", Cond.methodLink RX3 224 Lib.Math.min.name, Cond.static Lib.Math.min.name, Cond.initialized "java/lang/Math", Cond.code Lib.Math.min.name Lib.Math.min.code 2 (some .int), Cond.methodLink RX3 64 Lib.Math.max.name, Cond.static Lib.Math.max.name, Cond.code Lib.Math.max.name Lib.Math.max.code 2 (some .int), Cond.fieldLink RX3 189 "HopCredits$Lane" "sinceAdapt" "I", Cond.methodLink RX3 220 yX3_aimOf, Cond.instanceMethod yX3_aimOf, Cond.selects RX3 yX3_aimOf yX3_aimOf, Cond.initialized RX3, Cond.code yX3_aimOf cX3_aimOf 5 (some .int), Cond.fieldLink RX3 230 "HopCredits$Link" "pool" "I", Cond.fieldLink RX3 59 "HopCredits$Net" "reserve" "I", Cond.methodLink RX3 227 yX2_roomFor, Cond.instanceMethod yX2_roomFor, Cond.selects RX2 yX2_roomFor yX2_roomFor, Cond.initialized RX2, Cond.code yX2_roomFor cX2_roomFor 5 (some .int), Cond.fieldLink RX2 32 "HopCredits$Link" "pool" "I"]
def wsX3_adapt_r2 : List Cond := [Cond.fieldLink RX2 23 "HopCredits$Link" "lanes" "[LHopCredits$Lane;", Cond.fieldLink RX2 64 "HopCredits$Lane" "zone" "I", Cond.methodLink RX2 71 Lib.Math.max.name, Cond.methodLink RX2 67 yX1_out, Cond.instanceMethod yX1_out, Cond.selects RX1 yX1_out yX1_out, Cond.initialized RX1, Cond.code yX1_out cX1_out 1 (some .int), Cond.fieldLink RX1 9 "HopCredits$Lane" "sent" "I", Cond.fieldLink RX1 18 "HopCredits$Lane" "known" "I"]
def wsX3_adapt : List Cond := .code yX3_adapt cX3_adapt 5 none :: ((wsX3_adapt_r1 ++ wsX3_adapt_r2) ++ wsX30 ++ wsX20 ++ wsX10)
def wsX3_step_r1 : List Cond := [Cond.fieldLink RX3 53 "HopCredits$Net" "hops" "I", Cond.fieldLink RX3 62 "HopCredits$Net" "circuits" "I", Cond.fieldLink RX3 46 "HopCredits$Net" "adapts" "I", Cond.fieldLink RX3 78 "HopCredits$Net" "tick" "I", Cond.fieldLink RX3 11 "HopCredits$Net" "links" "[LHopCredits$Link;", Cond.methodLink RX3 103 yX3_arriveOver, Cond.instanceMethod yX3_arriveOver, Cond.selects RX3 yX3_arriveOver yX3_arriveOver, Cond.initialized RX3, Cond.code yX3_arriveOver cX3_arriveOver 9 none, Cond.fieldLink RX3 122 "HopCredits$Link" "cellAt" "[I", Cond.fieldLink RX3 23 "HopCredits$Net" "buffers" "[I", Cond.fieldLink RX3 125 "HopCredits$Link" "updateAt" "[I", Cond.fieldLink RX3 128 "HopCredits$Link" "lanes" "[LHopCredits$Lane;", Cond.fieldLink RX3 137 "HopCredits$Link" "probesAt" "[I", Cond.methodLink RX3 132 yX1_hear, Cond.instanceMethod yX1_hear, Cond.selects RX1 yX1_hear yX1_hear, Cond.initialized RX1, Cond.code yX1_hear cX1_hear 2 none, Cond.fieldLink RX1 18 "HopCredits$Lane" "known" "I", Cond.static yX6_reaches, Cond.initialized RX6, Cond.code yX6_reaches cX6_reaches 2 (some .boolean)]
def wsX3_step_r2 : List Cond := [Cond.methodLink RX3 140 yX3_sendUpdate, Cond.instanceMethod yX3_sendUpdate, Cond.selects RX3 yX3_sendUpdate yX3_sendUpdate, Cond.code yX3_sendUpdate cX3_sendUpdate 3 none, Cond.fieldLink RX3 207 "HopCredits$Link" "jammed" "I", Cond.fieldLink RX3 81 "HopCredits$Net" "lost" "I", Cond.fieldLink RX3 183 "HopCredits$Link" "delay" "I", Cond.fieldLink RX3 198 "HopCredits$Lane" "gone" "I", Cond.methodLink RX3 144 yX2_clearSlot, Cond.instanceMethod yX2_clearSlot, Cond.selects RX2 yX2_clearSlot yX2_clearSlot, Cond.initialized RX2, Cond.code yX2_clearSlot cX2_clearSlot 3 none, Cond.fieldLink RX2 9 "HopCredits$Link" "cellAt" "[I", Cond.fieldLink RX2 15 "HopCredits$Link" "updateAt" "[I", Cond.fieldLink RX2 18 "HopCredits$Link" "probesAt" "[I", Cond.methodLink RX3 107 yX3_come, Cond.instanceMethod yX3_come, Cond.selects RX3 yX3_come yX3_come, Cond.code yX3_come cX3_come 3 none, Cond.fieldLink RX3 19 "HopCredits$Net" "flows" "[LHopCredits$Flow;", Cond.fieldLink RX3 147 "HopCredits$Flow" "cameNow" "Z", Cond.fieldLink RX3 155 "HopCredits$Flow" "came" "I", Cond.fieldLink RX3 158 "HopCredits$Flow" "spilt" "I"]
def wsX3_step_r3 : List Cond := [Cond.methodLink RX3 151 yX0_comesIn, Cond.instanceMethod yX0_comesIn, Cond.selects RX0 yX0_comesIn yX0_comesIn, Cond.initialized RX0, Cond.code yX0_comesIn cX0_comesIn 2 (some .boolean), Cond.fieldLink RX0 7 "HopCredits$Flow" "gap" "I", Cond.fieldLink RX0 13 "HopCredits$Flow" "start" "I", Cond.methodLink RX3 110 yX3_take, Cond.instanceMethod yX3_take, Cond.selects RX3 yX3_take yX3_take, Cond.code yX3_take cX3_take 4 none, Cond.fieldLink RX3 164 "HopCredits$Flow" "deliveredNow" "Z", Cond.fieldLink RX3 167 "HopCredits$Flow" "delivered" "I", Cond.methodLink RX3 161 yX0_takesIn, Cond.instanceMethod yX0_takesIn, Cond.selects RX0 yX0_takesIn yX0_takesIn, Cond.code yX0_takesIn cX0_takesIn 2 (some .boolean), Cond.fieldLink RX0 16 "HopCredits$Flow" "takes" "I", Cond.methodLink RX3 170 yX3_goneFrom, Cond.instanceMethod yX3_goneFrom, Cond.selects RX3 yX3_goneFrom yX3_goneFrom, Cond.code yX3_goneFrom cX3_goneFrom 5 none, Cond.fieldLink RX3 201 "HopCredits$Lane" "sinceUpdate" "I", Cond.fieldLink RX3 204 "HopCredits$Link" "every" "I"]
def wsX3_step_r4 : List Cond := [Cond.methodLink RX3 113 yX3_sendOver, Cond.instanceMethod yX3_sendOver, Cond.selects RX3 yX3_sendOver yX3_sendOver, Cond.code yX3_sendOver cX3_sendOver 5 none, Cond.fieldLink RX3 177 "HopCredits$Link" "sender" "I", Cond.fieldLink RX3 180 "HopCredits$Link" "latest" "I", Cond.fieldLink RX3 186 "HopCredits$Lane" "sent" "I", Cond.fieldLink RX3 189 "HopCredits$Lane" "sinceAdapt" "I", Cond.methodLink RX3 174 yX3_nextSender, Cond.instanceMethod yX3_nextSender, Cond.selects RX3 yX3_nextSender yX3_nextSender, Cond.code yX3_nextSender cX3_nextSender 6 (some .int), Cond.fieldLink RX3 195 "HopCredits$Lane" "zone" "I", Cond.methodLink RX3 192 yX1_out, Cond.instanceMethod yX1_out, Cond.selects RX1 yX1_out yX1_out, Cond.code yX1_out cX1_out 1 (some .int), Cond.fieldLink RX1 9 "HopCredits$Lane" "sent" "I", Cond.methodLink RX3 116 yX3_waitAt, Cond.instanceMethod yX3_waitAt, Cond.selects RX3 yX3_waitAt yX3_waitAt, Cond.code yX3_waitAt cX3_waitAt 4 none, Cond.fieldLink RX3 210 "HopCredits$Lane" "waited" "I", Cond.fieldLink RX3 50 "HopCredits$Net" "probes" "I"]
def wsX3_step_r5 : List Cond := [Cond.methodLink RX3 213 yX3_lacksCredit, Cond.instanceMethod yX3_lacksCredit, Cond.selects RX3 yX3_lacksCredit yX3_lacksCredit, Cond.code yX3_lacksCredit cX3_lacksCredit 3 (some .boolean), Cond.methodLink RX3 217 yX3_sendProbe, Cond.instanceMethod yX3_sendProbe, Cond.selects RX3 yX3_sendProbe yX3_sendProbe, Cond.code yX3_sendProbe cX3_sendProbe 3 none, Cond.fieldLink RX3 84 "HopCredits$Net" "probesSent" "I", Cond.methodLink RX3 119 yX3_adapt, Cond.instanceMethod yX3_adapt, Cond.selects RX3 yX3_adapt yX3_adapt, Cond.code yX3_adapt cX3_adapt 5 none, Cond.methodLink RX3 224 Lib.Math.min.name, Cond.static Lib.Math.min.name, Cond.initialized "java/lang/Math", Cond.code Lib.Math.min.name Lib.Math.min.code 2 (some .int), Cond.methodLink RX3 64 Lib.Math.max.name, Cond.static Lib.Math.max.name, Cond.code Lib.Math.max.name Lib.Math.max.code 2 (some .int), Cond.methodLink RX3 220 yX3_aimOf, Cond.instanceMethod yX3_aimOf, Cond.selects RX3 yX3_aimOf yX3_aimOf, Cond.code yX3_aimOf cX3_aimOf 5 (some .int)]
def wsX3_step_r6 : List Cond := [Cond.fieldLink RX3 230 "HopCredits$Link" "pool" "I", Cond.fieldLink RX3 59 "HopCredits$Net" "reserve" "I", Cond.methodLink RX3 227 yX2_roomFor, Cond.instanceMethod yX2_roomFor, Cond.selects RX2 yX2_roomFor yX2_roomFor, Cond.code yX2_roomFor cX2_roomFor 5 (some .int), Cond.fieldLink RX2 32 "HopCredits$Link" "pool" "I", Cond.fieldLink RX2 23 "HopCredits$Link" "lanes" "[LHopCredits$Lane;", Cond.fieldLink RX2 64 "HopCredits$Lane" "zone" "I", Cond.methodLink RX2 71 Lib.Math.max.name, Cond.methodLink RX2 67 yX1_out]
def wsX3_step : List Cond := .code yX3_step cX3_step 2 none :: ((wsX3_step_r1 ++ (wsX3_step_r2 ++ (wsX3_step_r3 ++ (wsX3_step_r4 ++ (wsX3_step_r5 ++ wsX3_step_r6))))) ++ wsX30 ++ wsX20 ++ wsX10 ++ wsX00)
def wsX3_steps_r1 : List Cond := [Cond.methodLink RX3 100 yX3_step, Cond.instanceMethod yX3_step, Cond.selects RX3 yX3_step yX3_step, Cond.initialized RX3, Cond.code yX3_step cX3_step 2 none, Cond.fieldLink RX3 53 "HopCredits$Net" "hops" "I", Cond.fieldLink RX3 62 "HopCredits$Net" "circuits" "I", Cond.fieldLink RX3 46 "HopCredits$Net" "adapts" "I", Cond.fieldLink RX3 78 "HopCredits$Net" "tick" "I", Cond.fieldLink RX3 11 "HopCredits$Net" "links" "[LHopCredits$Link;", Cond.methodLink RX3 103 yX3_arriveOver, Cond.instanceMethod yX3_arriveOver, Cond.selects RX3 yX3_arriveOver yX3_arriveOver, Cond.code yX3_arriveOver cX3_arriveOver 9 none, Cond.fieldLink RX3 122 "HopCredits$Link" "cellAt" "[I", Cond.fieldLink RX3 23 "HopCredits$Net" "buffers" "[I", Cond.fieldLink RX3 125 "HopCredits$Link" "updateAt" "[I", Cond.fieldLink RX3 128 "HopCredits$Link" "lanes" "[LHopCredits$Lane;", Cond.fieldLink RX3 137 "HopCredits$Link" "probesAt" "[I", Cond.methodLink RX3 132 yX1_hear, Cond.instanceMethod yX1_hear, Cond.selects RX1 yX1_hear yX1_hear, Cond.initialized RX1, Cond.code yX1_hear cX1_hear 2 none]
def wsX3_steps_r2 : List Cond := [Cond.fieldLink RX1 18 "HopCredits$Lane" "known" "I", Cond.static yX6_reaches, Cond.initialized RX6, Cond.code yX6_reaches cX6_reaches 2 (some .boolean), Cond.methodLink RX3 140 yX3_sendUpdate, Cond.instanceMethod yX3_sendUpdate, Cond.selects RX3 yX3_sendUpdate yX3_sendUpdate, Cond.code yX3_sendUpdate cX3_sendUpdate 3 none, Cond.fieldLink RX3 207 "HopCredits$Link" "jammed" "I", Cond.fieldLink RX3 81 "HopCredits$Net" "lost" "I", Cond.fieldLink RX3 183 "HopCredits$Link" "delay" "I", Cond.fieldLink RX3 198 "HopCredits$Lane" "gone" "I", Cond.methodLink RX3 144 yX2_clearSlot, Cond.instanceMethod yX2_clearSlot, Cond.selects RX2 yX2_clearSlot yX2_clearSlot, Cond.initialized RX2, Cond.code yX2_clearSlot cX2_clearSlot 3 none, Cond.fieldLink RX2 9 "HopCredits$Link" "cellAt" "[I", Cond.fieldLink RX2 15 "HopCredits$Link" "updateAt" "[I", Cond.fieldLink RX2 18 "HopCredits$Link" "probesAt" "[I", Cond.methodLink RX3 107 yX3_come, Cond.instanceMethod yX3_come, Cond.selects RX3 yX3_come yX3_come, Cond.code yX3_come cX3_come 3 none]
def wsX3_steps_r3 : List Cond := [Cond.fieldLink RX3 19 "HopCredits$Net" "flows" "[LHopCredits$Flow;", Cond.fieldLink RX3 147 "HopCredits$Flow" "cameNow" "Z", Cond.fieldLink RX3 155 "HopCredits$Flow" "came" "I", Cond.fieldLink RX3 158 "HopCredits$Flow" "spilt" "I", Cond.methodLink RX3 151 yX0_comesIn, Cond.instanceMethod yX0_comesIn, Cond.selects RX0 yX0_comesIn yX0_comesIn, Cond.initialized RX0, Cond.code yX0_comesIn cX0_comesIn 2 (some .boolean), Cond.fieldLink RX0 7 "HopCredits$Flow" "gap" "I", Cond.fieldLink RX0 13 "HopCredits$Flow" "start" "I", Cond.methodLink RX3 110 yX3_take, Cond.instanceMethod yX3_take, Cond.selects RX3 yX3_take yX3_take, Cond.code yX3_take cX3_take 4 none, Cond.fieldLink RX3 164 "HopCredits$Flow" "deliveredNow" "Z", Cond.fieldLink RX3 167 "HopCredits$Flow" "delivered" "I", Cond.methodLink RX3 161 yX0_takesIn, Cond.instanceMethod yX0_takesIn, Cond.selects RX0 yX0_takesIn yX0_takesIn, Cond.code yX0_takesIn cX0_takesIn 2 (some .boolean), Cond.fieldLink RX0 16 "HopCredits$Flow" "takes" "I", Cond.methodLink RX3 170 yX3_goneFrom, Cond.instanceMethod yX3_goneFrom]
def wsX3_steps_r4 : List Cond := [Cond.selects RX3 yX3_goneFrom yX3_goneFrom, Cond.code yX3_goneFrom cX3_goneFrom 5 none, Cond.fieldLink RX3 201 "HopCredits$Lane" "sinceUpdate" "I", Cond.fieldLink RX3 204 "HopCredits$Link" "every" "I", Cond.methodLink RX3 113 yX3_sendOver, Cond.instanceMethod yX3_sendOver, Cond.selects RX3 yX3_sendOver yX3_sendOver, Cond.code yX3_sendOver cX3_sendOver 5 none, Cond.fieldLink RX3 177 "HopCredits$Link" "sender" "I", Cond.fieldLink RX3 180 "HopCredits$Link" "latest" "I", Cond.fieldLink RX3 186 "HopCredits$Lane" "sent" "I", Cond.fieldLink RX3 189 "HopCredits$Lane" "sinceAdapt" "I", Cond.methodLink RX3 174 yX3_nextSender, Cond.instanceMethod yX3_nextSender, Cond.selects RX3 yX3_nextSender yX3_nextSender, Cond.code yX3_nextSender cX3_nextSender 6 (some .int), Cond.fieldLink RX3 195 "HopCredits$Lane" "zone" "I", Cond.methodLink RX3 192 yX1_out, Cond.instanceMethod yX1_out, Cond.selects RX1 yX1_out yX1_out, Cond.code yX1_out cX1_out 1 (some .int), Cond.fieldLink RX1 9 "HopCredits$Lane" "sent" "I", Cond.methodLink RX3 116 yX3_waitAt, Cond.instanceMethod yX3_waitAt]
def wsX3_steps_r5 : List Cond := [Cond.selects RX3 yX3_waitAt yX3_waitAt, Cond.code yX3_waitAt cX3_waitAt 4 none, Cond.fieldLink RX3 210 "HopCredits$Lane" "waited" "I", Cond.fieldLink RX3 50 "HopCredits$Net" "probes" "I", Cond.methodLink RX3 213 yX3_lacksCredit, Cond.instanceMethod yX3_lacksCredit, Cond.selects RX3 yX3_lacksCredit yX3_lacksCredit, Cond.code yX3_lacksCredit cX3_lacksCredit 3 (some .boolean), Cond.methodLink RX3 217 yX3_sendProbe, Cond.instanceMethod yX3_sendProbe, Cond.selects RX3 yX3_sendProbe yX3_sendProbe, Cond.code yX3_sendProbe cX3_sendProbe 3 none, Cond.fieldLink RX3 84 "HopCredits$Net" "probesSent" "I", Cond.methodLink RX3 119 yX3_adapt, Cond.instanceMethod yX3_adapt, Cond.selects RX3 yX3_adapt yX3_adapt, Cond.code yX3_adapt cX3_adapt 5 none, Cond.methodLink RX3 224 Lib.Math.min.name, Cond.static Lib.Math.min.name, Cond.initialized "java/lang/Math", Cond.code Lib.Math.min.name Lib.Math.min.code 2 (some .int), Cond.methodLink RX3 64 Lib.Math.max.name, Cond.static Lib.Math.max.name, Cond.code Lib.Math.max.name Lib.Math.max.code 2 (some .int)]
def wsX3_steps_r6 : List Cond := [Cond.methodLink RX3 220 yX3_aimOf, Cond.instanceMethod yX3_aimOf, Cond.selects RX3 yX3_aimOf yX3_aimOf, Cond.code yX3_aimOf cX3_aimOf 5 (some .int), Cond.fieldLink RX3 230 "HopCredits$Link" "pool" "I", Cond.fieldLink RX3 59 "HopCredits$Net" "reserve" "I", Cond.methodLink RX3 227 yX2_roomFor, Cond.instanceMethod yX2_roomFor, Cond.selects RX2 yX2_roomFor yX2_roomFor, Cond.code yX2_roomFor cX2_roomFor 5 (some .int), Cond.fieldLink RX2 32 "HopCredits$Link" "pool" "I", Cond.fieldLink RX2 23 "HopCredits$Link" "lanes" "[LHopCredits$Lane;", Cond.fieldLink RX2 64 "HopCredits$Lane" "zone" "I", Cond.methodLink RX2 71 Lib.Math.max.name, Cond.methodLink RX2 67 yX1_out]
def wsX3_steps : List Cond := .code yX3_steps cX3_steps 3 none :: ((wsX3_steps_r1 ++ (wsX3_steps_r2 ++ (wsX3_steps_r3 ++ (wsX3_steps_r4 ++ (wsX3_steps_r5 ++ wsX3_steps_r6))))) ++ wsX30 ++ wsX20 ++ wsX10 ++ wsX00)
def wsX3_restingStep_r1 : List Cond := [Cond.fieldLink RX3 53 "HopCredits$Net" "hops" "I", Cond.fieldLink RX3 78 "HopCredits$Net" "tick" "I", Cond.methodLink RX3 103 yX3_arriveOver, Cond.instanceMethod yX3_arriveOver, Cond.selects RX3 yX3_arriveOver yX3_arriveOver, Cond.initialized RX3, Cond.code yX3_arriveOver cX3_arriveOver 9 none, Cond.fieldLink RX3 11 "HopCredits$Net" "links" "[LHopCredits$Link;", Cond.fieldLink RX3 122 "HopCredits$Link" "cellAt" "[I", Cond.fieldLink RX3 23 "HopCredits$Net" "buffers" "[I", Cond.fieldLink RX3 62 "HopCredits$Net" "circuits" "I", Cond.fieldLink RX3 125 "HopCredits$Link" "updateAt" "[I", Cond.fieldLink RX3 128 "HopCredits$Link" "lanes" "[LHopCredits$Lane;", Cond.fieldLink RX3 137 "HopCredits$Link" "probesAt" "[I", Cond.methodLink RX3 132 yX1_hear, Cond.instanceMethod yX1_hear, Cond.selects RX1 yX1_hear yX1_hear, Cond.initialized RX1, Cond.code yX1_hear cX1_hear 2 none, Cond.fieldLink RX1 18 "HopCredits$Lane" "known" "I", Cond.static yX6_reaches, Cond.initialized RX6, Cond.code yX6_reaches cX6_reaches 2 (some .boolean), Cond.methodLink RX3 140 yX3_sendUpdate]
def wsX3_restingStep_r2 : List Cond := [Cond.instanceMethod yX3_sendUpdate, Cond.selects RX3 yX3_sendUpdate yX3_sendUpdate, Cond.code yX3_sendUpdate cX3_sendUpdate 3 none, Cond.fieldLink RX3 207 "HopCredits$Link" "jammed" "I", Cond.fieldLink RX3 81 "HopCredits$Net" "lost" "I", Cond.fieldLink RX3 183 "HopCredits$Link" "delay" "I", Cond.fieldLink RX3 198 "HopCredits$Lane" "gone" "I", Cond.methodLink RX3 144 yX2_clearSlot, Cond.instanceMethod yX2_clearSlot, Cond.selects RX2 yX2_clearSlot yX2_clearSlot, Cond.initialized RX2, Cond.code yX2_clearSlot cX2_clearSlot 3 none, Cond.fieldLink RX2 9 "HopCredits$Link" "cellAt" "[I", Cond.fieldLink RX2 15 "HopCredits$Link" "updateAt" "[I", Cond.fieldLink RX2 18 "HopCredits$Link" "probesAt" "[I", Cond.methodLink RX3 116 yX3_waitAt, Cond.instanceMethod yX3_waitAt, Cond.selects RX3 yX3_waitAt yX3_waitAt, Cond.code yX3_waitAt cX3_waitAt 4 none, Cond.fieldLink RX3 210 "HopCredits$Lane" "waited" "I", Cond.fieldLink RX3 50 "HopCredits$Net" "probes" "I", Cond.methodLink RX3 213 yX3_lacksCredit, Cond.instanceMethod yX3_lacksCredit, Cond.selects RX3 yX3_lacksCredit yX3_lacksCredit]
def wsX3_restingStep_r3 : List Cond := [Cond.code yX3_lacksCredit cX3_lacksCredit 3 (some .boolean), Cond.fieldLink RX3 195 "HopCredits$Lane" "zone" "I", Cond.methodLink RX3 192 yX1_out, Cond.instanceMethod yX1_out, Cond.selects RX1 yX1_out yX1_out, Cond.code yX1_out cX1_out 1 (some .int), Cond.fieldLink RX1 9 "HopCredits$Lane" "sent" "I", Cond.methodLink RX3 217 yX3_sendProbe, Cond.instanceMethod yX3_sendProbe, Cond.selects RX3 yX3_sendProbe yX3_sendProbe, Cond.code yX3_sendProbe cX3_sendProbe 3 none, Cond.fieldLink RX3 84 "HopCredits$Net" "probesSent" "I"]
def wsX3_restingStep : List Cond := .code yX3_restingStep cX3_restingStep 2 none :: ((wsX3_restingStep_r1 ++ (wsX3_restingStep_r2 ++ wsX3_restingStep_r3)) ++ wsX30 ++ wsX20 ++ wsX10)
def wsX3_waitingAt : List Cond := .code yX3_waitingAt cX3_waitingAt 3 (some .int) :: ([.fieldLink RX3 23 "HopCredits$Net" "buffers" "[I"] ++ wsX30)
def wsX3_crowd : List Cond := .code yX3_crowd cX3_crowd 8 (some .int) :: ([.fieldLink RX3 62 "HopCredits$Net" "circuits" "I", .fieldLink RX3 11 "HopCredits$Net" "links" "[LHopCredits$Link;", .methodLink RX3 233 yX3_waitingAt, .instanceMethod yX3_waitingAt, .selects RX3 yX3_waitingAt yX3_waitingAt, .initialized RX3, .code yX3_waitingAt cX3_waitingAt 3 (some .int), .fieldLink RX3 23 "HopCredits$Net" "buffers" "[I", .methodLink RX3 236 yX2_cellsOnOf, .instanceMethod yX2_cellsOnOf, .selects RX2 yX2_cellsOnOf yX2_cellsOnOf, .initialized RX2, .code yX2_cellsOnOf cX2_cellsOnOf 4 (some .int), .fieldLink RX2 9 "HopCredits$Link" "cellAt" "[I"] ++ wsX30 ++ wsX20)
def wsX3_cellsOf : List Cond := .code yX3_cellsOf cX3_cellsOf 4 (some .int) :: ([.fieldLink RX3 53 "HopCredits$Net" "hops" "I", .fieldLink RX3 11 "HopCredits$Net" "links" "[LHopCredits$Link;", .methodLink RX3 233 yX3_waitingAt, .instanceMethod yX3_waitingAt, .selects RX3 yX3_waitingAt yX3_waitingAt, .initialized RX3, .code yX3_waitingAt cX3_waitingAt 3 (some .int), .fieldLink RX3 23 "HopCredits$Net" "buffers" "[I", .methodLink RX3 236 yX2_cellsOnOf, .instanceMethod yX2_cellsOnOf, .selects RX2 yX2_cellsOnOf yX2_cellsOnOf, .initialized RX2, .code yX2_cellsOnOf cX2_cellsOnOf 4 (some .int), .fieldLink RX2 9 "HopCredits$Link" "cellAt" "[I"] ++ wsX30 ++ wsX20)
def wsX3_cellsOfAll : List Cond := .code yX3_cellsOfAll cX3_cellsOfAll 3 (some .int) :: ([.fieldLink RX3 62 "HopCredits$Net" "circuits" "I", .methodLink RX3 239 yX3_cellsOf, .instanceMethod yX3_cellsOf, .selects RX3 yX3_cellsOf yX3_cellsOf, .initialized RX3, .code yX3_cellsOf cX3_cellsOf 4 (some .int), .fieldLink RX3 53 "HopCredits$Net" "hops" "I", .fieldLink RX3 11 "HopCredits$Net" "links" "[LHopCredits$Link;", .methodLink RX3 233 yX3_waitingAt, .instanceMethod yX3_waitingAt, .selects RX3 yX3_waitingAt yX3_waitingAt, .code yX3_waitingAt cX3_waitingAt 3 (some .int), .fieldLink RX3 23 "HopCredits$Net" "buffers" "[I", .methodLink RX3 236 yX2_cellsOnOf, .instanceMethod yX2_cellsOnOf, .selects RX2 yX2_cellsOnOf yX2_cellsOnOf, .initialized RX2, .code yX2_cellsOnOf cX2_cellsOnOf 4 (some .int), .fieldLink RX2 9 "HopCredits$Link" "cellAt" "[I"] ++ wsX30 ++ wsX20)
def wsX3_deliveredOfAll : List Cond := .code yX3_deliveredOfAll cX3_deliveredOfAll 3 (some .int) :: ([.fieldLink RX3 62 "HopCredits$Net" "circuits" "I", .fieldLink RX3 19 "HopCredits$Net" "flows" "[LHopCredits$Flow;", .fieldLink RX3 167 "HopCredits$Flow" "delivered" "I"] ++ wsX30 ++ wsX00)
def wsX3_unknown : List Cond := .code yX3_unknown cX3_unknown 5 (some .int) :: ([.fieldLink RX3 53 "HopCredits$Net" "hops" "I", .fieldLink RX3 62 "HopCredits$Net" "circuits" "I", .fieldLink RX3 11 "HopCredits$Net" "links" "[LHopCredits$Link;", .fieldLink RX3 128 "HopCredits$Link" "lanes" "[LHopCredits$Lane;", .fieldLink RX3 242 "HopCredits$Lane" "known" "I", .fieldLink RX3 198 "HopCredits$Lane" "gone" "I"] ++ wsX30 ++ wsX20 ++ wsX10)
def wsX3_movedNow : List Cond := .code yX3_movedNow cX3_movedNow 2 (some .boolean) :: ([.fieldLink RX3 53 "HopCredits$Net" "hops" "I", .fieldLink RX3 11 "HopCredits$Net" "links" "[LHopCredits$Link;", .fieldLink RX3 177 "HopCredits$Link" "sender" "I", .fieldLink RX3 62 "HopCredits$Net" "circuits" "I", .fieldLink RX3 19 "HopCredits$Net" "flows" "[LHopCredits$Flow;", .fieldLink RX3 164 "HopCredits$Flow" "deliveredNow" "Z"] ++ wsX30 ++ wsX20 ++ wsX00)
def wsX4_init : List Cond := .code yX4_init cX4_init 1 none :: ([.methodLink RX4 3 objectInit, .instanceMethod objectInit, .code objectInit ⟨#[0xb1]⟩ 1 none, .arrayClass .int, .fieldLink RX4 9 "HopCredits$Reading" "text" "[I", .fieldLink RX4 15 "HopCredits$Reading" "values" "[I"] ++ wsX40)
def wsX4_kindOf : List Cond := .code yX4_kindOf cX4_kindOf 1 (some .int) :: ([])
def wsX4_setUsual : List Cond := .code yX4_setUsual cX4_setUsual 3 none :: ([.fieldLink RX4 15 "HopCredits$Reading" "values" "[I", .fieldLink RX4 47 "HopCredits$Reading" "USUAL" "[I", .methodLink RX4 50 yX4_kindOf, .static yX4_kindOf, .initialized RX4, .code yX4_kindOf cX4_kindOf 1 (some .int)] ++ wsX40)
def wsX4_passBlanks : List Cond := .code yX4_passBlanks cX4_passBlanks 1 none :: ([.fieldLink RX4 28 "HopCredits$Reading" "at" "I", .fieldLink RX4 24 "HopCredits$Reading" "length" "I", .fieldLink RX4 9 "HopCredits$Reading" "text" "[I"] ++ wsX40)
def wsX4_clauseOf : List Cond := .code yX4_clauseOf cX4_clauseOf 3 (some .int) :: ([.fieldLink RX4 34 "HopCredits$Reading" "hopsTold" "I", .fieldLink RX4 37 "HopCredits$Reading" "circuitsTold" "I"] ++ wsX40)
def wsX4_readHead : List Cond := .code yX4_readHead cX4_readHead 3 (some .int) :: ([.fieldLink RX4 28 "HopCredits$Reading" "at" "I", .fieldLink RX4 24 "HopCredits$Reading" "length" "I", .fieldLink RX4 9 "HopCredits$Reading" "text" "[I", .fieldLink RX4 31 "HopCredits$Reading" "fault" "I", .methodLink RX4 58 yX4_passBlanks, .instanceMethod yX4_passBlanks, .selects RX4 yX4_passBlanks yX4_passBlanks, .initialized RX4, .code yX4_passBlanks cX4_passBlanks 1 none, .methodLink RX4 68 yX4_clauseOf, .instanceMethod yX4_clauseOf, .selects RX4 yX4_clauseOf yX4_clauseOf, .code yX4_clauseOf cX4_clauseOf 3 (some .int), .fieldLink RX4 34 "HopCredits$Reading" "hopsTold" "I", .fieldLink RX4 37 "HopCredits$Reading" "circuitsTold" "I"] ++ wsX40)
def wsJ0_charAt_5068e_r1 : List Cond := [Cond.fieldLink RJ0 9 "java/lang/String" "value" "[B", Cond.methodLink RJ0 492 yJ0_isLatin1_aae02, Cond.instanceMethod yJ0_isLatin1_aae02, Cond.selects RJ0 yJ0_isLatin1_aae02 yJ0_isLatin1_aae02, Cond.initialized RJ0, Cond.code yJ0_isLatin1_aae02 cJ0_isLatin1_aae02 1 (some .boolean), Cond.fieldLink RJ0 38 "java/lang/String" "COMPACT_STRINGS" "Z", Cond.fieldLink RJ0 15 "java/lang/String" "coder" "B", Cond.methodLink RJ0 495 yJ1_charAt_3b067, Cond.static yJ1_charAt_3b067, Cond.initialized RJ1, Cond.code yJ1_charAt_3b067 cJ1_charAt_3b067 2 (some .char), Cond.methodLink RJ1 9 yJ0_checkIndex_df160, Cond.static yJ0_checkIndex_df160, Cond.code yJ0_checkIndex_df160 cJ0_checkIndex_df160 2 none, Cond.fieldLink RJ0 1053 "jdk/internal/util/Preconditions" "SIOOBE_FORMATTER" "Ljava/util/function/BiFunction;", Cond.methodLink RJ0 1059 yJ3_checkIndex_8e157, Cond.static yJ3_checkIndex_8e157, Cond.initialized RJ3, Cond.code yJ3_checkIndex_8e157 cJ3_checkIndex_8e157 3 (some .int), Cond.methodLink RJ0 498 yJ2_charAt_3b067, Cond.static yJ2_charAt_3b067, Cond.initialized RJ2, Cond.code yJ2_charAt_3b067 cJ2_charAt_3b067 2 (some .char)]
def wsJ0_charAt_5068e_r2 : List Cond := [Cond.methodLink RJ2 67 yJ2_checkIndex_2214a, Cond.static yJ2_checkIndex_2214a, Cond.code yJ2_checkIndex_2214a cJ2_checkIndex_2214a 2 none, Cond.methodLink RJ2 48 yJ2_length_9d52b, Cond.static yJ2_length_9d52b, Cond.code yJ2_length_9d52b cJ2_length_9d52b 1 (some .int), Cond.methodLink RJ2 414 yJ0_checkIndex_df160, Cond.methodLink RJ2 71 yJ2_getChar_3b067, Cond.static yJ2_getChar_3b067, Cond.code yJ2_getChar_3b067 cJ2_getChar_3b067 2 (some .char), Cond.fieldLink RJ2 44 "java/lang/StringUTF16" "$assertionsDisabled" "Z", Cond.fieldLink RJ2 59 "java/lang/StringUTF16" "HI_BYTE_SHIFT" "I", Cond.fieldLink RJ2 63 "java/lang/StringUTF16" "LO_BYTE_SHIFT" "I"]
def wsJ0_charAt_5068e : List Cond := .code yJ0_charAt_5068e cJ0_charAt_5068e 2 (some .char) :: ((wsJ0_charAt_5068e_r1 ++ wsJ0_charAt_5068e_r2))
def wsX4_itemOf_r1 : List Cond := [Cond.methodLink RX4 74 yJ0_charAt_5068e, Cond.instanceMethod yJ0_charAt_5068e, Cond.selects RJ0 yJ0_charAt_5068e yJ0_charAt_5068e, Cond.initialized RJ0, Cond.code yJ0_charAt_5068e cJ0_charAt_5068e 2 (some .char), Cond.fieldLink RJ0 9 "java/lang/String" "value" "[B", Cond.methodLink RJ0 492 yJ0_isLatin1_aae02, Cond.instanceMethod yJ0_isLatin1_aae02, Cond.selects RJ0 yJ0_isLatin1_aae02 yJ0_isLatin1_aae02, Cond.code yJ0_isLatin1_aae02 cJ0_isLatin1_aae02 1 (some .boolean), Cond.fieldLink RJ0 38 "java/lang/String" "COMPACT_STRINGS" "Z", Cond.fieldLink RJ0 15 "java/lang/String" "coder" "B", Cond.methodLink RJ0 495 yJ1_charAt_3b067, Cond.static yJ1_charAt_3b067, Cond.initialized RJ1, Cond.code yJ1_charAt_3b067 cJ1_charAt_3b067 2 (some .char), Cond.methodLink RJ1 9 yJ0_checkIndex_df160, Cond.static yJ0_checkIndex_df160, Cond.code yJ0_checkIndex_df160 cJ0_checkIndex_df160 2 none, Cond.fieldLink RJ0 1053 "jdk/internal/util/Preconditions" "SIOOBE_FORMATTER" "Ljava/util/function/BiFunction;", Cond.methodLink RJ0 1059 yJ3_checkIndex_8e157, Cond.static yJ3_checkIndex_8e157, Cond.initialized RJ3, Cond.code yJ3_checkIndex_8e157 cJ3_checkIndex_8e157 3 (some .int)]
def wsX4_itemOf_r2 : List Cond := [Cond.methodLink RJ0 498 yJ2_charAt_3b067, Cond.static yJ2_charAt_3b067, Cond.initialized RJ2, Cond.code yJ2_charAt_3b067 cJ2_charAt_3b067 2 (some .char), Cond.methodLink RJ2 67 yJ2_checkIndex_2214a, Cond.static yJ2_checkIndex_2214a, Cond.code yJ2_checkIndex_2214a cJ2_checkIndex_2214a 2 none, Cond.methodLink RJ2 48 yJ2_length_9d52b, Cond.static yJ2_length_9d52b, Cond.code yJ2_length_9d52b cJ2_length_9d52b 1 (some .int), Cond.methodLink RJ2 414 yJ0_checkIndex_df160, Cond.methodLink RJ2 71 yJ2_getChar_3b067, Cond.static yJ2_getChar_3b067, Cond.code yJ2_getChar_3b067 cJ2_getChar_3b067 2 (some .char), Cond.fieldLink RJ2 44 "java/lang/StringUTF16" "$assertionsDisabled" "Z", Cond.fieldLink RJ2 59 "java/lang/StringUTF16" "HI_BYTE_SHIFT" "I", Cond.fieldLink RJ2 63 "java/lang/StringUTF16" "LO_BYTE_SHIFT" "I"]
def wsX4_itemOf : List Cond := .code yX4_itemOf cX4_itemOf 3 (some .int) :: ((wsX4_itemOf_r1 ++ wsX4_itemOf_r2))
def wsX4_isDigitHere : List Cond := .code yX4_isDigitHere cX4_isDigitHere 1 (some .boolean) :: ([.fieldLink RX4 28 "HopCredits$Reading" "at" "I", .fieldLink RX4 24 "HopCredits$Reading" "length" "I", .fieldLink RX4 9 "HopCredits$Reading" "text" "[I"] ++ wsX40)
def wsX6_outside : List Cond := .code yX6_outside cX6_outside 3 (some .boolean) :: ([])
def wsX4_readNumber : List Cond := .code yX4_readNumber cX4_readNumber 6 none :: ([.fieldLink RX4 9 "HopCredits$Reading" "text" "[I", .fieldLink RX4 28 "HopCredits$Reading" "at" "I", .fieldLink RX4 31 "HopCredits$Reading" "fault" "I", .fieldLink RX4 84 "HopCredits$Reading" "LOWS" "[I", .fieldLink RX4 87 "HopCredits$Reading" "HIGHS" "[I", .fieldLink RX4 15 "HopCredits$Reading" "values" "[I", .methodLink RX4 58 yX4_passBlanks, .instanceMethod yX4_passBlanks, .selects RX4 yX4_passBlanks yX4_passBlanks, .initialized RX4, .code yX4_passBlanks cX4_passBlanks 1 none, .fieldLink RX4 24 "HopCredits$Reading" "length" "I", .methodLink RX4 80 yX4_isDigitHere, .instanceMethod yX4_isDigitHere, .selects RX4 yX4_isDigitHere yX4_isDigitHere, .code yX4_isDigitHere cX4_isDigitHere 1 (some .boolean), .methodLink RX4 50 yX4_kindOf, .static yX4_kindOf, .code yX4_kindOf cX4_kindOf 1 (some .int), .static yX6_outside, .initialized RX6, .code yX6_outside cX6_outside 3 (some .boolean)] ++ wsX40)
def wsX4_readClause_r1 : List Cond := [Cond.fieldLink RX4 28 "HopCredits$Reading" "at" "I", Cond.fieldLink RX4 24 "HopCredits$Reading" "length" "I", Cond.fieldLink RX4 9 "HopCredits$Reading" "text" "[I", Cond.fieldLink RX4 31 "HopCredits$Reading" "fault" "I", Cond.methodLink RX4 54 yX4_readHead, Cond.instanceMethod yX4_readHead, Cond.selects RX4 yX4_readHead yX4_readHead, Cond.initialized RX4, Cond.code yX4_readHead cX4_readHead 3 (some .int), Cond.methodLink RX4 58 yX4_passBlanks, Cond.instanceMethod yX4_passBlanks, Cond.selects RX4 yX4_passBlanks yX4_passBlanks, Cond.code yX4_passBlanks cX4_passBlanks 1 none, Cond.methodLink RX4 68 yX4_clauseOf, Cond.instanceMethod yX4_clauseOf, Cond.selects RX4 yX4_clauseOf yX4_clauseOf, Cond.code yX4_clauseOf cX4_clauseOf 3 (some .int), Cond.fieldLink RX4 34 "HopCredits$Reading" "hopsTold" "I", Cond.fieldLink RX4 37 "HopCredits$Reading" "circuitsTold" "I", Cond.methodLink RX4 50 yX4_kindOf, Cond.static yX4_kindOf, Cond.code yX4_kindOf cX4_kindOf 1 (some .int), Cond.methodLink RX4 61 yX4_itemOf, Cond.static yX4_itemOf]
def wsX4_readClause_r2 : List Cond := [Cond.code yX4_itemOf cX4_itemOf 3 (some .int), Cond.methodLink RX4 74 yJ0_charAt_5068e, Cond.instanceMethod yJ0_charAt_5068e, Cond.selects RJ0 yJ0_charAt_5068e yJ0_charAt_5068e, Cond.initialized RJ0, Cond.code yJ0_charAt_5068e cJ0_charAt_5068e 2 (some .char), Cond.fieldLink RJ0 9 "java/lang/String" "value" "[B", Cond.methodLink RJ0 492 yJ0_isLatin1_aae02, Cond.instanceMethod yJ0_isLatin1_aae02, Cond.selects RJ0 yJ0_isLatin1_aae02 yJ0_isLatin1_aae02, Cond.code yJ0_isLatin1_aae02 cJ0_isLatin1_aae02 1 (some .boolean), Cond.fieldLink RJ0 38 "java/lang/String" "COMPACT_STRINGS" "Z", Cond.fieldLink RJ0 15 "java/lang/String" "coder" "B", Cond.methodLink RJ0 495 yJ1_charAt_3b067, Cond.static yJ1_charAt_3b067, Cond.initialized RJ1, Cond.code yJ1_charAt_3b067 cJ1_charAt_3b067 2 (some .char), Cond.methodLink RJ1 9 yJ0_checkIndex_df160, Cond.static yJ0_checkIndex_df160, Cond.code yJ0_checkIndex_df160 cJ0_checkIndex_df160 2 none, Cond.fieldLink RJ0 1053 "jdk/internal/util/Preconditions" "SIOOBE_FORMATTER" "Ljava/util/function/BiFunction;", Cond.methodLink RJ0 1059 yJ3_checkIndex_8e157, Cond.static yJ3_checkIndex_8e157, Cond.initialized RJ3]
def wsX4_readClause_r3 : List Cond := [Cond.code yJ3_checkIndex_8e157 cJ3_checkIndex_8e157 3 (some .int), Cond.methodLink RJ0 498 yJ2_charAt_3b067, Cond.static yJ2_charAt_3b067, Cond.initialized RJ2, Cond.code yJ2_charAt_3b067 cJ2_charAt_3b067 2 (some .char), Cond.methodLink RJ2 67 yJ2_checkIndex_2214a, Cond.static yJ2_checkIndex_2214a, Cond.code yJ2_checkIndex_2214a cJ2_checkIndex_2214a 2 none, Cond.methodLink RJ2 48 yJ2_length_9d52b, Cond.static yJ2_length_9d52b, Cond.code yJ2_length_9d52b cJ2_length_9d52b 1 (some .int), Cond.methodLink RJ2 414 yJ0_checkIndex_df160, Cond.methodLink RJ2 71 yJ2_getChar_3b067, Cond.static yJ2_getChar_3b067, Cond.code yJ2_getChar_3b067 cJ2_getChar_3b067 2 (some .char), Cond.fieldLink RJ2 44 "java/lang/StringUTF16" "$assertionsDisabled" "Z", Cond.fieldLink RJ2 59 "java/lang/StringUTF16" "HI_BYTE_SHIFT" "I", Cond.fieldLink RJ2 63 "java/lang/StringUTF16" "LO_BYTE_SHIFT" "I", Cond.methodLink RX4 64 yX4_readNumber, Cond.instanceMethod yX4_readNumber, Cond.selects RX4 yX4_readNumber yX4_readNumber, Cond.code yX4_readNumber cX4_readNumber 6 none, Cond.fieldLink RX4 84 "HopCredits$Reading" "LOWS" "[I", Cond.fieldLink RX4 87 "HopCredits$Reading" "HIGHS" "[I"]
def wsX4_readClause_r4 : List Cond := [Cond.fieldLink RX4 15 "HopCredits$Reading" "values" "[I", Cond.methodLink RX4 80 yX4_isDigitHere, Cond.instanceMethod yX4_isDigitHere, Cond.selects RX4 yX4_isDigitHere yX4_isDigitHere, Cond.code yX4_isDigitHere cX4_isDigitHere 1 (some .boolean), Cond.static yX6_outside, Cond.initialized RX6, Cond.code yX6_outside cX6_outside 3 (some .boolean)]
def wsX4_readClause : List Cond := .code yX4_readClause cX4_readClause 6 none :: ((wsX4_readClause_r1 ++ (wsX4_readClause_r2 ++ (wsX4_readClause_r3 ++ wsX4_readClause_r4))) ++ wsX40)
def wsX4_faultOf_r1 : List Cond := [Cond.fieldLink RX4 9 "HopCredits$Reading" "text" "[I", Cond.methodLink RX4 18 Lib.Math.min.name, Cond.static Lib.Math.min.name, Cond.initialized "java/lang/Math", Cond.code Lib.Math.min.name Lib.Math.min.code 2 (some .int), Cond.fieldLink RX4 24 "HopCredits$Reading" "length" "I", Cond.fieldLink RX4 28 "HopCredits$Reading" "at" "I", Cond.fieldLink RX4 31 "HopCredits$Reading" "fault" "I", Cond.fieldLink RX4 34 "HopCredits$Reading" "hopsTold" "I", Cond.fieldLink RX4 37 "HopCredits$Reading" "circuitsTold" "I", Cond.methodLink RX4 40 yX4_setUsual, Cond.instanceMethod yX4_setUsual, Cond.selects RX4 yX4_setUsual yX4_setUsual, Cond.initialized RX4, Cond.code yX4_setUsual cX4_setUsual 3 none, Cond.fieldLink RX4 15 "HopCredits$Reading" "values" "[I", Cond.fieldLink RX4 47 "HopCredits$Reading" "USUAL" "[I", Cond.methodLink RX4 50 yX4_kindOf, Cond.static yX4_kindOf, Cond.code yX4_kindOf cX4_kindOf 1 (some .int), Cond.methodLink RX4 43 yX4_readClause, Cond.instanceMethod yX4_readClause, Cond.selects RX4 yX4_readClause yX4_readClause, Cond.code yX4_readClause cX4_readClause 6 none]
def wsX4_faultOf_r2 : List Cond := [Cond.methodLink RX4 54 yX4_readHead, Cond.instanceMethod yX4_readHead, Cond.selects RX4 yX4_readHead yX4_readHead, Cond.code yX4_readHead cX4_readHead 3 (some .int), Cond.methodLink RX4 58 yX4_passBlanks, Cond.instanceMethod yX4_passBlanks, Cond.selects RX4 yX4_passBlanks yX4_passBlanks, Cond.code yX4_passBlanks cX4_passBlanks 1 none, Cond.methodLink RX4 68 yX4_clauseOf, Cond.instanceMethod yX4_clauseOf, Cond.selects RX4 yX4_clauseOf yX4_clauseOf, Cond.code yX4_clauseOf cX4_clauseOf 3 (some .int), Cond.methodLink RX4 61 yX4_itemOf, Cond.static yX4_itemOf, Cond.code yX4_itemOf cX4_itemOf 3 (some .int), Cond.methodLink RX4 74 yJ0_charAt_5068e, Cond.instanceMethod yJ0_charAt_5068e, Cond.selects RJ0 yJ0_charAt_5068e yJ0_charAt_5068e, Cond.initialized RJ0, Cond.code yJ0_charAt_5068e cJ0_charAt_5068e 2 (some .char), Cond.fieldLink RJ0 9 "java/lang/String" "value" "[B", Cond.methodLink RJ0 492 yJ0_isLatin1_aae02, Cond.instanceMethod yJ0_isLatin1_aae02, Cond.selects RJ0 yJ0_isLatin1_aae02 yJ0_isLatin1_aae02]
def wsX4_faultOf_r3 : List Cond := [Cond.code yJ0_isLatin1_aae02 cJ0_isLatin1_aae02 1 (some .boolean), Cond.fieldLink RJ0 38 "java/lang/String" "COMPACT_STRINGS" "Z", Cond.fieldLink RJ0 15 "java/lang/String" "coder" "B", Cond.methodLink RJ0 495 yJ1_charAt_3b067, Cond.static yJ1_charAt_3b067, Cond.initialized RJ1, Cond.code yJ1_charAt_3b067 cJ1_charAt_3b067 2 (some .char), Cond.methodLink RJ1 9 yJ0_checkIndex_df160, Cond.static yJ0_checkIndex_df160, Cond.code yJ0_checkIndex_df160 cJ0_checkIndex_df160 2 none, Cond.fieldLink RJ0 1053 "jdk/internal/util/Preconditions" "SIOOBE_FORMATTER" "Ljava/util/function/BiFunction;", Cond.methodLink RJ0 1059 yJ3_checkIndex_8e157, Cond.static yJ3_checkIndex_8e157, Cond.initialized RJ3, Cond.code yJ3_checkIndex_8e157 cJ3_checkIndex_8e157 3 (some .int), Cond.methodLink RJ0 498 yJ2_charAt_3b067, Cond.static yJ2_charAt_3b067, Cond.initialized RJ2, Cond.code yJ2_charAt_3b067 cJ2_charAt_3b067 2 (some .char), Cond.methodLink RJ2 67 yJ2_checkIndex_2214a, Cond.static yJ2_checkIndex_2214a, Cond.code yJ2_checkIndex_2214a cJ2_checkIndex_2214a 2 none, Cond.methodLink RJ2 48 yJ2_length_9d52b, Cond.static yJ2_length_9d52b]
def wsX4_faultOf_r4 : List Cond := [Cond.code yJ2_length_9d52b cJ2_length_9d52b 1 (some .int), Cond.methodLink RJ2 414 yJ0_checkIndex_df160, Cond.methodLink RJ2 71 yJ2_getChar_3b067, Cond.static yJ2_getChar_3b067, Cond.code yJ2_getChar_3b067 cJ2_getChar_3b067 2 (some .char), Cond.fieldLink RJ2 44 "java/lang/StringUTF16" "$assertionsDisabled" "Z", Cond.fieldLink RJ2 59 "java/lang/StringUTF16" "HI_BYTE_SHIFT" "I", Cond.fieldLink RJ2 63 "java/lang/StringUTF16" "LO_BYTE_SHIFT" "I", Cond.methodLink RX4 64 yX4_readNumber, Cond.instanceMethod yX4_readNumber, Cond.selects RX4 yX4_readNumber yX4_readNumber, Cond.code yX4_readNumber cX4_readNumber 6 none, Cond.fieldLink RX4 84 "HopCredits$Reading" "LOWS" "[I", Cond.fieldLink RX4 87 "HopCredits$Reading" "HIGHS" "[I", Cond.methodLink RX4 80 yX4_isDigitHere, Cond.instanceMethod yX4_isDigitHere, Cond.selects RX4 yX4_isDigitHere yX4_isDigitHere, Cond.code yX4_isDigitHere cX4_isDigitHere 1 (some .boolean), Cond.static yX6_outside, Cond.initialized RX6, Cond.code yX6_outside cX6_outside 3 (some .boolean)]
def wsX4_faultOf : List Cond := .code yX4_faultOf cX4_faultOf 5 (some .int) :: ((wsX4_faultOf_r1 ++ (wsX4_faultOf_r2 ++ (wsX4_faultOf_r3 ++ wsX4_faultOf_r4))) ++ wsX40)
def wsX5_init : List Cond := .code yX5_init cX5_init 1 none :: ([.methodLink RX5 1 objectInit, .instanceMethod objectInit, .code objectInit ⟨#[0xb1]⟩ 1 none, .arrayClass .int, .fieldLink RX5 9 "HopCredits$Trips" "begun" "[I"] ++ wsX50)
def wsX5_clear : List Cond := .code yX5_clear cX5_clear 1 none :: ([.fieldLink RX5 13 "HopCredits$Trips" "first" "I", .fieldLink RX5 17 "HopCredits$Trips" "underway" "I", .fieldLink RX5 20 "HopCredits$Trips" "latest" "I", .fieldLink RX5 23 "HopCredits$Trips" "longest" "I", .fieldLink RX5 26 "HopCredits$Trips" "total" "I"] ++ wsX50)
def wsX5_begin : List Cond := .code yX5_begin cX5_begin 2 none :: ([.fieldLink RX5 9 "HopCredits$Trips" "begun" "[I", .fieldLink RX5 13 "HopCredits$Trips" "first" "I", .fieldLink RX5 17 "HopCredits$Trips" "underway" "I"] ++ wsX50)
def wsX5_firstBegun : List Cond := .code yX5_firstBegun cX5_firstBegun 1 (some .int) :: ([.fieldLink RX5 9 "HopCredits$Trips" "begun" "[I", .fieldLink RX5 13 "HopCredits$Trips" "first" "I"] ++ wsX50)
def wsX5_finish : List Cond := .code yX5_finish cX5_finish 2 none :: ([.fieldLink RX5 20 "HopCredits$Trips" "latest" "I", .fieldLink RX5 23 "HopCredits$Trips" "longest" "I", .methodLink RX5 33 Lib.Math.max.name, .static Lib.Math.max.name, .initialized "java/lang/Math", .code Lib.Math.max.name Lib.Math.max.code 2 (some .int), .fieldLink RX5 26 "HopCredits$Trips" "total" "I", .fieldLink RX5 13 "HopCredits$Trips" "first" "I", .fieldLink RX5 17 "HopCredits$Trips" "underway" "I", .methodLink RX5 29 yX5_firstBegun, .instanceMethod yX5_firstBegun, .selects RX5 yX5_firstBegun yX5_firstBegun, .initialized RX5, .code yX5_firstBegun cX5_firstBegun 1 (some .int), .fieldLink RX5 9 "HopCredits$Trips" "begun" "[I"] ++ wsX50)
theorem dX0_init_0 : decode cX0_init 0 = .ok (.aload_n 0, 1) := by decide +kernel
theorem dX0_init_1 : decode cX0_init 1 = .ok (.invokespecial 1, 3) := by decide +kernel
theorem dX0_init_4 : decode cX0_init 4 = .ok (.return_, 1) := by decide +kernel
theorem dX0_lay_0 : decode cX0_lay 0 = .ok (.aload_n 0, 1) := by decide +kernel
theorem dX0_lay_1 : decode cX0_lay 1 = .ok (.iload_n 1, 1) := by decide +kernel
theorem dX0_lay_2 : decode cX0_lay 2 = .ok (.putfield 7, 3) := by decide +kernel
theorem dX0_lay_5 : decode cX0_lay 5 = .ok (.aload_n 0, 1) := by decide +kernel
theorem dX0_lay_6 : decode cX0_lay 6 = .ok (.iload_n 2, 1) := by decide +kernel
theorem dX0_lay_7 : decode cX0_lay 7 = .ok (.putfield 13, 3) := by decide +kernel
theorem dX0_lay_10 : decode cX0_lay 10 = .ok (.aload_n 0, 1) := by decide +kernel
theorem dX0_lay_11 : decode cX0_lay 11 = .ok (.iload_n 3, 1) := by decide +kernel
theorem dX0_lay_12 : decode cX0_lay 12 = .ok (.putfield 16, 3) := by decide +kernel
theorem dX0_lay_15 : decode cX0_lay 15 = .ok (.aload_n 0, 1) := by decide +kernel
theorem dX0_lay_16 : decode cX0_lay 16 = .ok (.iconst 0, 1) := by decide +kernel
theorem dX0_lay_17 : decode cX0_lay 17 = .ok (.putfield 19, 3) := by decide +kernel
theorem dX0_lay_20 : decode cX0_lay 20 = .ok (.aload_n 0, 1) := by decide +kernel
theorem dX0_lay_21 : decode cX0_lay 21 = .ok (.iconst 0, 1) := by decide +kernel
theorem dX0_lay_22 : decode cX0_lay 22 = .ok (.putfield 22, 3) := by decide +kernel
theorem dX0_lay_25 : decode cX0_lay 25 = .ok (.aload_n 0, 1) := by decide +kernel
theorem dX0_lay_26 : decode cX0_lay 26 = .ok (.iconst 0, 1) := by decide +kernel
theorem dX0_lay_27 : decode cX0_lay 27 = .ok (.putfield 25, 3) := by decide +kernel
theorem dX0_lay_30 : decode cX0_lay 30 = .ok (.aload_n 0, 1) := by decide +kernel
theorem dX0_lay_31 : decode cX0_lay 31 = .ok (.iconst 0, 1) := by decide +kernel
theorem dX0_lay_32 : decode cX0_lay 32 = .ok (.putfield 28, 3) := by decide +kernel
theorem dX0_lay_35 : decode cX0_lay 35 = .ok (.aload_n 0, 1) := by decide +kernel
theorem dX0_lay_36 : decode cX0_lay 36 = .ok (.iconst 0, 1) := by decide +kernel
theorem dX0_lay_37 : decode cX0_lay 37 = .ok (.putfield 32, 3) := by decide +kernel
theorem dX0_lay_40 : decode cX0_lay 40 = .ok (.return_, 1) := by decide +kernel
theorem dX0_copy_0 : decode cX0_copy 0 = .ok (.aload_n 0, 1) := by decide +kernel
theorem dX0_copy_1 : decode cX0_copy 1 = .ok (.aload_n 1, 1) := by decide +kernel
theorem dX0_copy_2 : decode cX0_copy 2 = .ok (.getfield 7, 3) := by decide +kernel
theorem dX0_copy_5 : decode cX0_copy 5 = .ok (.putfield 7, 3) := by decide +kernel
theorem dX0_copy_8 : decode cX0_copy 8 = .ok (.aload_n 0, 1) := by decide +kernel
theorem dX0_copy_9 : decode cX0_copy 9 = .ok (.aload_n 1, 1) := by decide +kernel
theorem dX0_copy_10 : decode cX0_copy 10 = .ok (.getfield 13, 3) := by decide +kernel
theorem dX0_copy_13 : decode cX0_copy 13 = .ok (.putfield 13, 3) := by decide +kernel
theorem dX0_copy_16 : decode cX0_copy 16 = .ok (.aload_n 0, 1) := by decide +kernel
theorem dX0_copy_17 : decode cX0_copy 17 = .ok (.aload_n 1, 1) := by decide +kernel
theorem dX0_copy_18 : decode cX0_copy 18 = .ok (.getfield 16, 3) := by decide +kernel
theorem dX0_copy_21 : decode cX0_copy 21 = .ok (.putfield 16, 3) := by decide +kernel
theorem dX0_copy_24 : decode cX0_copy 24 = .ok (.aload_n 0, 1) := by decide +kernel
theorem dX0_copy_25 : decode cX0_copy 25 = .ok (.aload_n 1, 1) := by decide +kernel
theorem dX0_copy_26 : decode cX0_copy 26 = .ok (.getfield 19, 3) := by decide +kernel
theorem dX0_copy_29 : decode cX0_copy 29 = .ok (.putfield 19, 3) := by decide +kernel
theorem dX0_copy_32 : decode cX0_copy 32 = .ok (.aload_n 0, 1) := by decide +kernel
theorem dX0_copy_33 : decode cX0_copy 33 = .ok (.aload_n 1, 1) := by decide +kernel
theorem dX0_copy_34 : decode cX0_copy 34 = .ok (.getfield 22, 3) := by decide +kernel
theorem dX0_copy_37 : decode cX0_copy 37 = .ok (.putfield 22, 3) := by decide +kernel
theorem dX0_copy_40 : decode cX0_copy 40 = .ok (.aload_n 0, 1) := by decide +kernel
theorem dX0_copy_41 : decode cX0_copy 41 = .ok (.aload_n 1, 1) := by decide +kernel
theorem dX0_copy_42 : decode cX0_copy 42 = .ok (.getfield 25, 3) := by decide +kernel
theorem dX0_copy_45 : decode cX0_copy 45 = .ok (.putfield 25, 3) := by decide +kernel
theorem dX0_copy_48 : decode cX0_copy 48 = .ok (.aload_n 0, 1) := by decide +kernel
theorem dX0_copy_49 : decode cX0_copy 49 = .ok (.aload_n 1, 1) := by decide +kernel
theorem dX0_copy_50 : decode cX0_copy 50 = .ok (.getfield 28, 3) := by decide +kernel
theorem dX0_copy_53 : decode cX0_copy 53 = .ok (.putfield 28, 3) := by decide +kernel
theorem dX0_copy_56 : decode cX0_copy 56 = .ok (.aload_n 0, 1) := by decide +kernel
theorem dX0_copy_57 : decode cX0_copy 57 = .ok (.aload_n 1, 1) := by decide +kernel
theorem dX0_copy_58 : decode cX0_copy 58 = .ok (.getfield 32, 3) := by decide +kernel
theorem dX0_copy_61 : decode cX0_copy 61 = .ok (.putfield 32, 3) := by decide +kernel
theorem dX0_copy_64 : decode cX0_copy 64 = .ok (.return_, 1) := by decide +kernel
theorem dX0_comesIn_0 : decode cX0_comesIn 0 = .ok (.aload_n 0, 1) := by decide +kernel
theorem dX0_comesIn_1 : decode cX0_comesIn 1 = .ok (.getfield 7, 3) := by decide +kernel
theorem dX0_comesIn_4 : decode cX0_comesIn 4 = .ok (.ifCond .le 29, 3) := by decide +kernel
theorem dX0_comesIn_7 : decode cX0_comesIn 7 = .ok (.iload_n 1, 1) := by decide +kernel
theorem dX0_comesIn_8 : decode cX0_comesIn 8 = .ok (.aload_n 0, 1) := by decide +kernel
theorem dX0_comesIn_9 : decode cX0_comesIn 9 = .ok (.getfield 13, 3) := by decide +kernel
theorem dX0_comesIn_12 : decode cX0_comesIn 12 = .ok (.if_icmp .lt 21, 3) := by decide +kernel
theorem dX0_comesIn_15 : decode cX0_comesIn 15 = .ok (.iload_n 1, 1) := by decide +kernel
theorem dX0_comesIn_16 : decode cX0_comesIn 16 = .ok (.aload_n 0, 1) := by decide +kernel
theorem dX0_comesIn_17 : decode cX0_comesIn 17 = .ok (.getfield 13, 3) := by decide +kernel
theorem dX0_comesIn_20 : decode cX0_comesIn 20 = .ok (.isub, 1) := by decide +kernel
theorem dX0_comesIn_21 : decode cX0_comesIn 21 = .ok (.aload_n 0, 1) := by decide +kernel
theorem dX0_comesIn_22 : decode cX0_comesIn 22 = .ok (.getfield 7, 3) := by decide +kernel
theorem dX0_comesIn_25 : decode cX0_comesIn 25 = .ok (.irem, 1) := by decide +kernel
theorem dX0_comesIn_26 : decode cX0_comesIn 26 = .ok (.ifCond .ne 7, 3) := by decide +kernel
theorem dX0_comesIn_29 : decode cX0_comesIn 29 = .ok (.iconst 1, 1) := by decide +kernel
theorem dX0_comesIn_30 : decode cX0_comesIn 30 = .ok (.goto 4, 3) := by decide +kernel
theorem dX0_comesIn_33 : decode cX0_comesIn 33 = .ok (.iconst 0, 1) := by decide +kernel
theorem dX0_comesIn_34 : decode cX0_comesIn 34 = .ok (.ireturn, 1) := by decide +kernel
theorem dX0_takesIn_0 : decode cX0_takesIn 0 = .ok (.aload_n 0, 1) := by decide +kernel
theorem dX0_takesIn_1 : decode cX0_takesIn 1 = .ok (.getfield 16, 3) := by decide +kernel
theorem dX0_takesIn_4 : decode cX0_takesIn 4 = .ok (.ifCond .le 16, 3) := by decide +kernel
theorem dX0_takesIn_7 : decode cX0_takesIn 7 = .ok (.iload_n 1, 1) := by decide +kernel
theorem dX0_takesIn_8 : decode cX0_takesIn 8 = .ok (.aload_n 0, 1) := by decide +kernel
theorem dX0_takesIn_9 : decode cX0_takesIn 9 = .ok (.getfield 16, 3) := by decide +kernel
theorem dX0_takesIn_12 : decode cX0_takesIn 12 = .ok (.irem, 1) := by decide +kernel
theorem dX0_takesIn_13 : decode cX0_takesIn 13 = .ok (.ifCond .ne 7, 3) := by decide +kernel
theorem dX0_takesIn_16 : decode cX0_takesIn 16 = .ok (.iconst 1, 1) := by decide +kernel
theorem dX0_takesIn_17 : decode cX0_takesIn 17 = .ok (.goto 4, 3) := by decide +kernel
theorem dX0_takesIn_20 : decode cX0_takesIn 20 = .ok (.iconst 0, 1) := by decide +kernel
theorem dX0_takesIn_21 : decode cX0_takesIn 21 = .ok (.ireturn, 1) := by decide +kernel
theorem dX1_init_0 : decode cX1_init 0 = .ok (.aload_n 0, 1) := by decide +kernel
theorem dX1_init_1 : decode cX1_init 1 = .ok (.invokespecial 3, 3) := by decide +kernel
theorem dX1_init_4 : decode cX1_init 4 = .ok (.return_, 1) := by decide +kernel
theorem dX1_lay_0 : decode cX1_lay 0 = .ok (.aload_n 0, 1) := by decide +kernel
theorem dX1_lay_1 : decode cX1_lay 1 = .ok (.iconst 0, 1) := by decide +kernel
theorem dX1_lay_2 : decode cX1_lay 2 = .ok (.putfield 9, 3) := by decide +kernel
theorem dX1_lay_5 : decode cX1_lay 5 = .ok (.aload_n 0, 1) := by decide +kernel
theorem dX1_lay_6 : decode cX1_lay 6 = .ok (.iconst 0, 1) := by decide +kernel
theorem dX1_lay_7 : decode cX1_lay 7 = .ok (.putfield 15, 3) := by decide +kernel
theorem dX1_lay_10 : decode cX1_lay 10 = .ok (.aload_n 0, 1) := by decide +kernel
theorem dX1_lay_11 : decode cX1_lay 11 = .ok (.iconst 0, 1) := by decide +kernel
theorem dX1_lay_12 : decode cX1_lay 12 = .ok (.putfield 18, 3) := by decide +kernel
theorem dX1_lay_15 : decode cX1_lay 15 = .ok (.aload_n 0, 1) := by decide +kernel
theorem dX1_lay_16 : decode cX1_lay 16 = .ok (.iload_n 1, 1) := by decide +kernel
theorem dX1_lay_17 : decode cX1_lay 17 = .ok (.putfield 21, 3) := by decide +kernel
theorem dX1_lay_20 : decode cX1_lay 20 = .ok (.aload_n 0, 1) := by decide +kernel
theorem dX1_lay_21 : decode cX1_lay 21 = .ok (.iconst 0, 1) := by decide +kernel
theorem dX1_lay_22 : decode cX1_lay 22 = .ok (.putfield 24, 3) := by decide +kernel
theorem dX1_lay_25 : decode cX1_lay 25 = .ok (.aload_n 0, 1) := by decide +kernel
theorem dX1_lay_26 : decode cX1_lay 26 = .ok (.iconst 0, 1) := by decide +kernel
theorem dX1_lay_27 : decode cX1_lay 27 = .ok (.putfield 27, 3) := by decide +kernel
theorem dX1_lay_30 : decode cX1_lay 30 = .ok (.aload_n 0, 1) := by decide +kernel
theorem dX1_lay_31 : decode cX1_lay 31 = .ok (.iconst 0, 1) := by decide +kernel
theorem dX1_lay_32 : decode cX1_lay 32 = .ok (.putfield 30, 3) := by decide +kernel
theorem dX1_lay_35 : decode cX1_lay 35 = .ok (.return_, 1) := by decide +kernel
theorem dX1_copy_0 : decode cX1_copy 0 = .ok (.aload_n 0, 1) := by decide +kernel
theorem dX1_copy_1 : decode cX1_copy 1 = .ok (.aload_n 1, 1) := by decide +kernel
theorem dX1_copy_2 : decode cX1_copy 2 = .ok (.getfield 9, 3) := by decide +kernel
theorem dX1_copy_5 : decode cX1_copy 5 = .ok (.putfield 9, 3) := by decide +kernel
theorem dX1_copy_8 : decode cX1_copy 8 = .ok (.aload_n 0, 1) := by decide +kernel
theorem dX1_copy_9 : decode cX1_copy 9 = .ok (.aload_n 1, 1) := by decide +kernel
theorem dX1_copy_10 : decode cX1_copy 10 = .ok (.getfield 15, 3) := by decide +kernel
theorem dX1_copy_13 : decode cX1_copy 13 = .ok (.putfield 15, 3) := by decide +kernel
theorem dX1_copy_16 : decode cX1_copy 16 = .ok (.aload_n 0, 1) := by decide +kernel
theorem dX1_copy_17 : decode cX1_copy 17 = .ok (.aload_n 1, 1) := by decide +kernel
theorem dX1_copy_18 : decode cX1_copy 18 = .ok (.getfield 18, 3) := by decide +kernel
theorem dX1_copy_21 : decode cX1_copy 21 = .ok (.putfield 18, 3) := by decide +kernel
theorem dX1_copy_24 : decode cX1_copy 24 = .ok (.aload_n 0, 1) := by decide +kernel
theorem dX1_copy_25 : decode cX1_copy 25 = .ok (.aload_n 1, 1) := by decide +kernel
theorem dX1_copy_26 : decode cX1_copy 26 = .ok (.getfield 21, 3) := by decide +kernel
theorem dX1_copy_29 : decode cX1_copy 29 = .ok (.putfield 21, 3) := by decide +kernel
theorem dX1_copy_32 : decode cX1_copy 32 = .ok (.aload_n 0, 1) := by decide +kernel
theorem dX1_copy_33 : decode cX1_copy 33 = .ok (.aload_n 1, 1) := by decide +kernel
theorem dX1_copy_34 : decode cX1_copy 34 = .ok (.getfield 24, 3) := by decide +kernel
theorem dX1_copy_37 : decode cX1_copy 37 = .ok (.putfield 24, 3) := by decide +kernel
theorem dX1_copy_40 : decode cX1_copy 40 = .ok (.aload_n 0, 1) := by decide +kernel
theorem dX1_copy_41 : decode cX1_copy 41 = .ok (.aload_n 1, 1) := by decide +kernel
theorem dX1_copy_42 : decode cX1_copy 42 = .ok (.getfield 27, 3) := by decide +kernel
theorem dX1_copy_45 : decode cX1_copy 45 = .ok (.putfield 27, 3) := by decide +kernel
theorem dX1_copy_48 : decode cX1_copy 48 = .ok (.aload_n 0, 1) := by decide +kernel
theorem dX1_copy_49 : decode cX1_copy 49 = .ok (.aload_n 1, 1) := by decide +kernel
theorem dX1_copy_50 : decode cX1_copy 50 = .ok (.getfield 30, 3) := by decide +kernel
theorem dX1_copy_53 : decode cX1_copy 53 = .ok (.putfield 30, 3) := by decide +kernel
theorem dX1_copy_56 : decode cX1_copy 56 = .ok (.return_, 1) := by decide +kernel
theorem dX1_out_0 : decode cX1_out 0 = .ok (.aload_n 0, 1) := by decide +kernel
theorem dX1_out_1 : decode cX1_out 1 = .ok (.getfield 9, 3) := by decide +kernel
theorem dX1_out_4 : decode cX1_out 4 = .ok (.aload_n 0, 1) := by decide +kernel
theorem dX1_out_5 : decode cX1_out 5 = .ok (.getfield 18, 3) := by decide +kernel
theorem dX1_out_8 : decode cX1_out 8 = .ok (.isub, 1) := by decide +kernel
theorem dX1_out_9 : decode cX1_out 9 = .ok (.bipush 63, 2) := by decide +kernel
theorem dX1_out_11 : decode cX1_out 11 = .ok (.iand, 1) := by decide +kernel
theorem dX1_out_12 : decode cX1_out 12 = .ok (.ireturn, 1) := by decide +kernel
set_option maxRecDepth 20000 in
theorem ggX1_credit_X1_out : GoodIn wsX1_credit wsX1_out := goodIn_r _ [10, 11, 12, 13, 14, 15, 16, 17, 18, 19] (by decide +kernel) (by decide +kernel)
set_option maxRecDepth 20000 in
theorem gX1_credit_X1_out : GoodIn wsX1_credit (wsV RX1 33 RX1 yX1_out wsX1_out) := goodIn_app (goodIn_of _ (by decide +kernel)) ggX1_credit_X1_out
theorem dX1_credit_0 : decode cX1_credit 0 = .ok (.iconst 0, 1) := by decide +kernel
theorem dX1_credit_1 : decode cX1_credit 1 = .ok (.aload_n 0, 1) := by decide +kernel
theorem dX1_credit_2 : decode cX1_credit 2 = .ok (.getfield 21, 3) := by decide +kernel
theorem dX1_credit_5 : decode cX1_credit 5 = .ok (.aload_n 0, 1) := by decide +kernel
theorem dX1_credit_6 : decode cX1_credit 6 = .ok (.invokevirtual 33, 3) := by decide +kernel
theorem dX1_credit_9 : decode cX1_credit 9 = .ok (.isub, 1) := by decide +kernel
theorem dX1_credit_10 : decode cX1_credit 10 = .ok (.invokestatic 37, 3) := by decide +kernel
theorem dX1_credit_13 : decode cX1_credit 13 = .ok (.ireturn, 1) := by decide +kernel
set_option maxRecDepth 20000 in
theorem ggX1_hear_X6_reaches : GoodIn wsX1_hear wsX6_reaches := goodIn_r _ [4] (by decide +kernel) (by decide +kernel)
set_option maxRecDepth 20000 in
theorem gX1_hear_X6_reaches_n43 : GoodIn wsX1_hear (wsX6_reaches) := ggX1_hear_X6_reaches
theorem dX1_hear_0 : decode cX1_hear 0 = .ok (.iload_n 1, 1) := by decide +kernel
theorem dX1_hear_1 : decode cX1_hear 1 = .ok (.aload_n 0, 1) := by decide +kernel
theorem dX1_hear_2 : decode cX1_hear 2 = .ok (.getfield 18, 3) := by decide +kernel
theorem dX1_hear_5 : decode cX1_hear 5 = .ok (.invokestatic 43, 3) := by decide +kernel
theorem dX1_hear_8 : decode cX1_hear 8 = .ok (.ifCond .eq 8, 3) := by decide +kernel
theorem dX1_hear_11 : decode cX1_hear 11 = .ok (.aload_n 0, 1) := by decide +kernel
theorem dX1_hear_12 : decode cX1_hear 12 = .ok (.iload_n 1, 1) := by decide +kernel
theorem dX1_hear_13 : decode cX1_hear 13 = .ok (.putfield 18, 3) := by decide +kernel
theorem dX1_hear_16 : decode cX1_hear 16 = .ok (.return_, 1) := by decide +kernel
set_option maxRecDepth 20000 in
theorem ggX2_init_X1_init : GoodIn wsX2_init wsX1_init := goodIn_r _ [13, 14, 2, 3] (by decide +kernel) (by decide +kernel)
set_option maxRecDepth 20000 in
theorem gX2_init_X1_init_n27 : GoodIn wsX2_init (wsX1_init) := ggX2_init_X1_init
theorem dX2_init_0 : decode cX2_init 0 = .ok (.aload_n 0, 1) := by decide +kernel
theorem dX2_init_1 : decode cX2_init 1 = .ok (.invokespecial 3, 3) := by decide +kernel
theorem dX2_init_4 : decode cX2_init 4 = .ok (.aload_n 0, 1) := by decide +kernel
theorem dX2_init_5 : decode cX2_init 5 = .ok (.iconst 5, 1) := by decide +kernel
theorem dX2_init_6 : decode cX2_init 6 = .ok (.newarray .int, 2) := by decide +kernel
theorem dX2_init_8 : decode cX2_init 8 = .ok (.putfield 9, 3) := by decide +kernel
theorem dX2_init_11 : decode cX2_init 11 = .ok (.aload_n 0, 1) := by decide +kernel
theorem dX2_init_12 : decode cX2_init 12 = .ok (.bipush 15, 2) := by decide +kernel
theorem dX2_init_14 : decode cX2_init 14 = .ok (.newarray .int, 2) := by decide +kernel
theorem dX2_init_16 : decode cX2_init 16 = .ok (.putfield 15, 3) := by decide +kernel
theorem dX2_init_19 : decode cX2_init 19 = .ok (.aload_n 0, 1) := by decide +kernel
theorem dX2_init_20 : decode cX2_init 20 = .ok (.bipush 15, 2) := by decide +kernel
theorem dX2_init_22 : decode cX2_init 22 = .ok (.newarray .int, 2) := by decide +kernel
theorem dX2_init_24 : decode cX2_init 24 = .ok (.putfield 18, 3) := by decide +kernel
theorem dX2_init_27 : decode cX2_init 27 = .ok (.aload_n 0, 1) := by decide +kernel
theorem dX2_init_28 : decode cX2_init 28 = .ok (.iconst 3, 1) := by decide +kernel
theorem dX2_init_29 : decode cX2_init 29 = .ok (.anewarray 21, 3) := by decide +kernel
theorem dX2_init_32 : decode cX2_init 32 = .ok (.putfield 23, 3) := by decide +kernel
theorem dX2_init_35 : decode cX2_init 35 = .ok (.iconst 0, 1) := by decide +kernel
theorem dX2_init_36 : decode cX2_init 36 = .ok (.istore_n 1, 1) := by decide +kernel
theorem dX2_init_37 : decode cX2_init 37 = .ok (.iload_n 1, 1) := by decide +kernel
theorem dX2_init_38 : decode cX2_init 38 = .ok (.iconst 3, 1) := by decide +kernel
theorem dX2_init_39 : decode cX2_init 39 = .ok (.if_icmp .ge 22, 3) := by decide +kernel
theorem dX2_init_42 : decode cX2_init 42 = .ok (.aload_n 0, 1) := by decide +kernel
theorem dX2_init_43 : decode cX2_init 43 = .ok (.getfield 23, 3) := by decide +kernel
theorem dX2_init_46 : decode cX2_init 46 = .ok (.iload_n 1, 1) := by decide +kernel
theorem dX2_init_47 : decode cX2_init 47 = .ok (.new 21, 3) := by decide +kernel
theorem dX2_init_50 : decode cX2_init 50 = .ok (.dup, 1) := by decide +kernel
theorem dX2_init_51 : decode cX2_init 51 = .ok (.invokespecial 27, 3) := by decide +kernel
theorem dX2_init_54 : decode cX2_init 54 = .ok (.aastore, 1) := by decide +kernel
theorem dX2_init_55 : decode cX2_init 55 = .ok (.iinc 1 1, 3) := by decide +kernel
theorem dX2_init_58 : decode cX2_init 58 = .ok (.goto (-21), 3) := by decide +kernel
theorem dX2_init_61 : decode cX2_init 61 = .ok (.return_, 1) := by decide +kernel
set_option maxRecDepth 20000 in
theorem ggX2_lay_X2_clearSlot : GoodIn wsX2_lay wsX2_clearSlot := goodIn_r _ [12, 13, 14, 15, 28, 29, 30, 31, 32, 33, 34, 35, 36, 37] (by decide +kernel) (by decide +kernel)
set_option maxRecDepth 20000 in
theorem gX2_lay_X2_clearSlot : GoodIn wsX2_lay (wsV RX2 47 RX2 yX2_clearSlot wsX2_clearSlot) := goodIn_app (goodIn_of _ (by decide +kernel)) ggX2_lay_X2_clearSlot
set_option maxRecDepth 20000 in
theorem ggX2_lay_X1_lay : GoodIn wsX2_lay wsX1_lay := goodIn_r _ [20, 21, 22, 23, 24, 25, 26, 27, 38, 39, 40, 41, 42, 43, 44] (by decide +kernel) (by decide +kernel)
set_option maxRecDepth 20000 in
theorem gX2_lay_X1_lay : GoodIn wsX2_lay (wsV RX2 51 RX1 yX1_lay wsX1_lay) := goodIn_app (goodIn_of _ (by decide +kernel)) ggX2_lay_X1_lay
theorem dX2_lay_0 : decode cX2_lay 0 = .ok (.aload_n 0, 1) := by decide +kernel
theorem dX2_lay_1 : decode cX2_lay 1 = .ok (.iload_n 1, 1) := by decide +kernel
theorem dX2_lay_2 : decode cX2_lay 2 = .ok (.putfield 28, 3) := by decide +kernel
theorem dX2_lay_5 : decode cX2_lay 5 = .ok (.aload_n 0, 1) := by decide +kernel
theorem dX2_lay_6 : decode cX2_lay 6 = .ok (.iload_n 2, 1) := by decide +kernel
theorem dX2_lay_7 : decode cX2_lay 7 = .ok (.putfield 32, 3) := by decide +kernel
theorem dX2_lay_10 : decode cX2_lay 10 = .ok (.aload_n 0, 1) := by decide +kernel
theorem dX2_lay_11 : decode cX2_lay 11 = .ok (.iload_n 3, 1) := by decide +kernel
theorem dX2_lay_12 : decode cX2_lay 12 = .ok (.putfield 35, 3) := by decide +kernel
theorem dX2_lay_15 : decode cX2_lay 15 = .ok (.aload_n 0, 1) := by decide +kernel
theorem dX2_lay_16 : decode cX2_lay 16 = .ok (.iconst 0, 1) := by decide +kernel
theorem dX2_lay_17 : decode cX2_lay 17 = .ok (.putfield 38, 3) := by decide +kernel
theorem dX2_lay_20 : decode cX2_lay 20 = .ok (.aload_n 0, 1) := by decide +kernel
theorem dX2_lay_21 : decode cX2_lay 21 = .ok (.iconst (-1), 1) := by decide +kernel
theorem dX2_lay_22 : decode cX2_lay 22 = .ok (.putfield 41, 3) := by decide +kernel
theorem dX2_lay_25 : decode cX2_lay 25 = .ok (.aload_n 0, 1) := by decide +kernel
theorem dX2_lay_26 : decode cX2_lay 26 = .ok (.iconst (-1), 1) := by decide +kernel
theorem dX2_lay_27 : decode cX2_lay 27 = .ok (.putfield 44, 3) := by decide +kernel
theorem dX2_lay_30 : decode cX2_lay 30 = .ok (.iconst 0, 1) := by decide +kernel
theorem dX2_lay_31 : decode cX2_lay 31 = .ok (.istore 5, 2) := by decide +kernel
theorem dX2_lay_33 : decode cX2_lay 33 = .ok (.iload 5, 2) := by decide +kernel
theorem dX2_lay_35 : decode cX2_lay 35 = .ok (.iconst 5, 1) := by decide +kernel
theorem dX2_lay_36 : decode cX2_lay 36 = .ok (.if_icmp .ge 15, 3) := by decide +kernel
theorem dX2_lay_39 : decode cX2_lay 39 = .ok (.aload_n 0, 1) := by decide +kernel
theorem dX2_lay_40 : decode cX2_lay 40 = .ok (.iload 5, 2) := by decide +kernel
theorem dX2_lay_42 : decode cX2_lay 42 = .ok (.invokevirtual 47, 3) := by decide +kernel
theorem dX2_lay_45 : decode cX2_lay 45 = .ok (.iinc 5 1, 3) := by decide +kernel
theorem dX2_lay_48 : decode cX2_lay 48 = .ok (.goto (-15), 3) := by decide +kernel
theorem dX2_lay_51 : decode cX2_lay 51 = .ok (.iconst 0, 1) := by decide +kernel
theorem dX2_lay_52 : decode cX2_lay 52 = .ok (.istore 5, 2) := by decide +kernel
theorem dX2_lay_54 : decode cX2_lay 54 = .ok (.iload 5, 2) := by decide +kernel
theorem dX2_lay_56 : decode cX2_lay 56 = .ok (.iconst 3, 1) := by decide +kernel
theorem dX2_lay_57 : decode cX2_lay 57 = .ok (.if_icmp .ge 21, 3) := by decide +kernel
theorem dX2_lay_60 : decode cX2_lay 60 = .ok (.aload_n 0, 1) := by decide +kernel
theorem dX2_lay_61 : decode cX2_lay 61 = .ok (.getfield 23, 3) := by decide +kernel
theorem dX2_lay_64 : decode cX2_lay 64 = .ok (.iload 5, 2) := by decide +kernel
theorem dX2_lay_66 : decode cX2_lay 66 = .ok (.aaload, 1) := by decide +kernel
theorem dX2_lay_67 : decode cX2_lay 67 = .ok (.iload 4, 2) := by decide +kernel
theorem dX2_lay_69 : decode cX2_lay 69 = .ok (.invokevirtual 51, 3) := by decide +kernel
theorem dX2_lay_72 : decode cX2_lay 72 = .ok (.iinc 5 1, 3) := by decide +kernel
theorem dX2_lay_75 : decode cX2_lay 75 = .ok (.goto (-21), 3) := by decide +kernel
theorem dX2_lay_78 : decode cX2_lay 78 = .ok (.return_, 1) := by decide +kernel
theorem dX2_clearSlot_0 : decode cX2_clearSlot 0 = .ok (.aload_n 0, 1) := by decide +kernel
theorem dX2_clearSlot_1 : decode cX2_clearSlot 1 = .ok (.getfield 9, 3) := by decide +kernel
theorem dX2_clearSlot_4 : decode cX2_clearSlot 4 = .ok (.iload_n 1, 1) := by decide +kernel
theorem dX2_clearSlot_5 : decode cX2_clearSlot 5 = .ok (.iconst (-1), 1) := by decide +kernel
theorem dX2_clearSlot_6 : decode cX2_clearSlot 6 = .ok (.iastore, 1) := by decide +kernel
theorem dX2_clearSlot_7 : decode cX2_clearSlot 7 = .ok (.iconst 0, 1) := by decide +kernel
theorem dX2_clearSlot_8 : decode cX2_clearSlot 8 = .ok (.istore_n 2, 1) := by decide +kernel
theorem dX2_clearSlot_9 : decode cX2_clearSlot 9 = .ok (.iload_n 2, 1) := by decide +kernel
theorem dX2_clearSlot_10 : decode cX2_clearSlot 10 = .ok (.iconst 3, 1) := by decide +kernel
theorem dX2_clearSlot_11 : decode cX2_clearSlot 11 = .ok (.if_icmp .ge 31, 3) := by decide +kernel
theorem dX2_clearSlot_14 : decode cX2_clearSlot 14 = .ok (.aload_n 0, 1) := by decide +kernel
theorem dX2_clearSlot_15 : decode cX2_clearSlot 15 = .ok (.getfield 15, 3) := by decide +kernel
theorem dX2_clearSlot_18 : decode cX2_clearSlot 18 = .ok (.iload_n 1, 1) := by decide +kernel
theorem dX2_clearSlot_19 : decode cX2_clearSlot 19 = .ok (.iconst 3, 1) := by decide +kernel
theorem dX2_clearSlot_20 : decode cX2_clearSlot 20 = .ok (.imul, 1) := by decide +kernel
theorem dX2_clearSlot_21 : decode cX2_clearSlot 21 = .ok (.iload_n 2, 1) := by decide +kernel
theorem dX2_clearSlot_22 : decode cX2_clearSlot 22 = .ok (.iadd, 1) := by decide +kernel
theorem dX2_clearSlot_23 : decode cX2_clearSlot 23 = .ok (.iconst (-1), 1) := by decide +kernel
theorem dX2_clearSlot_24 : decode cX2_clearSlot 24 = .ok (.iastore, 1) := by decide +kernel
theorem dX2_clearSlot_25 : decode cX2_clearSlot 25 = .ok (.aload_n 0, 1) := by decide +kernel
theorem dX2_clearSlot_26 : decode cX2_clearSlot 26 = .ok (.getfield 18, 3) := by decide +kernel
theorem dX2_clearSlot_29 : decode cX2_clearSlot 29 = .ok (.iload_n 1, 1) := by decide +kernel
theorem dX2_clearSlot_30 : decode cX2_clearSlot 30 = .ok (.iconst 3, 1) := by decide +kernel
theorem dX2_clearSlot_31 : decode cX2_clearSlot 31 = .ok (.imul, 1) := by decide +kernel
theorem dX2_clearSlot_32 : decode cX2_clearSlot 32 = .ok (.iload_n 2, 1) := by decide +kernel
theorem dX2_clearSlot_33 : decode cX2_clearSlot 33 = .ok (.iadd, 1) := by decide +kernel
theorem dX2_clearSlot_34 : decode cX2_clearSlot 34 = .ok (.iconst 0, 1) := by decide +kernel
theorem dX2_clearSlot_35 : decode cX2_clearSlot 35 = .ok (.iastore, 1) := by decide +kernel
theorem dX2_clearSlot_36 : decode cX2_clearSlot 36 = .ok (.iinc 2 1, 3) := by decide +kernel
theorem dX2_clearSlot_39 : decode cX2_clearSlot 39 = .ok (.goto (-30), 3) := by decide +kernel
theorem dX2_clearSlot_42 : decode cX2_clearSlot 42 = .ok (.return_, 1) := by decide +kernel
set_option maxRecDepth 20000 in
theorem ggX2_copy_X1_copy : GoodIn wsX2_copy wsX1_copy := goodIn_r _ [19, 20, 21, 22, 23, 24, 25, 26, 37, 38, 39, 40, 41, 42, 43] (by decide +kernel) (by decide +kernel)
set_option maxRecDepth 20000 in
theorem gX2_copy_X1_copy : GoodIn wsX2_copy (wsV RX2 60 RX1 yX1_copy wsX1_copy) := goodIn_app (goodIn_of _ (by decide +kernel)) ggX2_copy_X1_copy
theorem dX2_copy_0 : decode cX2_copy 0 = .ok (.aload_n 0, 1) := by decide +kernel
theorem dX2_copy_1 : decode cX2_copy 1 = .ok (.aload_n 1, 1) := by decide +kernel
theorem dX2_copy_2 : decode cX2_copy 2 = .ok (.getfield 28, 3) := by decide +kernel
theorem dX2_copy_5 : decode cX2_copy 5 = .ok (.putfield 28, 3) := by decide +kernel
theorem dX2_copy_8 : decode cX2_copy 8 = .ok (.aload_n 0, 1) := by decide +kernel
theorem dX2_copy_9 : decode cX2_copy 9 = .ok (.aload_n 1, 1) := by decide +kernel
theorem dX2_copy_10 : decode cX2_copy 10 = .ok (.getfield 32, 3) := by decide +kernel
theorem dX2_copy_13 : decode cX2_copy 13 = .ok (.putfield 32, 3) := by decide +kernel
theorem dX2_copy_16 : decode cX2_copy 16 = .ok (.aload_n 0, 1) := by decide +kernel
theorem dX2_copy_17 : decode cX2_copy 17 = .ok (.aload_n 1, 1) := by decide +kernel
theorem dX2_copy_18 : decode cX2_copy 18 = .ok (.getfield 35, 3) := by decide +kernel
theorem dX2_copy_21 : decode cX2_copy 21 = .ok (.putfield 35, 3) := by decide +kernel
theorem dX2_copy_24 : decode cX2_copy 24 = .ok (.aload_n 0, 1) := by decide +kernel
theorem dX2_copy_25 : decode cX2_copy 25 = .ok (.aload_n 1, 1) := by decide +kernel
theorem dX2_copy_26 : decode cX2_copy 26 = .ok (.getfield 38, 3) := by decide +kernel
theorem dX2_copy_29 : decode cX2_copy 29 = .ok (.putfield 38, 3) := by decide +kernel
theorem dX2_copy_32 : decode cX2_copy 32 = .ok (.aload_n 0, 1) := by decide +kernel
theorem dX2_copy_33 : decode cX2_copy 33 = .ok (.aload_n 1, 1) := by decide +kernel
theorem dX2_copy_34 : decode cX2_copy 34 = .ok (.getfield 41, 3) := by decide +kernel
theorem dX2_copy_37 : decode cX2_copy 37 = .ok (.putfield 41, 3) := by decide +kernel
theorem dX2_copy_40 : decode cX2_copy 40 = .ok (.aload_n 0, 1) := by decide +kernel
theorem dX2_copy_41 : decode cX2_copy 41 = .ok (.aload_n 1, 1) := by decide +kernel
theorem dX2_copy_42 : decode cX2_copy 42 = .ok (.getfield 44, 3) := by decide +kernel
theorem dX2_copy_45 : decode cX2_copy 45 = .ok (.putfield 44, 3) := by decide +kernel
theorem dX2_copy_48 : decode cX2_copy 48 = .ok (.aload_n 1, 1) := by decide +kernel
theorem dX2_copy_49 : decode cX2_copy 49 = .ok (.getfield 9, 3) := by decide +kernel
theorem dX2_copy_52 : decode cX2_copy 52 = .ok (.iconst 0, 1) := by decide +kernel
theorem dX2_copy_53 : decode cX2_copy 53 = .ok (.aload_n 0, 1) := by decide +kernel
theorem dX2_copy_54 : decode cX2_copy 54 = .ok (.getfield 9, 3) := by decide +kernel
theorem dX2_copy_57 : decode cX2_copy 57 = .ok (.iconst 0, 1) := by decide +kernel
theorem dX2_copy_58 : decode cX2_copy 58 = .ok (.iconst 5, 1) := by decide +kernel
theorem dX2_copy_59 : decode cX2_copy 59 = .ok (.invokestatic 54, 3) := by decide +kernel
theorem dX2_copy_62 : decode cX2_copy 62 = .ok (.aload_n 1, 1) := by decide +kernel
theorem dX2_copy_63 : decode cX2_copy 63 = .ok (.getfield 15, 3) := by decide +kernel
theorem dX2_copy_66 : decode cX2_copy 66 = .ok (.iconst 0, 1) := by decide +kernel
theorem dX2_copy_67 : decode cX2_copy 67 = .ok (.aload_n 0, 1) := by decide +kernel
theorem dX2_copy_68 : decode cX2_copy 68 = .ok (.getfield 15, 3) := by decide +kernel
theorem dX2_copy_71 : decode cX2_copy 71 = .ok (.iconst 0, 1) := by decide +kernel
theorem dX2_copy_72 : decode cX2_copy 72 = .ok (.bipush 15, 2) := by decide +kernel
theorem dX2_copy_74 : decode cX2_copy 74 = .ok (.invokestatic 54, 3) := by decide +kernel
theorem dX2_copy_77 : decode cX2_copy 77 = .ok (.aload_n 1, 1) := by decide +kernel
theorem dX2_copy_78 : decode cX2_copy 78 = .ok (.getfield 18, 3) := by decide +kernel
theorem dX2_copy_81 : decode cX2_copy 81 = .ok (.iconst 0, 1) := by decide +kernel
theorem dX2_copy_82 : decode cX2_copy 82 = .ok (.aload_n 0, 1) := by decide +kernel
theorem dX2_copy_83 : decode cX2_copy 83 = .ok (.getfield 18, 3) := by decide +kernel
theorem dX2_copy_86 : decode cX2_copy 86 = .ok (.iconst 0, 1) := by decide +kernel
theorem dX2_copy_87 : decode cX2_copy 87 = .ok (.bipush 15, 2) := by decide +kernel
theorem dX2_copy_89 : decode cX2_copy 89 = .ok (.invokestatic 54, 3) := by decide +kernel
theorem dX2_copy_92 : decode cX2_copy 92 = .ok (.iconst 0, 1) := by decide +kernel
theorem dX2_copy_93 : decode cX2_copy 93 = .ok (.istore_n 2, 1) := by decide +kernel
theorem dX2_copy_94 : decode cX2_copy 94 = .ok (.iload_n 2, 1) := by decide +kernel
theorem dX2_copy_95 : decode cX2_copy 95 = .ok (.iconst 3, 1) := by decide +kernel
theorem dX2_copy_96 : decode cX2_copy 96 = .ok (.if_icmp .ge 24, 3) := by decide +kernel
theorem dX2_copy_99 : decode cX2_copy 99 = .ok (.aload_n 0, 1) := by decide +kernel
theorem dX2_copy_100 : decode cX2_copy 100 = .ok (.getfield 23, 3) := by decide +kernel
theorem dX2_copy_103 : decode cX2_copy 103 = .ok (.iload_n 2, 1) := by decide +kernel
theorem dX2_copy_104 : decode cX2_copy 104 = .ok (.aaload, 1) := by decide +kernel
theorem dX2_copy_105 : decode cX2_copy 105 = .ok (.aload_n 1, 1) := by decide +kernel
theorem dX2_copy_106 : decode cX2_copy 106 = .ok (.getfield 23, 3) := by decide +kernel
theorem dX2_copy_109 : decode cX2_copy 109 = .ok (.iload_n 2, 1) := by decide +kernel
theorem dX2_copy_110 : decode cX2_copy 110 = .ok (.aaload, 1) := by decide +kernel
theorem dX2_copy_111 : decode cX2_copy 111 = .ok (.invokevirtual 60, 3) := by decide +kernel
theorem dX2_copy_114 : decode cX2_copy 114 = .ok (.iinc 2 1, 3) := by decide +kernel
theorem dX2_copy_117 : decode cX2_copy 117 = .ok (.goto (-23), 3) := by decide +kernel
theorem dX2_copy_120 : decode cX2_copy 120 = .ok (.return_, 1) := by decide +kernel
theorem dX2_cellsOn_0 : decode cX2_cellsOn 0 = .ok (.iconst 0, 1) := by decide +kernel
theorem dX2_cellsOn_1 : decode cX2_cellsOn 1 = .ok (.istore_n 1, 1) := by decide +kernel
theorem dX2_cellsOn_2 : decode cX2_cellsOn 2 = .ok (.iconst 0, 1) := by decide +kernel
theorem dX2_cellsOn_3 : decode cX2_cellsOn 3 = .ok (.istore_n 2, 1) := by decide +kernel
theorem dX2_cellsOn_4 : decode cX2_cellsOn 4 = .ok (.iload_n 2, 1) := by decide +kernel
theorem dX2_cellsOn_5 : decode cX2_cellsOn 5 = .ok (.iconst 5, 1) := by decide +kernel
theorem dX2_cellsOn_6 : decode cX2_cellsOn 6 = .ok (.if_icmp .ge 22, 3) := by decide +kernel
theorem dX2_cellsOn_9 : decode cX2_cellsOn 9 = .ok (.aload_n 0, 1) := by decide +kernel
theorem dX2_cellsOn_10 : decode cX2_cellsOn 10 = .ok (.getfield 9, 3) := by decide +kernel
theorem dX2_cellsOn_13 : decode cX2_cellsOn 13 = .ok (.iload_n 2, 1) := by decide +kernel
theorem dX2_cellsOn_14 : decode cX2_cellsOn 14 = .ok (.iaload, 1) := by decide +kernel
theorem dX2_cellsOn_15 : decode cX2_cellsOn 15 = .ok (.iconst (-1), 1) := by decide +kernel
theorem dX2_cellsOn_16 : decode cX2_cellsOn 16 = .ok (.if_icmp .eq 6, 3) := by decide +kernel
theorem dX2_cellsOn_19 : decode cX2_cellsOn 19 = .ok (.iinc 1 1, 3) := by decide +kernel
theorem dX2_cellsOn_22 : decode cX2_cellsOn 22 = .ok (.iinc 2 1, 3) := by decide +kernel
theorem dX2_cellsOn_25 : decode cX2_cellsOn 25 = .ok (.goto (-21), 3) := by decide +kernel
theorem dX2_cellsOn_28 : decode cX2_cellsOn 28 = .ok (.iload_n 1, 1) := by decide +kernel
theorem dX2_cellsOn_29 : decode cX2_cellsOn 29 = .ok (.ireturn, 1) := by decide +kernel
theorem dX2_cellsOnOf_0 : decode cX2_cellsOnOf 0 = .ok (.iconst 0, 1) := by decide +kernel
theorem dX2_cellsOnOf_1 : decode cX2_cellsOnOf 1 = .ok (.istore_n 2, 1) := by decide +kernel
theorem dX2_cellsOnOf_2 : decode cX2_cellsOnOf 2 = .ok (.iconst 0, 1) := by decide +kernel
theorem dX2_cellsOnOf_3 : decode cX2_cellsOnOf 3 = .ok (.istore_n 3, 1) := by decide +kernel
theorem dX2_cellsOnOf_4 : decode cX2_cellsOnOf 4 = .ok (.iload_n 3, 1) := by decide +kernel
theorem dX2_cellsOnOf_5 : decode cX2_cellsOnOf 5 = .ok (.iconst 5, 1) := by decide +kernel
theorem dX2_cellsOnOf_6 : decode cX2_cellsOnOf 6 = .ok (.if_icmp .ge 22, 3) := by decide +kernel
theorem dX2_cellsOnOf_9 : decode cX2_cellsOnOf 9 = .ok (.aload_n 0, 1) := by decide +kernel
theorem dX2_cellsOnOf_10 : decode cX2_cellsOnOf 10 = .ok (.getfield 9, 3) := by decide +kernel
theorem dX2_cellsOnOf_13 : decode cX2_cellsOnOf 13 = .ok (.iload_n 3, 1) := by decide +kernel
theorem dX2_cellsOnOf_14 : decode cX2_cellsOnOf 14 = .ok (.iaload, 1) := by decide +kernel
theorem dX2_cellsOnOf_15 : decode cX2_cellsOnOf 15 = .ok (.iload_n 1, 1) := by decide +kernel
theorem dX2_cellsOnOf_16 : decode cX2_cellsOnOf 16 = .ok (.if_icmp .ne 6, 3) := by decide +kernel
theorem dX2_cellsOnOf_19 : decode cX2_cellsOnOf 19 = .ok (.iinc 2 1, 3) := by decide +kernel
theorem dX2_cellsOnOf_22 : decode cX2_cellsOnOf 22 = .ok (.iinc 3 1, 3) := by decide +kernel
theorem dX2_cellsOnOf_25 : decode cX2_cellsOnOf 25 = .ok (.goto (-21), 3) := by decide +kernel
theorem dX2_cellsOnOf_28 : decode cX2_cellsOnOf 28 = .ok (.iload_n 2, 1) := by decide +kernel
theorem dX2_cellsOnOf_29 : decode cX2_cellsOnOf 29 = .ok (.ireturn, 1) := by decide +kernel
theorem dX2_updatesOn_0 : decode cX2_updatesOn 0 = .ok (.iconst 0, 1) := by decide +kernel
theorem dX2_updatesOn_1 : decode cX2_updatesOn 1 = .ok (.istore_n 1, 1) := by decide +kernel
theorem dX2_updatesOn_2 : decode cX2_updatesOn 2 = .ok (.iconst 0, 1) := by decide +kernel
theorem dX2_updatesOn_3 : decode cX2_updatesOn 3 = .ok (.istore_n 2, 1) := by decide +kernel
theorem dX2_updatesOn_4 : decode cX2_updatesOn 4 = .ok (.iload_n 2, 1) := by decide +kernel
theorem dX2_updatesOn_5 : decode cX2_updatesOn 5 = .ok (.bipush 15, 2) := by decide +kernel
theorem dX2_updatesOn_7 : decode cX2_updatesOn 7 = .ok (.if_icmp .ge 22, 3) := by decide +kernel
theorem dX2_updatesOn_10 : decode cX2_updatesOn 10 = .ok (.aload_n 0, 1) := by decide +kernel
theorem dX2_updatesOn_11 : decode cX2_updatesOn 11 = .ok (.getfield 15, 3) := by decide +kernel
theorem dX2_updatesOn_14 : decode cX2_updatesOn 14 = .ok (.iload_n 2, 1) := by decide +kernel
theorem dX2_updatesOn_15 : decode cX2_updatesOn 15 = .ok (.iaload, 1) := by decide +kernel
theorem dX2_updatesOn_16 : decode cX2_updatesOn 16 = .ok (.iconst (-1), 1) := by decide +kernel
theorem dX2_updatesOn_17 : decode cX2_updatesOn 17 = .ok (.if_icmp .eq 6, 3) := by decide +kernel
theorem dX2_updatesOn_20 : decode cX2_updatesOn 20 = .ok (.iinc 1 1, 3) := by decide +kernel
theorem dX2_updatesOn_23 : decode cX2_updatesOn 23 = .ok (.iinc 2 1, 3) := by decide +kernel
theorem dX2_updatesOn_26 : decode cX2_updatesOn 26 = .ok (.goto (-22), 3) := by decide +kernel
theorem dX2_updatesOn_29 : decode cX2_updatesOn 29 = .ok (.iload_n 1, 1) := by decide +kernel
theorem dX2_updatesOn_30 : decode cX2_updatesOn 30 = .ok (.ireturn, 1) := by decide +kernel
theorem dX2_probesOn_0 : decode cX2_probesOn 0 = .ok (.iconst 0, 1) := by decide +kernel
theorem dX2_probesOn_1 : decode cX2_probesOn 1 = .ok (.istore_n 1, 1) := by decide +kernel
theorem dX2_probesOn_2 : decode cX2_probesOn 2 = .ok (.iconst 0, 1) := by decide +kernel
theorem dX2_probesOn_3 : decode cX2_probesOn 3 = .ok (.istore_n 2, 1) := by decide +kernel
theorem dX2_probesOn_4 : decode cX2_probesOn 4 = .ok (.iload_n 2, 1) := by decide +kernel
theorem dX2_probesOn_5 : decode cX2_probesOn 5 = .ok (.bipush 15, 2) := by decide +kernel
theorem dX2_probesOn_7 : decode cX2_probesOn 7 = .ok (.if_icmp .ge 18, 3) := by decide +kernel
theorem dX2_probesOn_10 : decode cX2_probesOn 10 = .ok (.iload_n 1, 1) := by decide +kernel
theorem dX2_probesOn_11 : decode cX2_probesOn 11 = .ok (.aload_n 0, 1) := by decide +kernel
theorem dX2_probesOn_12 : decode cX2_probesOn 12 = .ok (.getfield 18, 3) := by decide +kernel
theorem dX2_probesOn_15 : decode cX2_probesOn 15 = .ok (.iload_n 2, 1) := by decide +kernel
theorem dX2_probesOn_16 : decode cX2_probesOn 16 = .ok (.iaload, 1) := by decide +kernel
theorem dX2_probesOn_17 : decode cX2_probesOn 17 = .ok (.iadd, 1) := by decide +kernel
theorem dX2_probesOn_18 : decode cX2_probesOn 18 = .ok (.istore_n 1, 1) := by decide +kernel
theorem dX2_probesOn_19 : decode cX2_probesOn 19 = .ok (.iinc 2 1, 3) := by decide +kernel
theorem dX2_probesOn_22 : decode cX2_probesOn 22 = .ok (.goto (-18), 3) := by decide +kernel
theorem dX2_probesOn_25 : decode cX2_probesOn 25 = .ok (.iload_n 1, 1) := by decide +kernel
theorem dX2_probesOn_26 : decode cX2_probesOn 26 = .ok (.ireturn, 1) := by decide +kernel
theorem dX2_probeBits_0 : decode cX2_probeBits 0 = .ok (.iconst 0, 1) := by decide +kernel
theorem dX2_probeBits_1 : decode cX2_probeBits 1 = .ok (.istore_n 2, 1) := by decide +kernel
theorem dX2_probeBits_2 : decode cX2_probeBits 2 = .ok (.iconst 0, 1) := by decide +kernel
theorem dX2_probeBits_3 : decode cX2_probeBits 3 = .ok (.istore_n 3, 1) := by decide +kernel
theorem dX2_probeBits_4 : decode cX2_probeBits 4 = .ok (.iload_n 3, 1) := by decide +kernel
theorem dX2_probeBits_5 : decode cX2_probeBits 5 = .ok (.iconst 3, 1) := by decide +kernel
theorem dX2_probeBits_6 : decode cX2_probeBits 6 = .ok (.if_icmp .ge 28, 3) := by decide +kernel
theorem dX2_probeBits_9 : decode cX2_probeBits 9 = .ok (.aload_n 0, 1) := by decide +kernel
theorem dX2_probeBits_10 : decode cX2_probeBits 10 = .ok (.getfield 18, 3) := by decide +kernel
theorem dX2_probeBits_13 : decode cX2_probeBits 13 = .ok (.iload_n 1, 1) := by decide +kernel
theorem dX2_probeBits_14 : decode cX2_probeBits 14 = .ok (.iconst 3, 1) := by decide +kernel
theorem dX2_probeBits_15 : decode cX2_probeBits 15 = .ok (.imul, 1) := by decide +kernel
theorem dX2_probeBits_16 : decode cX2_probeBits 16 = .ok (.iload_n 3, 1) := by decide +kernel
theorem dX2_probeBits_17 : decode cX2_probeBits 17 = .ok (.iadd, 1) := by decide +kernel
theorem dX2_probeBits_18 : decode cX2_probeBits 18 = .ok (.iaload, 1) := by decide +kernel
theorem dX2_probeBits_19 : decode cX2_probeBits 19 = .ok (.ifCond .le 9, 3) := by decide +kernel
theorem dX2_probeBits_22 : decode cX2_probeBits 22 = .ok (.iload_n 2, 1) := by decide +kernel
theorem dX2_probeBits_23 : decode cX2_probeBits 23 = .ok (.iconst 1, 1) := by decide +kernel
theorem dX2_probeBits_24 : decode cX2_probeBits 24 = .ok (.iload_n 3, 1) := by decide +kernel
theorem dX2_probeBits_25 : decode cX2_probeBits 25 = .ok (.ishl, 1) := by decide +kernel
theorem dX2_probeBits_26 : decode cX2_probeBits 26 = .ok (.ior, 1) := by decide +kernel
theorem dX2_probeBits_27 : decode cX2_probeBits 27 = .ok (.istore_n 2, 1) := by decide +kernel
theorem dX2_probeBits_28 : decode cX2_probeBits 28 = .ok (.iinc 3 1, 3) := by decide +kernel
theorem dX2_probeBits_31 : decode cX2_probeBits 31 = .ok (.goto (-27), 3) := by decide +kernel
theorem dX2_probeBits_34 : decode cX2_probeBits 34 = .ok (.iload_n 2, 1) := by decide +kernel
theorem dX2_probeBits_35 : decode cX2_probeBits 35 = .ok (.ireturn, 1) := by decide +kernel
set_option maxRecDepth 20000 in
theorem ggX2_roomFor_X1_out : GoodIn wsX2_roomFor wsX1_out := goodIn_r _ [12, 13, 14, 25, 26, 27, 28, 29, 30, 31] (by decide +kernel) (by decide +kernel)
set_option maxRecDepth 20000 in
theorem gX2_roomFor_X1_out : GoodIn wsX2_roomFor (wsV RX2 67 RX1 yX1_out wsX1_out) := goodIn_app (goodIn_of _ (by decide +kernel)) ggX2_roomFor_X1_out
theorem dX2_roomFor_0 : decode cX2_roomFor 0 = .ok (.aload_n 0, 1) := by decide +kernel
theorem dX2_roomFor_1 : decode cX2_roomFor 1 = .ok (.getfield 32, 3) := by decide +kernel
theorem dX2_roomFor_4 : decode cX2_roomFor 4 = .ok (.istore_n 3, 1) := by decide +kernel
theorem dX2_roomFor_5 : decode cX2_roomFor 5 = .ok (.iconst 0, 1) := by decide +kernel
theorem dX2_roomFor_6 : decode cX2_roomFor 6 = .ok (.istore 4, 2) := by decide +kernel
theorem dX2_roomFor_8 : decode cX2_roomFor 8 = .ok (.iload 4, 2) := by decide +kernel
theorem dX2_roomFor_10 : decode cX2_roomFor 10 = .ok (.iload_n 2, 1) := by decide +kernel
theorem dX2_roomFor_11 : decode cX2_roomFor 11 = .ok (.if_icmp .ge 41, 3) := by decide +kernel
theorem dX2_roomFor_14 : decode cX2_roomFor 14 = .ok (.iload 4, 2) := by decide +kernel
theorem dX2_roomFor_16 : decode cX2_roomFor 16 = .ok (.iload_n 1, 1) := by decide +kernel
theorem dX2_roomFor_17 : decode cX2_roomFor 17 = .ok (.if_icmp .eq 29, 3) := by decide +kernel
theorem dX2_roomFor_20 : decode cX2_roomFor 20 = .ok (.iload_n 3, 1) := by decide +kernel
theorem dX2_roomFor_21 : decode cX2_roomFor 21 = .ok (.aload_n 0, 1) := by decide +kernel
theorem dX2_roomFor_22 : decode cX2_roomFor 22 = .ok (.getfield 23, 3) := by decide +kernel
theorem dX2_roomFor_25 : decode cX2_roomFor 25 = .ok (.iload 4, 2) := by decide +kernel
theorem dX2_roomFor_27 : decode cX2_roomFor 27 = .ok (.aaload, 1) := by decide +kernel
theorem dX2_roomFor_28 : decode cX2_roomFor 28 = .ok (.getfield 64, 3) := by decide +kernel
theorem dX2_roomFor_31 : decode cX2_roomFor 31 = .ok (.aload_n 0, 1) := by decide +kernel
theorem dX2_roomFor_32 : decode cX2_roomFor 32 = .ok (.getfield 23, 3) := by decide +kernel
theorem dX2_roomFor_35 : decode cX2_roomFor 35 = .ok (.iload 4, 2) := by decide +kernel
theorem dX2_roomFor_37 : decode cX2_roomFor 37 = .ok (.aaload, 1) := by decide +kernel
theorem dX2_roomFor_38 : decode cX2_roomFor 38 = .ok (.invokevirtual 67, 3) := by decide +kernel
theorem dX2_roomFor_41 : decode cX2_roomFor 41 = .ok (.invokestatic 71, 3) := by decide +kernel
theorem dX2_roomFor_44 : decode cX2_roomFor 44 = .ok (.isub, 1) := by decide +kernel
theorem dX2_roomFor_45 : decode cX2_roomFor 45 = .ok (.istore_n 3, 1) := by decide +kernel
theorem dX2_roomFor_46 : decode cX2_roomFor 46 = .ok (.iinc 4 1, 3) := by decide +kernel
theorem dX2_roomFor_49 : decode cX2_roomFor 49 = .ok (.goto (-41), 3) := by decide +kernel
theorem dX2_roomFor_52 : decode cX2_roomFor 52 = .ok (.iload_n 3, 1) := by decide +kernel
theorem dX2_roomFor_53 : decode cX2_roomFor 53 = .ok (.ireturn, 1) := by decide +kernel
theorem qxX3_init_0 : ∀ w ∈ (((((wsX3_init_r1 ++ wsX3_init_r2) ++ wsX30) ++ wsX20) ++ wsX00) ++ wsX10), w ∈ wsX3_init := fun w h => List.mem_cons_of_mem _ h
theorem qxX3_init_1 : ∀ w ∈ ((((wsX3_init_r1 ++ wsX3_init_r2) ++ wsX30) ++ wsX20) ++ wsX00), w ∈ wsX3_init := in_l qxX3_init_0
theorem qxX3_init_2 : ∀ w ∈ wsX10, w ∈ wsX3_init := in_r qxX3_init_0
theorem qxX3_init_3 : ∀ w ∈ (((wsX3_init_r1 ++ wsX3_init_r2) ++ wsX30) ++ wsX20), w ∈ wsX3_init := in_l qxX3_init_1
theorem qxX3_init_4 : ∀ w ∈ wsX00, w ∈ wsX3_init := in_r qxX3_init_1
theorem qxX3_init_5 : ∀ w ∈ ((wsX3_init_r1 ++ wsX3_init_r2) ++ wsX30), w ∈ wsX3_init := in_l qxX3_init_3
theorem qxX3_init_6 : ∀ w ∈ wsX20, w ∈ wsX3_init := in_r qxX3_init_3
theorem qxX3_init_7 : ∀ w ∈ (wsX3_init_r1 ++ wsX3_init_r2), w ∈ wsX3_init := in_l qxX3_init_5
theorem qxX3_init_8 : ∀ w ∈ wsX30, w ∈ wsX3_init := in_r qxX3_init_5
theorem qxX3_init_9 : ∀ w ∈ wsX3_init_r1, w ∈ wsX3_init := in_l qxX3_init_7
theorem qxX3_init_10 : ∀ w ∈ wsX3_init_r2, w ∈ wsX3_init := in_r qxX3_init_7
def pxX3_init : List (List Cond) := [wsX3_init_r1, wsX3_init_r2, wsX30, wsX20, wsX00, wsX10]
theorem pxX3_init_in : ∀ q ∈ pxX3_init, ∀ w ∈ q, w ∈ wsX3_init := lp_c qxX3_init_9 (lp_c qxX3_init_10 (lp_c qxX3_init_8 (lp_c qxX3_init_6 (lp_c qxX3_init_4 (lp_c qxX3_init_2 (lp_n))))))
set_option maxRecDepth 20000 in
theorem ggX3_init_X2_init : GoodIn wsX3_init wsX2_init := goodIn_pp pxX3_init pxX3_init_in _ [(0, 15), (0, 16), (0, 1), (0, 2), (0, 7), (0, 17), (0, 18), (0, 19), (0, 20), (0, 21), (0, 22), (0, 23), (1, 0), (1, 1), (1, 2), (3, 0), (3, 1), (3, 2), (3, 3), (3, 4), (3, 5), (3, 6), (3, 7), (3, 8), (3, 9), (5, 0), (5, 1), (5, 2), (5, 3), (5, 4), (5, 5), (5, 6)] rfl (by decide +kernel)
set_option maxRecDepth 20000 in
theorem gX3_init_X2_init : GoodIn wsX3_init (wsX2_init) := ggX3_init_X2_init
set_option maxRecDepth 20000 in
theorem ggX3_init_X0_init : GoodIn wsX3_init wsX0_init := goodIn_r _ [29, 30, 2, 3] (by decide +kernel) (by decide +kernel)
set_option maxRecDepth 20000 in
theorem gX3_init_X0_init_n28 : GoodIn wsX3_init (wsX0_init) := ggX3_init_X0_init
theorem dX3_init_0 : decode cX3_init 0 = .ok (.aload_n 0, 1) := by decide +kernel
theorem dX3_init_1 : decode cX3_init 1 = .ok (.invokespecial 3, 3) := by decide +kernel
theorem dX3_init_4 : decode cX3_init 4 = .ok (.aload_n 0, 1) := by decide +kernel
theorem dX3_init_5 : decode cX3_init 5 = .ok (.iconst 3, 1) := by decide +kernel
theorem dX3_init_6 : decode cX3_init 6 = .ok (.anewarray 9, 3) := by decide +kernel
theorem dX3_init_9 : decode cX3_init 9 = .ok (.putfield 11, 3) := by decide +kernel
theorem dX3_init_12 : decode cX3_init 12 = .ok (.aload_n 0, 1) := by decide +kernel
theorem dX3_init_13 : decode cX3_init 13 = .ok (.iconst 3, 1) := by decide +kernel
theorem dX3_init_14 : decode cX3_init 14 = .ok (.anewarray 17, 3) := by decide +kernel
theorem dX3_init_17 : decode cX3_init 17 = .ok (.putfield 19, 3) := by decide +kernel
theorem dX3_init_20 : decode cX3_init 20 = .ok (.aload_n 0, 1) := by decide +kernel
theorem dX3_init_21 : decode cX3_init 21 = .ok (.bipush 12, 2) := by decide +kernel
theorem dX3_init_23 : decode cX3_init 23 = .ok (.newarray .int, 2) := by decide +kernel
theorem dX3_init_25 : decode cX3_init 25 = .ok (.putfield 23, 3) := by decide +kernel
theorem dX3_init_28 : decode cX3_init 28 = .ok (.iconst 0, 1) := by decide +kernel
theorem dX3_init_29 : decode cX3_init 29 = .ok (.istore_n 1, 1) := by decide +kernel
theorem dX3_init_30 : decode cX3_init 30 = .ok (.iload_n 1, 1) := by decide +kernel
theorem dX3_init_31 : decode cX3_init 31 = .ok (.iconst 3, 1) := by decide +kernel
theorem dX3_init_32 : decode cX3_init 32 = .ok (.if_icmp .ge 22, 3) := by decide +kernel
theorem dX3_init_35 : decode cX3_init 35 = .ok (.aload_n 0, 1) := by decide +kernel
theorem dX3_init_36 : decode cX3_init 36 = .ok (.getfield 11, 3) := by decide +kernel
theorem dX3_init_39 : decode cX3_init 39 = .ok (.iload_n 1, 1) := by decide +kernel
theorem dX3_init_40 : decode cX3_init 40 = .ok (.new 9, 3) := by decide +kernel
theorem dX3_init_43 : decode cX3_init 43 = .ok (.dup, 1) := by decide +kernel
theorem dX3_init_44 : decode cX3_init 44 = .ok (.invokespecial 27, 3) := by decide +kernel
theorem dX3_init_47 : decode cX3_init 47 = .ok (.aastore, 1) := by decide +kernel
theorem dX3_init_48 : decode cX3_init 48 = .ok (.iinc 1 1, 3) := by decide +kernel
theorem dX3_init_51 : decode cX3_init 51 = .ok (.goto (-21), 3) := by decide +kernel
theorem dX3_init_54 : decode cX3_init 54 = .ok (.iconst 0, 1) := by decide +kernel
theorem dX3_init_55 : decode cX3_init 55 = .ok (.istore_n 1, 1) := by decide +kernel
theorem dX3_init_56 : decode cX3_init 56 = .ok (.iload_n 1, 1) := by decide +kernel
theorem dX3_init_57 : decode cX3_init 57 = .ok (.iconst 3, 1) := by decide +kernel
theorem dX3_init_58 : decode cX3_init 58 = .ok (.if_icmp .ge 22, 3) := by decide +kernel
theorem dX3_init_61 : decode cX3_init 61 = .ok (.aload_n 0, 1) := by decide +kernel
theorem dX3_init_62 : decode cX3_init 62 = .ok (.getfield 19, 3) := by decide +kernel
theorem dX3_init_65 : decode cX3_init 65 = .ok (.iload_n 1, 1) := by decide +kernel
theorem dX3_init_66 : decode cX3_init 66 = .ok (.new 17, 3) := by decide +kernel
theorem dX3_init_69 : decode cX3_init 69 = .ok (.dup, 1) := by decide +kernel
theorem dX3_init_70 : decode cX3_init 70 = .ok (.invokespecial 28, 3) := by decide +kernel
theorem dX3_init_73 : decode cX3_init 73 = .ok (.aastore, 1) := by decide +kernel
theorem dX3_init_74 : decode cX3_init 74 = .ok (.iinc 1 1, 3) := by decide +kernel
theorem dX3_init_77 : decode cX3_init 77 = .ok (.goto (-21), 3) := by decide +kernel
theorem dX3_init_80 : decode cX3_init 80 = .ok (.return_, 1) := by decide +kernel
set_option maxRecDepth 20000 in
theorem ggX3_lay_X4_hops : GoodIn wsX3_lay wsX4_hops := goodIn_r _ [16, 17, 18, 7, 8, 9, 101, 102, 103, 104, 105, 106, 107] (by decide +kernel) (by decide +kernel)
set_option maxRecDepth 20000 in
theorem gX3_lay_X4_hops : GoodIn wsX3_lay (wsV RX3 29 RX4 yX4_hops wsX4_hops) := goodIn_app (goodIn_of _ (by decide +kernel)) ggX3_lay_X4_hops
set_option maxRecDepth 20000 in
theorem ggX3_lay_X4_circuits : GoodIn wsX3_lay wsX4_circuits := goodIn_r _ [22, 23, 18, 7, 8, 9, 101, 102, 103, 104, 105, 106, 107] (by decide +kernel) (by decide +kernel)
set_option maxRecDepth 20000 in
theorem gX3_lay_X4_circuits : GoodIn wsX3_lay (wsV RX3 35 RX4 yX4_circuits wsX4_circuits) := goodIn_app (goodIn_of _ (by decide +kernel)) ggX3_lay_X4_circuits
set_option maxRecDepth 20000 in
theorem ggX3_lay_X4_ofRules : GoodIn wsX3_lay wsX4_ofRules := goodIn_r _ [27, 28, 101, 102, 103, 104, 105, 106, 107] (by decide +kernel) (by decide +kernel)
set_option maxRecDepth 20000 in
theorem gX3_lay_X4_ofRules : GoodIn wsX3_lay (wsV RX3 38 RX4 yX4_ofRules wsX4_ofRules) := goodIn_app (goodIn_of _ (by decide +kernel)) ggX3_lay_X4_ofRules
set_option maxRecDepth 20000 in
theorem ggX3_lay_X3_layRules : GoodIn wsX3_lay wsX3_layRules := goodIn_r _ [33, 3, 5, 4, 1, 2, 34, 35, 36, 37, 90, 91, 92, 93, 94, 95, 96, 97, 98, 99, 100] (by decide +kernel) (by decide +kernel)
set_option maxRecDepth 20000 in
theorem gX3_lay_X3_layRules : GoodIn wsX3_lay (wsV RX3 42 RX3 yX3_layRules wsX3_layRules) := goodIn_app (goodIn_of _ (by decide +kernel)) ggX3_lay_X3_layRules
set_option maxRecDepth 20000 in
theorem ggX3_lay_X4_ofHop : GoodIn wsX3_lay wsX4_ofHop := goodIn_r _ [41, 28, 101, 102, 103, 104, 105, 106, 107] (by decide +kernel) (by decide +kernel)
set_option maxRecDepth 20000 in
theorem gX3_lay_X4_ofHop : GoodIn wsX3_lay (wsV RX3 55 RX4 yX4_ofHop wsX4_ofHop) := goodIn_app (goodIn_of _ (by decide +kernel)) ggX3_lay_X4_ofHop
theorem qxX3_lay_0 : ∀ w ∈ ((((((wsX3_lay_r1 ++ (wsX3_lay_r2 ++ (wsX3_lay_r3 ++ wsX3_lay_r4))) ++ wsX30) ++ wsX40) ++ wsX20) ++ wsX10) ++ wsX00), w ∈ wsX3_lay := fun w h => List.mem_cons_of_mem _ h
theorem qxX3_lay_1 : ∀ w ∈ (((((wsX3_lay_r1 ++ (wsX3_lay_r2 ++ (wsX3_lay_r3 ++ wsX3_lay_r4))) ++ wsX30) ++ wsX40) ++ wsX20) ++ wsX10), w ∈ wsX3_lay := in_l qxX3_lay_0
theorem qxX3_lay_2 : ∀ w ∈ wsX00, w ∈ wsX3_lay := in_r qxX3_lay_0
theorem qxX3_lay_3 : ∀ w ∈ ((((wsX3_lay_r1 ++ (wsX3_lay_r2 ++ (wsX3_lay_r3 ++ wsX3_lay_r4))) ++ wsX30) ++ wsX40) ++ wsX20), w ∈ wsX3_lay := in_l qxX3_lay_1
theorem qxX3_lay_4 : ∀ w ∈ wsX10, w ∈ wsX3_lay := in_r qxX3_lay_1
theorem qxX3_lay_5 : ∀ w ∈ (((wsX3_lay_r1 ++ (wsX3_lay_r2 ++ (wsX3_lay_r3 ++ wsX3_lay_r4))) ++ wsX30) ++ wsX40), w ∈ wsX3_lay := in_l qxX3_lay_3
theorem qxX3_lay_6 : ∀ w ∈ wsX20, w ∈ wsX3_lay := in_r qxX3_lay_3
theorem qxX3_lay_7 : ∀ w ∈ ((wsX3_lay_r1 ++ (wsX3_lay_r2 ++ (wsX3_lay_r3 ++ wsX3_lay_r4))) ++ wsX30), w ∈ wsX3_lay := in_l qxX3_lay_5
theorem qxX3_lay_8 : ∀ w ∈ wsX40, w ∈ wsX3_lay := in_r qxX3_lay_5
theorem qxX3_lay_9 : ∀ w ∈ (wsX3_lay_r1 ++ (wsX3_lay_r2 ++ (wsX3_lay_r3 ++ wsX3_lay_r4))), w ∈ wsX3_lay := in_l qxX3_lay_7
theorem qxX3_lay_10 : ∀ w ∈ wsX30, w ∈ wsX3_lay := in_r qxX3_lay_7
theorem qxX3_lay_11 : ∀ w ∈ wsX3_lay_r1, w ∈ wsX3_lay := in_l qxX3_lay_9
theorem qxX3_lay_12 : ∀ w ∈ (wsX3_lay_r2 ++ (wsX3_lay_r3 ++ wsX3_lay_r4)), w ∈ wsX3_lay := in_r qxX3_lay_9
theorem qxX3_lay_13 : ∀ w ∈ wsX3_lay_r2, w ∈ wsX3_lay := in_l qxX3_lay_12
theorem qxX3_lay_14 : ∀ w ∈ (wsX3_lay_r3 ++ wsX3_lay_r4), w ∈ wsX3_lay := in_r qxX3_lay_12
theorem qxX3_lay_15 : ∀ w ∈ wsX3_lay_r3, w ∈ wsX3_lay := in_l qxX3_lay_14
theorem qxX3_lay_16 : ∀ w ∈ wsX3_lay_r4, w ∈ wsX3_lay := in_r qxX3_lay_14
def pxX3_lay : List (List Cond) := [wsX3_lay_r1, wsX3_lay_r2, wsX3_lay_r3, wsX3_lay_r4, wsX30, wsX40, wsX20, wsX10, wsX00]
theorem pxX3_lay_in : ∀ q ∈ pxX3_lay, ∀ w ∈ q, w ∈ wsX3_lay := lp_c qxX3_lay_11 (lp_c qxX3_lay_13 (lp_c qxX3_lay_15 (lp_c qxX3_lay_16 (lp_c qxX3_lay_10 (lp_c qxX3_lay_8 (lp_c qxX3_lay_6 (lp_c qxX3_lay_4 (lp_c qxX3_lay_2 (lp_n)))))))))
set_option maxRecDepth 20000 in
theorem ggX3_lay_X2_lay : GoodIn wsX3_lay wsX2_lay := goodIn_pp pxX3_lay pxX3_lay_in _ [(1, 21), (1, 22), (1, 23), (2, 0), (2, 1), (2, 2), (2, 3), (2, 4), (2, 5), (2, 6), (2, 7), (1, 20), (2, 8), (2, 9), (2, 10), (2, 11), (2, 12), (2, 13), (2, 14), (2, 15), (2, 16), (2, 17), (2, 18), (2, 19), (2, 20), (2, 21), (2, 22), (2, 23), (6, 0), (6, 1), (6, 2), (6, 3), (6, 4), (6, 5), (6, 6), (6, 7), (6, 8), (6, 9), (7, 0), (7, 1), (7, 2), (7, 3), (7, 4), (7, 5), (7, 6)] rfl (by decide +kernel)
set_option maxRecDepth 20000 in
theorem gX3_lay_X2_lay : GoodIn wsX3_lay (wsV RX3 69 RX2 yX2_lay wsX2_lay) := goodIn_app (goodIn_of _ (by decide +kernel)) ggX3_lay_X2_lay
set_option maxRecDepth 20000 in
theorem ggX3_lay_X4_ofCircuit : GoodIn wsX3_lay wsX4_ofCircuit := goodIn_r _ [76, 28, 101, 102, 103, 104, 105, 106, 107] (by decide +kernel) (by decide +kernel)
set_option maxRecDepth 20000 in
theorem gX3_lay_X4_ofCircuit : GoodIn wsX3_lay (wsV RX3 73 RX4 yX4_ofCircuit wsX4_ofCircuit) := goodIn_app (goodIn_of _ (by decide +kernel)) ggX3_lay_X4_ofCircuit
set_option maxRecDepth 20000 in
theorem ggX3_lay_X0_lay : GoodIn wsX3_lay wsX0_lay := goodIn_r _ [81, 82, 83, 84, 85, 86, 87, 88, 89, 125, 126, 127, 128, 129, 130, 131, 132] (by decide +kernel) (by decide +kernel)
set_option maxRecDepth 20000 in
theorem gX3_lay_X0_lay : GoodIn wsX3_lay (wsV RX3 76 RX0 yX0_lay wsX0_lay) := goodIn_app (goodIn_of _ (by decide +kernel)) ggX3_lay_X0_lay
theorem dX3_lay_0 : decode cX3_lay 0 = .ok (.aload_n 0, 1) := by decide +kernel
theorem dX3_lay_1 : decode cX3_lay 1 = .ok (.aload_n 1, 1) := by decide +kernel
theorem dX3_lay_2 : decode cX3_lay 2 = .ok (.invokevirtual 29, 3) := by decide +kernel
theorem dX3_lay_5 : decode cX3_lay 5 = .ok (.aload_n 1, 1) := by decide +kernel
theorem dX3_lay_6 : decode cX3_lay 6 = .ok (.invokevirtual 35, 3) := by decide +kernel
theorem dX3_lay_9 : decode cX3_lay 9 = .ok (.aload_n 1, 1) := by decide +kernel
theorem dX3_lay_10 : decode cX3_lay 10 = .ok (.iconst 0, 1) := by decide +kernel
theorem dX3_lay_11 : decode cX3_lay 11 = .ok (.invokevirtual 38, 3) := by decide +kernel
theorem dX3_lay_14 : decode cX3_lay 14 = .ok (.invokevirtual 42, 3) := by decide +kernel
theorem dX3_lay_17 : decode cX3_lay 17 = .ok (.aload_n 0, 1) := by decide +kernel
theorem dX3_lay_18 : decode cX3_lay 18 = .ok (.aload_n 1, 1) := by decide +kernel
theorem dX3_lay_19 : decode cX3_lay 19 = .ok (.iconst 1, 1) := by decide +kernel
theorem dX3_lay_20 : decode cX3_lay 20 = .ok (.invokevirtual 38, 3) := by decide +kernel
theorem dX3_lay_23 : decode cX3_lay 23 = .ok (.putfield 46, 3) := by decide +kernel
theorem dX3_lay_26 : decode cX3_lay 26 = .ok (.aload_n 0, 1) := by decide +kernel
theorem dX3_lay_27 : decode cX3_lay 27 = .ok (.aload_n 1, 1) := by decide +kernel
theorem dX3_lay_28 : decode cX3_lay 28 = .ok (.iconst 2, 1) := by decide +kernel
theorem dX3_lay_29 : decode cX3_lay 29 = .ok (.invokevirtual 38, 3) := by decide +kernel
theorem dX3_lay_32 : decode cX3_lay 32 = .ok (.putfield 50, 3) := by decide +kernel
theorem dX3_lay_35 : decode cX3_lay 35 = .ok (.iconst 0, 1) := by decide +kernel
theorem dX3_lay_36 : decode cX3_lay 36 = .ok (.istore_n 2, 1) := by decide +kernel
theorem dX3_lay_37 : decode cX3_lay 37 = .ok (.iload_n 2, 1) := by decide +kernel
theorem dX3_lay_38 : decode cX3_lay 38 = .ok (.aload_n 0, 1) := by decide +kernel
theorem dX3_lay_39 : decode cX3_lay 39 = .ok (.getfield 53, 3) := by decide +kernel
theorem dX3_lay_42 : decode cX3_lay 42 = .ok (.if_icmp .ge 71, 3) := by decide +kernel
theorem dX3_lay_45 : decode cX3_lay 45 = .ok (.aload_n 1, 1) := by decide +kernel
theorem dX3_lay_46 : decode cX3_lay 46 = .ok (.iload_n 2, 1) := by decide +kernel
theorem dX3_lay_47 : decode cX3_lay 47 = .ok (.iconst 1, 1) := by decide +kernel
theorem dX3_lay_48 : decode cX3_lay 48 = .ok (.invokevirtual 55, 3) := by decide +kernel
theorem dX3_lay_51 : decode cX3_lay 51 = .ok (.aload_n 0, 1) := by decide +kernel
theorem dX3_lay_52 : decode cX3_lay 52 = .ok (.getfield 59, 3) := by decide +kernel
theorem dX3_lay_55 : decode cX3_lay 55 = .ok (.aload_n 0, 1) := by decide +kernel
theorem dX3_lay_56 : decode cX3_lay 56 = .ok (.getfield 62, 3) := by decide +kernel
theorem dX3_lay_59 : decode cX3_lay 59 = .ok (.imul, 1) := by decide +kernel
theorem dX3_lay_60 : decode cX3_lay 60 = .ok (.invokestatic 64, 3) := by decide +kernel
theorem dX3_lay_63 : decode cX3_lay 63 = .ok (.istore_n 3, 1) := by decide +kernel
theorem dX3_lay_64 : decode cX3_lay 64 = .ok (.aload_n 0, 1) := by decide +kernel
theorem dX3_lay_65 : decode cX3_lay 65 = .ok (.getfield 62, 3) := by decide +kernel
theorem dX3_lay_68 : decode cX3_lay 68 = .ok (.ifCond .le 12, 3) := by decide +kernel
theorem dX3_lay_71 : decode cX3_lay 71 = .ok (.iload_n 3, 1) := by decide +kernel
theorem dX3_lay_72 : decode cX3_lay 72 = .ok (.aload_n 0, 1) := by decide +kernel
theorem dX3_lay_73 : decode cX3_lay 73 = .ok (.getfield 62, 3) := by decide +kernel
theorem dX3_lay_76 : decode cX3_lay 76 = .ok (.idiv, 1) := by decide +kernel
theorem dX3_lay_77 : decode cX3_lay 77 = .ok (.goto 4, 3) := by decide +kernel
theorem dX3_lay_80 : decode cX3_lay 80 = .ok (.iload_n 3, 1) := by decide +kernel
theorem dX3_lay_81 : decode cX3_lay 81 = .ok (.istore 4, 2) := by decide +kernel
theorem dX3_lay_83 : decode cX3_lay 83 = .ok (.aload_n 0, 1) := by decide +kernel
theorem dX3_lay_84 : decode cX3_lay 84 = .ok (.getfield 11, 3) := by decide +kernel
theorem dX3_lay_87 : decode cX3_lay 87 = .ok (.iload_n 2, 1) := by decide +kernel
theorem dX3_lay_88 : decode cX3_lay 88 = .ok (.aaload, 1) := by decide +kernel
theorem dX3_lay_89 : decode cX3_lay 89 = .ok (.aload_n 1, 1) := by decide +kernel
theorem dX3_lay_90 : decode cX3_lay 90 = .ok (.iload_n 2, 1) := by decide +kernel
theorem dX3_lay_91 : decode cX3_lay 91 = .ok (.iconst 0, 1) := by decide +kernel
theorem dX3_lay_92 : decode cX3_lay 92 = .ok (.invokevirtual 55, 3) := by decide +kernel
theorem dX3_lay_95 : decode cX3_lay 95 = .ok (.iload_n 3, 1) := by decide +kernel
theorem dX3_lay_96 : decode cX3_lay 96 = .ok (.aload_n 1, 1) := by decide +kernel
theorem dX3_lay_97 : decode cX3_lay 97 = .ok (.iload_n 2, 1) := by decide +kernel
theorem dX3_lay_98 : decode cX3_lay 98 = .ok (.iconst 2, 1) := by decide +kernel
theorem dX3_lay_99 : decode cX3_lay 99 = .ok (.invokevirtual 55, 3) := by decide +kernel
theorem dX3_lay_102 : decode cX3_lay 102 = .ok (.iload 4, 2) := by decide +kernel
theorem dX3_lay_104 : decode cX3_lay 104 = .ok (.invokevirtual 69, 3) := by decide +kernel
theorem dX3_lay_107 : decode cX3_lay 107 = .ok (.iinc 2 1, 3) := by decide +kernel
theorem dX3_lay_110 : decode cX3_lay 110 = .ok (.goto (-73), 3) := by decide +kernel
theorem dX3_lay_113 : decode cX3_lay 113 = .ok (.iconst 0, 1) := by decide +kernel
theorem dX3_lay_114 : decode cX3_lay 114 = .ok (.istore_n 2, 1) := by decide +kernel
theorem dX3_lay_115 : decode cX3_lay 115 = .ok (.iload_n 2, 1) := by decide +kernel
theorem dX3_lay_116 : decode cX3_lay 116 = .ok (.aload_n 0, 1) := by decide +kernel
theorem dX3_lay_117 : decode cX3_lay 117 = .ok (.getfield 62, 3) := by decide +kernel
theorem dX3_lay_120 : decode cX3_lay 120 = .ok (.if_icmp .ge 36, 3) := by decide +kernel
theorem dX3_lay_123 : decode cX3_lay 123 = .ok (.aload_n 0, 1) := by decide +kernel
theorem dX3_lay_124 : decode cX3_lay 124 = .ok (.getfield 19, 3) := by decide +kernel
theorem dX3_lay_127 : decode cX3_lay 127 = .ok (.iload_n 2, 1) := by decide +kernel
theorem dX3_lay_128 : decode cX3_lay 128 = .ok (.aaload, 1) := by decide +kernel
theorem dX3_lay_129 : decode cX3_lay 129 = .ok (.aload_n 1, 1) := by decide +kernel
theorem dX3_lay_130 : decode cX3_lay 130 = .ok (.iload_n 2, 1) := by decide +kernel
theorem dX3_lay_131 : decode cX3_lay 131 = .ok (.iconst 0, 1) := by decide +kernel
theorem dX3_lay_132 : decode cX3_lay 132 = .ok (.invokevirtual 73, 3) := by decide +kernel
theorem dX3_lay_135 : decode cX3_lay 135 = .ok (.aload_n 1, 1) := by decide +kernel
theorem dX3_lay_136 : decode cX3_lay 136 = .ok (.iload_n 2, 1) := by decide +kernel
theorem dX3_lay_137 : decode cX3_lay 137 = .ok (.iconst 1, 1) := by decide +kernel
theorem dX3_lay_138 : decode cX3_lay 138 = .ok (.invokevirtual 73, 3) := by decide +kernel
theorem dX3_lay_141 : decode cX3_lay 141 = .ok (.aload_n 1, 1) := by decide +kernel
theorem dX3_lay_142 : decode cX3_lay 142 = .ok (.iload_n 2, 1) := by decide +kernel
theorem dX3_lay_143 : decode cX3_lay 143 = .ok (.iconst 2, 1) := by decide +kernel
theorem dX3_lay_144 : decode cX3_lay 144 = .ok (.invokevirtual 73, 3) := by decide +kernel
theorem dX3_lay_147 : decode cX3_lay 147 = .ok (.invokevirtual 76, 3) := by decide +kernel
theorem dX3_lay_150 : decode cX3_lay 150 = .ok (.iinc 2 1, 3) := by decide +kernel
theorem dX3_lay_153 : decode cX3_lay 153 = .ok (.goto (-38), 3) := by decide +kernel
theorem dX3_lay_156 : decode cX3_lay 156 = .ok (.return_, 1) := by decide +kernel
set_option maxRecDepth 20000 in
theorem ggX3_layAlone_X3_layRules : GoodIn wsX3_layAlone wsX3_layRules := goodIn_r _ [8, 9, 10, 11, 12, 13, 14, 15, 16, 3, 61, 62, 63, 64, 65, 66, 67, 68, 69, 70, 71] (by decide +kernel) (by decide +kernel)
set_option maxRecDepth 20000 in
theorem gX3_layAlone_X3_layRules : GoodIn wsX3_layAlone (wsV RX3 42 RX3 yX3_layRules wsX3_layRules) := goodIn_app (goodIn_of _ (by decide +kernel)) ggX3_layAlone_X3_layRules
theorem qxX3_layAlone_0 : ∀ w ∈ (((((wsX3_layAlone_r1 ++ (wsX3_layAlone_r2 ++ wsX3_layAlone_r3)) ++ wsX30) ++ wsX20) ++ wsX10) ++ wsX00), w ∈ wsX3_layAlone := fun w h => List.mem_cons_of_mem _ h
theorem qxX3_layAlone_1 : ∀ w ∈ ((((wsX3_layAlone_r1 ++ (wsX3_layAlone_r2 ++ wsX3_layAlone_r3)) ++ wsX30) ++ wsX20) ++ wsX10), w ∈ wsX3_layAlone := in_l qxX3_layAlone_0
theorem qxX3_layAlone_2 : ∀ w ∈ wsX00, w ∈ wsX3_layAlone := in_r qxX3_layAlone_0
theorem qxX3_layAlone_3 : ∀ w ∈ (((wsX3_layAlone_r1 ++ (wsX3_layAlone_r2 ++ wsX3_layAlone_r3)) ++ wsX30) ++ wsX20), w ∈ wsX3_layAlone := in_l qxX3_layAlone_1
theorem qxX3_layAlone_4 : ∀ w ∈ wsX10, w ∈ wsX3_layAlone := in_r qxX3_layAlone_1
theorem qxX3_layAlone_5 : ∀ w ∈ ((wsX3_layAlone_r1 ++ (wsX3_layAlone_r2 ++ wsX3_layAlone_r3)) ++ wsX30), w ∈ wsX3_layAlone := in_l qxX3_layAlone_3
theorem qxX3_layAlone_6 : ∀ w ∈ wsX20, w ∈ wsX3_layAlone := in_r qxX3_layAlone_3
theorem qxX3_layAlone_7 : ∀ w ∈ (wsX3_layAlone_r1 ++ (wsX3_layAlone_r2 ++ wsX3_layAlone_r3)), w ∈ wsX3_layAlone := in_l qxX3_layAlone_5
theorem qxX3_layAlone_8 : ∀ w ∈ wsX30, w ∈ wsX3_layAlone := in_r qxX3_layAlone_5
theorem qxX3_layAlone_9 : ∀ w ∈ wsX3_layAlone_r1, w ∈ wsX3_layAlone := in_l qxX3_layAlone_7
theorem qxX3_layAlone_10 : ∀ w ∈ (wsX3_layAlone_r2 ++ wsX3_layAlone_r3), w ∈ wsX3_layAlone := in_r qxX3_layAlone_7
theorem qxX3_layAlone_11 : ∀ w ∈ wsX3_layAlone_r2, w ∈ wsX3_layAlone := in_l qxX3_layAlone_10
theorem qxX3_layAlone_12 : ∀ w ∈ wsX3_layAlone_r3, w ∈ wsX3_layAlone := in_r qxX3_layAlone_10
def pxX3_layAlone : List (List Cond) := [wsX3_layAlone_r1, wsX3_layAlone_r2, wsX3_layAlone_r3, wsX30, wsX20, wsX10, wsX00]
theorem pxX3_layAlone_in : ∀ q ∈ pxX3_layAlone, ∀ w ∈ q, w ∈ wsX3_layAlone := lp_c qxX3_layAlone_9 (lp_c qxX3_layAlone_11 (lp_c qxX3_layAlone_12 (lp_c qxX3_layAlone_8 (lp_c qxX3_layAlone_6 (lp_c qxX3_layAlone_4 (lp_c qxX3_layAlone_2 (lp_n)))))))
set_option maxRecDepth 20000 in
theorem ggX3_layAlone_X2_lay : GoodIn wsX3_layAlone wsX2_lay := goodIn_pp pxX3_layAlone pxX3_layAlone_in _ [(0, 20), (0, 21), (0, 22), (0, 23), (1, 0), (1, 1), (1, 2), (1, 3), (1, 4), (1, 5), (1, 6), (0, 19), (1, 7), (1, 8), (1, 9), (1, 10), (1, 11), (1, 12), (1, 13), (1, 14), (1, 15), (1, 16), (1, 17), (1, 18), (1, 19), (1, 20), (1, 21), (1, 22), (4, 0), (4, 1), (4, 2), (4, 3), (4, 4), (4, 5), (4, 6), (4, 7), (4, 8), (4, 9), (5, 0), (5, 1), (5, 2), (5, 3), (5, 4), (5, 5), (5, 6)] rfl (by decide +kernel)
set_option maxRecDepth 20000 in
theorem gX3_layAlone_X2_lay : GoodIn wsX3_layAlone (wsV RX3 69 RX2 yX2_lay wsX2_lay) := goodIn_app (goodIn_of _ (by decide +kernel)) ggX3_layAlone_X2_lay
set_option maxRecDepth 20000 in
theorem ggX3_layAlone_X0_lay : GoodIn wsX3_layAlone wsX0_lay := goodIn_r _ [52, 53, 54, 55, 56, 57, 58, 59, 60, 89, 90, 91, 92, 93, 94, 95, 96] (by decide +kernel) (by decide +kernel)
set_option maxRecDepth 20000 in
theorem gX3_layAlone_X0_lay : GoodIn wsX3_layAlone (wsV RX3 76 RX0 yX0_lay wsX0_lay) := goodIn_app (goodIn_of _ (by decide +kernel)) ggX3_layAlone_X0_lay
theorem dX3_layAlone_0 : decode cX3_layAlone 0 = .ok (.aload_n 0, 1) := by decide +kernel
theorem dX3_layAlone_1 : decode cX3_layAlone 1 = .ok (.iconst 1, 1) := by decide +kernel
theorem dX3_layAlone_2 : decode cX3_layAlone 2 = .ok (.iconst 1, 1) := by decide +kernel
theorem dX3_layAlone_3 : decode cX3_layAlone 3 = .ok (.iconst 1, 1) := by decide +kernel
theorem dX3_layAlone_4 : decode cX3_layAlone 4 = .ok (.invokevirtual 42, 3) := by decide +kernel
theorem dX3_layAlone_7 : decode cX3_layAlone 7 = .ok (.aload_n 0, 1) := by decide +kernel
theorem dX3_layAlone_8 : decode cX3_layAlone 8 = .ok (.getfield 11, 3) := by decide +kernel
theorem dX3_layAlone_11 : decode cX3_layAlone 11 = .ok (.iconst 0, 1) := by decide +kernel
theorem dX3_layAlone_12 : decode cX3_layAlone 12 = .ok (.aaload, 1) := by decide +kernel
theorem dX3_layAlone_13 : decode cX3_layAlone 13 = .ok (.iload_n 1, 1) := by decide +kernel
theorem dX3_layAlone_14 : decode cX3_layAlone 14 = .ok (.bipush 30, 2) := by decide +kernel
theorem dX3_layAlone_16 : decode cX3_layAlone 16 = .ok (.iload_n 2, 1) := by decide +kernel
theorem dX3_layAlone_17 : decode cX3_layAlone 17 = .ok (.iload_n 3, 1) := by decide +kernel
theorem dX3_layAlone_18 : decode cX3_layAlone 18 = .ok (.invokevirtual 69, 3) := by decide +kernel
theorem dX3_layAlone_21 : decode cX3_layAlone 21 = .ok (.aload_n 0, 1) := by decide +kernel
theorem dX3_layAlone_22 : decode cX3_layAlone 22 = .ok (.getfield 19, 3) := by decide +kernel
theorem dX3_layAlone_25 : decode cX3_layAlone 25 = .ok (.iconst 0, 1) := by decide +kernel
theorem dX3_layAlone_26 : decode cX3_layAlone 26 = .ok (.aaload, 1) := by decide +kernel
theorem dX3_layAlone_27 : decode cX3_layAlone 27 = .ok (.iconst 0, 1) := by decide +kernel
theorem dX3_layAlone_28 : decode cX3_layAlone 28 = .ok (.iconst 0, 1) := by decide +kernel
theorem dX3_layAlone_29 : decode cX3_layAlone 29 = .ok (.iload 4, 2) := by decide +kernel
theorem dX3_layAlone_31 : decode cX3_layAlone 31 = .ok (.invokevirtual 76, 3) := by decide +kernel
theorem dX3_layAlone_34 : decode cX3_layAlone 34 = .ok (.aload_n 0, 1) := by decide +kernel
theorem dX3_layAlone_35 : decode cX3_layAlone 35 = .ok (.getfield 23, 3) := by decide +kernel
theorem dX3_layAlone_38 : decode cX3_layAlone 38 = .ok (.iconst 0, 1) := by decide +kernel
theorem dX3_layAlone_39 : decode cX3_layAlone 39 = .ok (.sipush 201, 3) := by decide +kernel
theorem dX3_layAlone_42 : decode cX3_layAlone 42 = .ok (.iastore, 1) := by decide +kernel
theorem dX3_layAlone_43 : decode cX3_layAlone 43 = .ok (.return_, 1) := by decide +kernel
theorem dX3_layRules_0 : decode cX3_layRules 0 = .ok (.aload_n 0, 1) := by decide +kernel
theorem dX3_layRules_1 : decode cX3_layRules 1 = .ok (.iload_n 1, 1) := by decide +kernel
theorem dX3_layRules_2 : decode cX3_layRules 2 = .ok (.putfield 53, 3) := by decide +kernel
theorem dX3_layRules_5 : decode cX3_layRules 5 = .ok (.aload_n 0, 1) := by decide +kernel
theorem dX3_layRules_6 : decode cX3_layRules 6 = .ok (.iload_n 2, 1) := by decide +kernel
theorem dX3_layRules_7 : decode cX3_layRules 7 = .ok (.putfield 62, 3) := by decide +kernel
theorem dX3_layRules_10 : decode cX3_layRules 10 = .ok (.aload_n 0, 1) := by decide +kernel
theorem dX3_layRules_11 : decode cX3_layRules 11 = .ok (.iload_n 3, 1) := by decide +kernel
theorem dX3_layRules_12 : decode cX3_layRules 12 = .ok (.putfield 59, 3) := by decide +kernel
theorem dX3_layRules_15 : decode cX3_layRules 15 = .ok (.aload_n 0, 1) := by decide +kernel
theorem dX3_layRules_16 : decode cX3_layRules 16 = .ok (.iconst 0, 1) := by decide +kernel
theorem dX3_layRules_17 : decode cX3_layRules 17 = .ok (.putfield 46, 3) := by decide +kernel
theorem dX3_layRules_20 : decode cX3_layRules 20 = .ok (.aload_n 0, 1) := by decide +kernel
theorem dX3_layRules_21 : decode cX3_layRules 21 = .ok (.iconst 0, 1) := by decide +kernel
theorem dX3_layRules_22 : decode cX3_layRules 22 = .ok (.putfield 50, 3) := by decide +kernel
theorem dX3_layRules_25 : decode cX3_layRules 25 = .ok (.aload_n 0, 1) := by decide +kernel
theorem dX3_layRules_26 : decode cX3_layRules 26 = .ok (.iconst 0, 1) := by decide +kernel
theorem dX3_layRules_27 : decode cX3_layRules 27 = .ok (.putfield 78, 3) := by decide +kernel
theorem dX3_layRules_30 : decode cX3_layRules 30 = .ok (.aload_n 0, 1) := by decide +kernel
theorem dX3_layRules_31 : decode cX3_layRules 31 = .ok (.iconst 0, 1) := by decide +kernel
theorem dX3_layRules_32 : decode cX3_layRules 32 = .ok (.putfield 81, 3) := by decide +kernel
theorem dX3_layRules_35 : decode cX3_layRules 35 = .ok (.aload_n 0, 1) := by decide +kernel
theorem dX3_layRules_36 : decode cX3_layRules 36 = .ok (.iconst 0, 1) := by decide +kernel
theorem dX3_layRules_37 : decode cX3_layRules 37 = .ok (.putfield 84, 3) := by decide +kernel
theorem dX3_layRules_40 : decode cX3_layRules 40 = .ok (.iconst 0, 1) := by decide +kernel
theorem dX3_layRules_41 : decode cX3_layRules 41 = .ok (.istore 4, 2) := by decide +kernel
theorem dX3_layRules_43 : decode cX3_layRules 43 = .ok (.iload 4, 2) := by decide +kernel
theorem dX3_layRules_45 : decode cX3_layRules 45 = .ok (.aload_n 0, 1) := by decide +kernel
theorem dX3_layRules_46 : decode cX3_layRules 46 = .ok (.getfield 23, 3) := by decide +kernel
theorem dX3_layRules_49 : decode cX3_layRules 49 = .ok (.arraylength, 1) := by decide +kernel
theorem dX3_layRules_50 : decode cX3_layRules 50 = .ok (.if_icmp .ge 17, 3) := by decide +kernel
theorem dX3_layRules_53 : decode cX3_layRules 53 = .ok (.aload_n 0, 1) := by decide +kernel
theorem dX3_layRules_54 : decode cX3_layRules 54 = .ok (.getfield 23, 3) := by decide +kernel
theorem dX3_layRules_57 : decode cX3_layRules 57 = .ok (.iload 4, 2) := by decide +kernel
theorem dX3_layRules_59 : decode cX3_layRules 59 = .ok (.iconst 0, 1) := by decide +kernel
theorem dX3_layRules_60 : decode cX3_layRules 60 = .ok (.iastore, 1) := by decide +kernel
theorem dX3_layRules_61 : decode cX3_layRules 61 = .ok (.iinc 4 1, 3) := by decide +kernel
theorem dX3_layRules_64 : decode cX3_layRules 64 = .ok (.goto (-21), 3) := by decide +kernel
theorem dX3_layRules_67 : decode cX3_layRules 67 = .ok (.return_, 1) := by decide +kernel
theorem qxX3_copy_0 : ∀ w ∈ (((((wsX3_copy_r1 ++ (wsX3_copy_r2 ++ wsX3_copy_r3)) ++ wsX30) ++ wsX20) ++ wsX10) ++ wsX00), w ∈ wsX3_copy := fun w h => List.mem_cons_of_mem _ h
theorem qxX3_copy_1 : ∀ w ∈ ((((wsX3_copy_r1 ++ (wsX3_copy_r2 ++ wsX3_copy_r3)) ++ wsX30) ++ wsX20) ++ wsX10), w ∈ wsX3_copy := in_l qxX3_copy_0
theorem qxX3_copy_2 : ∀ w ∈ wsX00, w ∈ wsX3_copy := in_r qxX3_copy_0
theorem qxX3_copy_3 : ∀ w ∈ (((wsX3_copy_r1 ++ (wsX3_copy_r2 ++ wsX3_copy_r3)) ++ wsX30) ++ wsX20), w ∈ wsX3_copy := in_l qxX3_copy_1
theorem qxX3_copy_4 : ∀ w ∈ wsX10, w ∈ wsX3_copy := in_r qxX3_copy_1
theorem qxX3_copy_5 : ∀ w ∈ ((wsX3_copy_r1 ++ (wsX3_copy_r2 ++ wsX3_copy_r3)) ++ wsX30), w ∈ wsX3_copy := in_l qxX3_copy_3
theorem qxX3_copy_6 : ∀ w ∈ wsX20, w ∈ wsX3_copy := in_r qxX3_copy_3
theorem qxX3_copy_7 : ∀ w ∈ (wsX3_copy_r1 ++ (wsX3_copy_r2 ++ wsX3_copy_r3)), w ∈ wsX3_copy := in_l qxX3_copy_5
theorem qxX3_copy_8 : ∀ w ∈ wsX30, w ∈ wsX3_copy := in_r qxX3_copy_5
theorem qxX3_copy_9 : ∀ w ∈ wsX3_copy_r1, w ∈ wsX3_copy := in_l qxX3_copy_7
theorem qxX3_copy_10 : ∀ w ∈ (wsX3_copy_r2 ++ wsX3_copy_r3), w ∈ wsX3_copy := in_r qxX3_copy_7
theorem qxX3_copy_11 : ∀ w ∈ wsX3_copy_r2, w ∈ wsX3_copy := in_l qxX3_copy_10
theorem qxX3_copy_12 : ∀ w ∈ wsX3_copy_r3, w ∈ wsX3_copy := in_r qxX3_copy_10
def pxX3_copy : List (List Cond) := [wsX3_copy_r1, wsX3_copy_r2, wsX3_copy_r3, wsX30, wsX20, wsX10, wsX00]
theorem pxX3_copy_in : ∀ q ∈ pxX3_copy, ∀ w ∈ q, w ∈ wsX3_copy := lp_c qxX3_copy_9 (lp_c qxX3_copy_11 (lp_c qxX3_copy_12 (lp_c qxX3_copy_8 (lp_c qxX3_copy_6 (lp_c qxX3_copy_4 (lp_c qxX3_copy_2 (lp_n)))))))
set_option maxRecDepth 20000 in
theorem ggX3_copy_X2_copy : GoodIn wsX3_copy wsX2_copy := goodIn_pp pxX3_copy pxX3_copy_in _ [(0, 19), (0, 20), (0, 21), (0, 22), (0, 23), (1, 0), (1, 1), (1, 2), (1, 3), (0, 12), (0, 13), (0, 14), (1, 4), (1, 5), (1, 6), (1, 7), (1, 8), (1, 9), (1, 10), (1, 11), (1, 12), (1, 13), (1, 14), (1, 15), (1, 16), (1, 17), (1, 18), (4, 0), (4, 1), (4, 2), (4, 3), (4, 4), (4, 5), (4, 6), (4, 7), (4, 8), (4, 9), (5, 0), (5, 1), (5, 2), (5, 3), (5, 4), (5, 5), (5, 6)] rfl (by decide +kernel)
set_option maxRecDepth 20000 in
theorem gX3_copy_X2_copy : GoodIn wsX3_copy (wsV RX3 87 RX2 yX2_copy wsX2_copy) := goodIn_app (goodIn_of _ (by decide +kernel)) ggX3_copy_X2_copy
set_option maxRecDepth 20000 in
theorem ggX3_copy_X0_copy : GoodIn wsX3_copy wsX0_copy := goodIn_r _ [48, 49, 50, 51, 52, 53, 54, 55, 56, 85, 86, 87, 88, 89, 90, 91, 92] (by decide +kernel) (by decide +kernel)
set_option maxRecDepth 20000 in
theorem gX3_copy_X0_copy : GoodIn wsX3_copy (wsV RX3 91 RX0 yX0_copy wsX0_copy) := goodIn_app (goodIn_of _ (by decide +kernel)) ggX3_copy_X0_copy
theorem dX3_copy_0 : decode cX3_copy 0 = .ok (.aload_n 0, 1) := by decide +kernel
theorem dX3_copy_1 : decode cX3_copy 1 = .ok (.aload_n 1, 1) := by decide +kernel
theorem dX3_copy_2 : decode cX3_copy 2 = .ok (.getfield 53, 3) := by decide +kernel
theorem dX3_copy_5 : decode cX3_copy 5 = .ok (.putfield 53, 3) := by decide +kernel
theorem dX3_copy_8 : decode cX3_copy 8 = .ok (.aload_n 0, 1) := by decide +kernel
theorem dX3_copy_9 : decode cX3_copy 9 = .ok (.aload_n 1, 1) := by decide +kernel
theorem dX3_copy_10 : decode cX3_copy 10 = .ok (.getfield 62, 3) := by decide +kernel
theorem dX3_copy_13 : decode cX3_copy 13 = .ok (.putfield 62, 3) := by decide +kernel
theorem dX3_copy_16 : decode cX3_copy 16 = .ok (.aload_n 0, 1) := by decide +kernel
theorem dX3_copy_17 : decode cX3_copy 17 = .ok (.aload_n 1, 1) := by decide +kernel
theorem dX3_copy_18 : decode cX3_copy 18 = .ok (.getfield 59, 3) := by decide +kernel
theorem dX3_copy_21 : decode cX3_copy 21 = .ok (.putfield 59, 3) := by decide +kernel
theorem dX3_copy_24 : decode cX3_copy 24 = .ok (.aload_n 0, 1) := by decide +kernel
theorem dX3_copy_25 : decode cX3_copy 25 = .ok (.aload_n 1, 1) := by decide +kernel
theorem dX3_copy_26 : decode cX3_copy 26 = .ok (.getfield 46, 3) := by decide +kernel
theorem dX3_copy_29 : decode cX3_copy 29 = .ok (.putfield 46, 3) := by decide +kernel
theorem dX3_copy_32 : decode cX3_copy 32 = .ok (.aload_n 0, 1) := by decide +kernel
theorem dX3_copy_33 : decode cX3_copy 33 = .ok (.aload_n 1, 1) := by decide +kernel
theorem dX3_copy_34 : decode cX3_copy 34 = .ok (.getfield 50, 3) := by decide +kernel
theorem dX3_copy_37 : decode cX3_copy 37 = .ok (.putfield 50, 3) := by decide +kernel
theorem dX3_copy_40 : decode cX3_copy 40 = .ok (.aload_n 0, 1) := by decide +kernel
theorem dX3_copy_41 : decode cX3_copy 41 = .ok (.aload_n 1, 1) := by decide +kernel
theorem dX3_copy_42 : decode cX3_copy 42 = .ok (.getfield 78, 3) := by decide +kernel
theorem dX3_copy_45 : decode cX3_copy 45 = .ok (.putfield 78, 3) := by decide +kernel
theorem dX3_copy_48 : decode cX3_copy 48 = .ok (.aload_n 0, 1) := by decide +kernel
theorem dX3_copy_49 : decode cX3_copy 49 = .ok (.aload_n 1, 1) := by decide +kernel
theorem dX3_copy_50 : decode cX3_copy 50 = .ok (.getfield 81, 3) := by decide +kernel
theorem dX3_copy_53 : decode cX3_copy 53 = .ok (.putfield 81, 3) := by decide +kernel
theorem dX3_copy_56 : decode cX3_copy 56 = .ok (.aload_n 0, 1) := by decide +kernel
theorem dX3_copy_57 : decode cX3_copy 57 = .ok (.aload_n 1, 1) := by decide +kernel
theorem dX3_copy_58 : decode cX3_copy 58 = .ok (.getfield 84, 3) := by decide +kernel
theorem dX3_copy_61 : decode cX3_copy 61 = .ok (.putfield 84, 3) := by decide +kernel
theorem dX3_copy_64 : decode cX3_copy 64 = .ok (.iconst 0, 1) := by decide +kernel
theorem dX3_copy_65 : decode cX3_copy 65 = .ok (.istore_n 2, 1) := by decide +kernel
theorem dX3_copy_66 : decode cX3_copy 66 = .ok (.iload_n 2, 1) := by decide +kernel
theorem dX3_copy_67 : decode cX3_copy 67 = .ok (.aload_n 0, 1) := by decide +kernel
theorem dX3_copy_68 : decode cX3_copy 68 = .ok (.getfield 53, 3) := by decide +kernel
theorem dX3_copy_71 : decode cX3_copy 71 = .ok (.if_icmp .ge 24, 3) := by decide +kernel
theorem dX3_copy_74 : decode cX3_copy 74 = .ok (.aload_n 0, 1) := by decide +kernel
theorem dX3_copy_75 : decode cX3_copy 75 = .ok (.getfield 11, 3) := by decide +kernel
theorem dX3_copy_78 : decode cX3_copy 78 = .ok (.iload_n 2, 1) := by decide +kernel
theorem dX3_copy_79 : decode cX3_copy 79 = .ok (.aaload, 1) := by decide +kernel
theorem dX3_copy_80 : decode cX3_copy 80 = .ok (.aload_n 1, 1) := by decide +kernel
theorem dX3_copy_81 : decode cX3_copy 81 = .ok (.getfield 11, 3) := by decide +kernel
theorem dX3_copy_84 : decode cX3_copy 84 = .ok (.iload_n 2, 1) := by decide +kernel
theorem dX3_copy_85 : decode cX3_copy 85 = .ok (.aaload, 1) := by decide +kernel
theorem dX3_copy_86 : decode cX3_copy 86 = .ok (.invokevirtual 87, 3) := by decide +kernel
theorem dX3_copy_89 : decode cX3_copy 89 = .ok (.iinc 2 1, 3) := by decide +kernel
theorem dX3_copy_92 : decode cX3_copy 92 = .ok (.goto (-26), 3) := by decide +kernel
theorem dX3_copy_95 : decode cX3_copy 95 = .ok (.iconst 0, 1) := by decide +kernel
theorem dX3_copy_96 : decode cX3_copy 96 = .ok (.istore_n 2, 1) := by decide +kernel
theorem dX3_copy_97 : decode cX3_copy 97 = .ok (.iload_n 2, 1) := by decide +kernel
theorem dX3_copy_98 : decode cX3_copy 98 = .ok (.aload_n 0, 1) := by decide +kernel
theorem dX3_copy_99 : decode cX3_copy 99 = .ok (.getfield 62, 3) := by decide +kernel
theorem dX3_copy_102 : decode cX3_copy 102 = .ok (.if_icmp .ge 24, 3) := by decide +kernel
theorem dX3_copy_105 : decode cX3_copy 105 = .ok (.aload_n 0, 1) := by decide +kernel
theorem dX3_copy_106 : decode cX3_copy 106 = .ok (.getfield 19, 3) := by decide +kernel
theorem dX3_copy_109 : decode cX3_copy 109 = .ok (.iload_n 2, 1) := by decide +kernel
theorem dX3_copy_110 : decode cX3_copy 110 = .ok (.aaload, 1) := by decide +kernel
theorem dX3_copy_111 : decode cX3_copy 111 = .ok (.aload_n 1, 1) := by decide +kernel
theorem dX3_copy_112 : decode cX3_copy 112 = .ok (.getfield 19, 3) := by decide +kernel
theorem dX3_copy_115 : decode cX3_copy 115 = .ok (.iload_n 2, 1) := by decide +kernel
theorem dX3_copy_116 : decode cX3_copy 116 = .ok (.aaload, 1) := by decide +kernel
theorem dX3_copy_117 : decode cX3_copy 117 = .ok (.invokevirtual 91, 3) := by decide +kernel
theorem dX3_copy_120 : decode cX3_copy 120 = .ok (.iinc 2 1, 3) := by decide +kernel
theorem dX3_copy_123 : decode cX3_copy 123 = .ok (.goto (-26), 3) := by decide +kernel
theorem dX3_copy_126 : decode cX3_copy 126 = .ok (.aload_n 1, 1) := by decide +kernel
theorem dX3_copy_127 : decode cX3_copy 127 = .ok (.getfield 23, 3) := by decide +kernel
theorem dX3_copy_130 : decode cX3_copy 130 = .ok (.iconst 0, 1) := by decide +kernel
theorem dX3_copy_131 : decode cX3_copy 131 = .ok (.aload_n 0, 1) := by decide +kernel
theorem dX3_copy_132 : decode cX3_copy 132 = .ok (.getfield 23, 3) := by decide +kernel
theorem dX3_copy_135 : decode cX3_copy 135 = .ok (.iconst 0, 1) := by decide +kernel
theorem dX3_copy_136 : decode cX3_copy 136 = .ok (.aload_n 0, 1) := by decide +kernel
theorem dX3_copy_137 : decode cX3_copy 137 = .ok (.getfield 23, 3) := by decide +kernel
theorem dX3_copy_140 : decode cX3_copy 140 = .ok (.arraylength, 1) := by decide +kernel
theorem dX3_copy_141 : decode cX3_copy 141 = .ok (.invokestatic 94, 3) := by decide +kernel
theorem dX3_copy_144 : decode cX3_copy 144 = .ok (.return_, 1) := by decide +kernel
theorem qxX3_steps_0 : ∀ w ∈ (((((wsX3_steps_r1 ++ (wsX3_steps_r2 ++ (wsX3_steps_r3 ++ (wsX3_steps_r4 ++ (wsX3_steps_r5 ++ wsX3_steps_r6))))) ++ wsX30) ++ wsX20) ++ wsX10) ++ wsX00), w ∈ wsX3_steps := fun w h => List.mem_cons_of_mem _ h
theorem qxX3_steps_1 : ∀ w ∈ ((((wsX3_steps_r1 ++ (wsX3_steps_r2 ++ (wsX3_steps_r3 ++ (wsX3_steps_r4 ++ (wsX3_steps_r5 ++ wsX3_steps_r6))))) ++ wsX30) ++ wsX20) ++ wsX10), w ∈ wsX3_steps := in_l qxX3_steps_0
theorem qxX3_steps_2 : ∀ w ∈ wsX00, w ∈ wsX3_steps := in_r qxX3_steps_0
theorem qxX3_steps_3 : ∀ w ∈ (((wsX3_steps_r1 ++ (wsX3_steps_r2 ++ (wsX3_steps_r3 ++ (wsX3_steps_r4 ++ (wsX3_steps_r5 ++ wsX3_steps_r6))))) ++ wsX30) ++ wsX20), w ∈ wsX3_steps := in_l qxX3_steps_1
theorem qxX3_steps_4 : ∀ w ∈ wsX10, w ∈ wsX3_steps := in_r qxX3_steps_1
theorem qxX3_steps_5 : ∀ w ∈ ((wsX3_steps_r1 ++ (wsX3_steps_r2 ++ (wsX3_steps_r3 ++ (wsX3_steps_r4 ++ (wsX3_steps_r5 ++ wsX3_steps_r6))))) ++ wsX30), w ∈ wsX3_steps := in_l qxX3_steps_3
theorem qxX3_steps_6 : ∀ w ∈ wsX20, w ∈ wsX3_steps := in_r qxX3_steps_3
theorem qxX3_steps_7 : ∀ w ∈ (wsX3_steps_r1 ++ (wsX3_steps_r2 ++ (wsX3_steps_r3 ++ (wsX3_steps_r4 ++ (wsX3_steps_r5 ++ wsX3_steps_r6))))), w ∈ wsX3_steps := in_l qxX3_steps_5
theorem qxX3_steps_8 : ∀ w ∈ wsX30, w ∈ wsX3_steps := in_r qxX3_steps_5
theorem qxX3_steps_9 : ∀ w ∈ wsX3_steps_r1, w ∈ wsX3_steps := in_l qxX3_steps_7
theorem qxX3_steps_10 : ∀ w ∈ (wsX3_steps_r2 ++ (wsX3_steps_r3 ++ (wsX3_steps_r4 ++ (wsX3_steps_r5 ++ wsX3_steps_r6)))), w ∈ wsX3_steps := in_r qxX3_steps_7
theorem qxX3_steps_11 : ∀ w ∈ wsX3_steps_r2, w ∈ wsX3_steps := in_l qxX3_steps_10
theorem qxX3_steps_12 : ∀ w ∈ (wsX3_steps_r3 ++ (wsX3_steps_r4 ++ (wsX3_steps_r5 ++ wsX3_steps_r6))), w ∈ wsX3_steps := in_r qxX3_steps_10
theorem qxX3_steps_13 : ∀ w ∈ wsX3_steps_r3, w ∈ wsX3_steps := in_l qxX3_steps_12
theorem qxX3_steps_14 : ∀ w ∈ (wsX3_steps_r4 ++ (wsX3_steps_r5 ++ wsX3_steps_r6)), w ∈ wsX3_steps := in_r qxX3_steps_12
theorem qxX3_steps_15 : ∀ w ∈ wsX3_steps_r4, w ∈ wsX3_steps := in_l qxX3_steps_14
theorem qxX3_steps_16 : ∀ w ∈ (wsX3_steps_r5 ++ wsX3_steps_r6), w ∈ wsX3_steps := in_r qxX3_steps_14
theorem qxX3_steps_17 : ∀ w ∈ wsX3_steps_r5, w ∈ wsX3_steps := in_l qxX3_steps_16
theorem qxX3_steps_18 : ∀ w ∈ wsX3_steps_r6, w ∈ wsX3_steps := in_r qxX3_steps_16
def pxX3_steps : List (List Cond) := [wsX3_steps_r1, wsX3_steps_r2, wsX3_steps_r3, wsX3_steps_r4, wsX3_steps_r5, wsX3_steps_r6, wsX30, wsX20, wsX10, wsX00]
theorem pxX3_steps_in : ∀ q ∈ pxX3_steps, ∀ w ∈ q, w ∈ wsX3_steps := lp_c qxX3_steps_9 (lp_c qxX3_steps_11 (lp_c qxX3_steps_13 (lp_c qxX3_steps_15 (lp_c qxX3_steps_17 (lp_c qxX3_steps_18 (lp_c qxX3_steps_8 (lp_c qxX3_steps_6 (lp_c qxX3_steps_4 (lp_c qxX3_steps_2 (lp_n))))))))))
set_option maxRecDepth 20000 in
theorem ggX3_steps_X3_step : GoodIn wsX3_steps wsX3_step := goodIn_pp pxX3_steps pxX3_steps_in _ [(0, 4), (0, 5), (0, 6), (0, 7), (0, 8), (0, 9), (0, 10), (0, 11), (0, 12), (0, 3), (0, 13), (0, 14), (0, 15), (0, 16), (0, 17), (0, 18), (0, 19), (0, 20), (0, 21), (0, 22), (0, 23), (1, 0), (1, 1), (1, 2), (1, 3), (1, 4), (1, 5), (1, 6), (1, 7), (1, 8), (1, 9), (1, 10), (1, 11), (1, 12), (1, 13), (1, 14), (1, 15), (1, 16), (1, 17), (1, 18), (1, 19), (1, 20), (1, 21), (1, 22), (1, 23), (2, 0), (2, 1), (2, 2), (2, 3), (2, 4), (2, 5), (2, 6), (2, 7), (2, 8), (2, 9), (2, 10), (2, 11), (2, 12), (2, 13), (2, 14), (2, 15), (2, 16), (2, 17), (2, 18), (2, 19), (2, 20), (2, 21), (2, 22), (2, 23), (3, 0), (3, 1), (3, 2), (3, 3), (3, 4), (3, 5), (3, 6), (3, 7), (3, 8), (3, 9), (3, 10), (3, 11), (3, 12), (3, 13), (3, 14), (3, 15), (3, 16), (3, 17), (3, 18), (3, 19), (3, 20), (3, 21), (3, 22), (3, 23), (4, 0), (4, 1), (4, 2), (4, 3), (4, 4), (4, 5), (4, 6), (4, 7), (4, 8), (4, 9), (4, 10), (4, 11), (4, 12), (4, 13), (4, 14), (4, 15), (4, 16), (4, 17), (4, 18), (4, 19), (4, 20), (4, 21), (4, 22), (4, 23), (5, 0), (5, 1), (5, 2), (5, 3), (5, 4), (5, 5), (5, 6), (5, 7), (5, 8), (5, 9), (5, 10), (5, 11), (5, 12), (5, 13), (5, 14), (6, 0), (6, 1), (6, 2), (6, 3), (6, 4), (6, 5), (6, 6), (6, 7), (6, 8), (6, 9), (6, 10), (7, 0), (7, 1), (7, 2), (7, 3), (7, 4), (7, 5), (7, 6), (7, 7), (7, 8), (7, 9), (8, 0), (8, 1), (8, 2), (8, 3), (8, 4), (8, 5), (8, 6), (9, 0), (9, 1), (9, 2), (9, 3), (9, 4), (9, 5), (9, 6), (9, 7)] rfl (by decide +kernel)
set_option maxRecDepth 20000 in
theorem gX3_steps_X3_step : GoodIn wsX3_steps (wsV RX3 100 RX3 yX3_step wsX3_step) := goodIn_app (goodIn_of _ (by decide +kernel)) ggX3_steps_X3_step
theorem dX3_steps_0 : decode cX3_steps 0 = .ok (.iconst 0, 1) := by decide +kernel
theorem dX3_steps_1 : decode cX3_steps 1 = .ok (.istore_n 2, 1) := by decide +kernel
theorem dX3_steps_2 : decode cX3_steps 2 = .ok (.iload_n 2, 1) := by decide +kernel
theorem dX3_steps_3 : decode cX3_steps 3 = .ok (.iload_n 1, 1) := by decide +kernel
theorem dX3_steps_4 : decode cX3_steps 4 = .ok (.if_icmp .ge 13, 3) := by decide +kernel
theorem dX3_steps_7 : decode cX3_steps 7 = .ok (.aload_n 0, 1) := by decide +kernel
theorem dX3_steps_8 : decode cX3_steps 8 = .ok (.invokevirtual 100, 3) := by decide +kernel
theorem dX3_steps_11 : decode cX3_steps 11 = .ok (.iinc 2 1, 3) := by decide +kernel
theorem dX3_steps_14 : decode cX3_steps 14 = .ok (.goto (-12), 3) := by decide +kernel
theorem dX3_steps_17 : decode cX3_steps 17 = .ok (.return_, 1) := by decide +kernel
theorem qxX3_step_0 : ∀ w ∈ (((((wsX3_step_r1 ++ (wsX3_step_r2 ++ (wsX3_step_r3 ++ (wsX3_step_r4 ++ (wsX3_step_r5 ++ wsX3_step_r6))))) ++ wsX30) ++ wsX20) ++ wsX10) ++ wsX00), w ∈ wsX3_step := fun w h => List.mem_cons_of_mem _ h
theorem qxX3_step_1 : ∀ w ∈ ((((wsX3_step_r1 ++ (wsX3_step_r2 ++ (wsX3_step_r3 ++ (wsX3_step_r4 ++ (wsX3_step_r5 ++ wsX3_step_r6))))) ++ wsX30) ++ wsX20) ++ wsX10), w ∈ wsX3_step := in_l qxX3_step_0
theorem qxX3_step_2 : ∀ w ∈ wsX00, w ∈ wsX3_step := in_r qxX3_step_0
theorem qxX3_step_3 : ∀ w ∈ (((wsX3_step_r1 ++ (wsX3_step_r2 ++ (wsX3_step_r3 ++ (wsX3_step_r4 ++ (wsX3_step_r5 ++ wsX3_step_r6))))) ++ wsX30) ++ wsX20), w ∈ wsX3_step := in_l qxX3_step_1
theorem qxX3_step_4 : ∀ w ∈ wsX10, w ∈ wsX3_step := in_r qxX3_step_1
theorem qxX3_step_5 : ∀ w ∈ ((wsX3_step_r1 ++ (wsX3_step_r2 ++ (wsX3_step_r3 ++ (wsX3_step_r4 ++ (wsX3_step_r5 ++ wsX3_step_r6))))) ++ wsX30), w ∈ wsX3_step := in_l qxX3_step_3
theorem qxX3_step_6 : ∀ w ∈ wsX20, w ∈ wsX3_step := in_r qxX3_step_3
theorem qxX3_step_7 : ∀ w ∈ (wsX3_step_r1 ++ (wsX3_step_r2 ++ (wsX3_step_r3 ++ (wsX3_step_r4 ++ (wsX3_step_r5 ++ wsX3_step_r6))))), w ∈ wsX3_step := in_l qxX3_step_5
theorem qxX3_step_8 : ∀ w ∈ wsX30, w ∈ wsX3_step := in_r qxX3_step_5
theorem qxX3_step_9 : ∀ w ∈ wsX3_step_r1, w ∈ wsX3_step := in_l qxX3_step_7
theorem qxX3_step_10 : ∀ w ∈ (wsX3_step_r2 ++ (wsX3_step_r3 ++ (wsX3_step_r4 ++ (wsX3_step_r5 ++ wsX3_step_r6)))), w ∈ wsX3_step := in_r qxX3_step_7
theorem qxX3_step_11 : ∀ w ∈ wsX3_step_r2, w ∈ wsX3_step := in_l qxX3_step_10
theorem qxX3_step_12 : ∀ w ∈ (wsX3_step_r3 ++ (wsX3_step_r4 ++ (wsX3_step_r5 ++ wsX3_step_r6))), w ∈ wsX3_step := in_r qxX3_step_10
theorem qxX3_step_13 : ∀ w ∈ wsX3_step_r3, w ∈ wsX3_step := in_l qxX3_step_12
theorem qxX3_step_14 : ∀ w ∈ (wsX3_step_r4 ++ (wsX3_step_r5 ++ wsX3_step_r6)), w ∈ wsX3_step := in_r qxX3_step_12
theorem qxX3_step_15 : ∀ w ∈ wsX3_step_r4, w ∈ wsX3_step := in_l qxX3_step_14
theorem qxX3_step_16 : ∀ w ∈ (wsX3_step_r5 ++ wsX3_step_r6), w ∈ wsX3_step := in_r qxX3_step_14
theorem qxX3_step_17 : ∀ w ∈ wsX3_step_r5, w ∈ wsX3_step := in_l qxX3_step_16
theorem qxX3_step_18 : ∀ w ∈ wsX3_step_r6, w ∈ wsX3_step := in_r qxX3_step_16
def pxX3_step : List (List Cond) := [wsX3_step_r1, wsX3_step_r2, wsX3_step_r3, wsX3_step_r4, wsX3_step_r5, wsX3_step_r6, wsX30, wsX20, wsX10, wsX00]
theorem pxX3_step_in : ∀ q ∈ pxX3_step, ∀ w ∈ q, w ∈ wsX3_step := lp_c qxX3_step_9 (lp_c qxX3_step_11 (lp_c qxX3_step_13 (lp_c qxX3_step_15 (lp_c qxX3_step_17 (lp_c qxX3_step_18 (lp_c qxX3_step_8 (lp_c qxX3_step_6 (lp_c qxX3_step_4 (lp_c qxX3_step_2 (lp_n))))))))))
set_option maxRecDepth 20000 in
theorem ggX3_step_X3_arriveOver : GoodIn wsX3_step wsX3_arriveOver := goodIn_pp pxX3_step pxX3_step_in _ [(0, 9), (0, 4), (0, 3), (0, 10), (0, 11), (0, 1), (0, 12), (0, 13), (0, 14), (0, 15), (0, 16), (0, 17), (0, 18), (0, 19), (0, 20), (0, 21), (0, 22), (0, 23), (1, 0), (1, 1), (1, 2), (0, 8), (1, 3), (1, 4), (1, 5), (1, 6), (1, 7), (1, 8), (1, 9), (1, 10), (1, 11), (1, 12), (1, 13), (1, 14), (1, 15), (6, 0), (6, 1), (6, 2), (6, 3), (6, 4), (6, 5), (6, 6), (6, 7), (6, 8), (6, 9), (6, 10), (7, 0), (7, 1), (7, 2), (7, 3), (7, 4), (7, 5), (7, 6), (7, 7), (7, 8), (7, 9), (8, 0), (8, 1), (8, 2), (8, 3), (8, 4), (8, 5), (8, 6)] rfl (by decide +kernel)
set_option maxRecDepth 20000 in
theorem gX3_step_X3_arriveOver : GoodIn wsX3_step (wsV RX3 103 RX3 yX3_arriveOver wsX3_arriveOver) := goodIn_app (goodIn_of _ (by decide +kernel)) ggX3_step_X3_arriveOver
set_option maxRecDepth 20000 in
theorem ggX3_step_X3_come : GoodIn wsX3_step wsX3_come := goodIn_pp pxX3_step pxX3_step_in _ [(1, 19), (1, 20), (1, 21), (0, 3), (1, 22), (0, 11), (1, 23), (2, 0), (2, 1), (2, 2), (2, 3), (2, 4), (2, 5), (2, 6), (6, 0), (6, 1), (6, 2), (6, 3), (6, 4), (6, 5), (6, 6), (6, 7), (6, 8), (6, 9), (6, 10), (9, 0), (9, 1), (9, 2), (9, 3), (9, 4), (9, 5), (9, 6), (9, 7)] rfl (by decide +kernel)
set_option maxRecDepth 20000 in
theorem gX3_step_X3_come : GoodIn wsX3_step (wsV RX3 107 RX3 yX3_come wsX3_come) := goodIn_app (goodIn_of _ (by decide +kernel)) ggX3_step_X3_come
set_option maxRecDepth 20000 in
theorem ggX3_step_X3_take : GoodIn wsX3_step wsX3_take := goodIn_pp pxX3_step pxX3_step_in _ [(2, 10), (1, 20), (0, 0), (0, 3), (0, 11), (2, 11), (2, 12), (2, 13), (2, 14), (2, 15), (2, 3), (2, 16), (2, 17), (2, 18), (2, 19), (2, 20), (0, 8), (2, 21), (0, 4), (0, 13), (1, 7), (2, 22), (2, 23), (1, 0), (1, 1), (1, 2), (1, 3), (1, 4), (1, 5), (0, 12), (1, 6), (6, 0), (6, 1), (6, 2), (6, 3), (6, 4), (6, 5), (6, 6), (6, 7), (6, 8), (6, 9), (6, 10), (9, 0), (9, 1), (9, 2), (9, 3), (9, 4), (9, 5), (9, 6), (9, 7), (7, 0), (7, 1), (7, 2), (7, 3), (7, 4), (7, 5), (7, 6), (7, 7), (7, 8), (7, 9), (8, 0), (8, 1), (8, 2), (8, 3), (8, 4), (8, 5), (8, 6)] rfl (by decide +kernel)
set_option maxRecDepth 20000 in
theorem gX3_step_X3_take : GoodIn wsX3_step (wsV RX3 110 RX3 yX3_take wsX3_take) := goodIn_app (goodIn_of _ (by decide +kernel)) ggX3_step_X3_take
set_option maxRecDepth 20000 in
theorem ggX3_step_X3_sendOver : GoodIn wsX3_step wsX3_sendOver := goodIn_pp pxX3_step pxX3_step_in _ [(3, 3), (0, 4), (3, 4), (3, 5), (0, 10), (0, 3), (1, 6), (0, 11), (0, 13), (3, 6), (3, 7), (3, 8), (3, 9), (3, 10), (0, 8), (3, 11), (0, 1), (3, 12), (3, 13), (3, 14), (3, 15), (0, 18), (3, 16), (3, 17), (0, 20), (2, 18), (2, 19), (2, 20), (2, 21), (1, 7), (2, 22), (2, 23), (1, 0), (1, 1), (1, 2), (1, 3), (1, 4), (1, 5), (0, 12), (6, 0), (6, 1), (6, 2), (6, 3), (6, 4), (6, 5), (6, 6), (6, 7), (6, 8), (6, 9), (6, 10), (7, 0), (7, 1), (7, 2), (7, 3), (7, 4), (7, 5), (7, 6), (7, 7), (7, 8), (7, 9), (8, 0), (8, 1), (8, 2), (8, 3), (8, 4), (8, 5), (8, 6)] rfl (by decide +kernel)
set_option maxRecDepth 20000 in
theorem gX3_step_X3_sendOver : GoodIn wsX3_step (wsV RX3 113 RX3 yX3_sendOver wsX3_sendOver) := goodIn_app (goodIn_of _ (by decide +kernel)) ggX3_step_X3_sendOver
set_option maxRecDepth 20000 in
theorem ggX3_step_X3_waitAt : GoodIn wsX3_step wsX3_waitAt := goodIn_pp pxX3_step pxX3_step_in _ [(3, 21), (0, 1), (0, 4), (0, 13), (3, 22), (3, 23), (4, 0), (4, 1), (4, 2), (0, 8), (4, 3), (0, 11), (3, 12), (3, 13), (3, 14), (3, 15), (0, 18), (3, 16), (3, 17), (0, 20), (4, 4), (4, 5), (4, 6), (4, 7), (0, 14), (0, 3), (1, 6), (4, 8), (6, 0), (6, 1), (6, 2), (6, 3), (6, 4), (6, 5), (6, 6), (6, 7), (6, 8), (6, 9), (6, 10), (7, 0), (7, 1), (7, 2), (7, 3), (7, 4), (7, 5), (7, 6), (7, 7), (7, 8), (7, 9), (8, 0), (8, 1), (8, 2), (8, 3), (8, 4), (8, 5), (8, 6)] rfl (by decide +kernel)
set_option maxRecDepth 20000 in
theorem gX3_step_X3_waitAt : GoodIn wsX3_step (wsV RX3 116 RX3 yX3_waitAt wsX3_waitAt) := goodIn_app (goodIn_of _ (by decide +kernel)) ggX3_step_X3_waitAt
set_option maxRecDepth 20000 in
theorem ggX3_step_X3_adapt : GoodIn wsX3_step wsX3_adapt := goodIn_pp pxX3_step pxX3_step_in _ [(4, 12), (0, 1), (0, 13), (3, 12), (4, 13), (4, 14), (4, 15), (4, 16), (4, 17), (4, 18), (4, 19), (3, 7), (4, 20), (4, 21), (4, 22), (0, 8), (4, 23), (5, 0), (5, 1), (5, 2), (5, 3), (5, 4), (1, 11), (5, 5), (5, 6), (5, 7), (5, 8), (5, 9), (5, 10), (3, 14), (3, 15), (0, 18), (3, 16), (3, 17), (0, 20), (6, 0), (6, 1), (6, 2), (6, 3), (6, 4), (6, 5), (6, 6), (6, 7), (6, 8), (6, 9), (6, 10), (7, 0), (7, 1), (7, 2), (7, 3), (7, 4), (7, 5), (7, 6), (7, 7), (7, 8), (7, 9), (8, 0), (8, 1), (8, 2), (8, 3), (8, 4), (8, 5), (8, 6)] rfl (by decide +kernel)
set_option maxRecDepth 20000 in
theorem gX3_step_X3_adapt : GoodIn wsX3_step (wsV RX3 119 RX3 yX3_adapt wsX3_adapt) := goodIn_app (goodIn_of _ (by decide +kernel)) ggX3_step_X3_adapt
theorem dX3_step_0 : decode cX3_step 0 = .ok (.iconst 0, 1) := by decide +kernel
theorem dX3_step_1 : decode cX3_step 1 = .ok (.istore_n 1, 1) := by decide +kernel
theorem dX3_step_2 : decode cX3_step 2 = .ok (.iload_n 1, 1) := by decide +kernel
theorem dX3_step_3 : decode cX3_step 3 = .ok (.aload_n 0, 1) := by decide +kernel
theorem dX3_step_4 : decode cX3_step 4 = .ok (.getfield 53, 3) := by decide +kernel
theorem dX3_step_7 : decode cX3_step 7 = .ok (.if_icmp .ge 14, 3) := by decide +kernel
theorem dX3_step_10 : decode cX3_step 10 = .ok (.aload_n 0, 1) := by decide +kernel
theorem dX3_step_11 : decode cX3_step 11 = .ok (.iload_n 1, 1) := by decide +kernel
theorem dX3_step_12 : decode cX3_step 12 = .ok (.invokevirtual 103, 3) := by decide +kernel
theorem dX3_step_15 : decode cX3_step 15 = .ok (.iinc 1 1, 3) := by decide +kernel
theorem dX3_step_18 : decode cX3_step 18 = .ok (.goto (-16), 3) := by decide +kernel
theorem dX3_step_21 : decode cX3_step 21 = .ok (.iconst 0, 1) := by decide +kernel
theorem dX3_step_22 : decode cX3_step 22 = .ok (.istore_n 1, 1) := by decide +kernel
theorem dX3_step_23 : decode cX3_step 23 = .ok (.iload_n 1, 1) := by decide +kernel
theorem dX3_step_24 : decode cX3_step 24 = .ok (.aload_n 0, 1) := by decide +kernel
theorem dX3_step_25 : decode cX3_step 25 = .ok (.getfield 62, 3) := by decide +kernel
theorem dX3_step_28 : decode cX3_step 28 = .ok (.if_icmp .ge 14, 3) := by decide +kernel
theorem dX3_step_31 : decode cX3_step 31 = .ok (.aload_n 0, 1) := by decide +kernel
theorem dX3_step_32 : decode cX3_step 32 = .ok (.iload_n 1, 1) := by decide +kernel
theorem dX3_step_33 : decode cX3_step 33 = .ok (.invokevirtual 107, 3) := by decide +kernel
theorem dX3_step_36 : decode cX3_step 36 = .ok (.iinc 1 1, 3) := by decide +kernel
theorem dX3_step_39 : decode cX3_step 39 = .ok (.goto (-16), 3) := by decide +kernel
theorem dX3_step_42 : decode cX3_step 42 = .ok (.iconst 0, 1) := by decide +kernel
theorem dX3_step_43 : decode cX3_step 43 = .ok (.istore_n 1, 1) := by decide +kernel
theorem dX3_step_44 : decode cX3_step 44 = .ok (.iload_n 1, 1) := by decide +kernel
theorem dX3_step_45 : decode cX3_step 45 = .ok (.aload_n 0, 1) := by decide +kernel
theorem dX3_step_46 : decode cX3_step 46 = .ok (.getfield 62, 3) := by decide +kernel
theorem dX3_step_49 : decode cX3_step 49 = .ok (.if_icmp .ge 14, 3) := by decide +kernel
theorem dX3_step_52 : decode cX3_step 52 = .ok (.aload_n 0, 1) := by decide +kernel
theorem dX3_step_53 : decode cX3_step 53 = .ok (.iload_n 1, 1) := by decide +kernel
theorem dX3_step_54 : decode cX3_step 54 = .ok (.invokevirtual 110, 3) := by decide +kernel
theorem dX3_step_57 : decode cX3_step 57 = .ok (.iinc 1 1, 3) := by decide +kernel
theorem dX3_step_60 : decode cX3_step 60 = .ok (.goto (-16), 3) := by decide +kernel
theorem dX3_step_63 : decode cX3_step 63 = .ok (.aload_n 0, 1) := by decide +kernel
theorem dX3_step_64 : decode cX3_step 64 = .ok (.getfield 53, 3) := by decide +kernel
theorem dX3_step_67 : decode cX3_step 67 = .ok (.iconst 1, 1) := by decide +kernel
theorem dX3_step_68 : decode cX3_step 68 = .ok (.isub, 1) := by decide +kernel
theorem dX3_step_69 : decode cX3_step 69 = .ok (.istore_n 1, 1) := by decide +kernel
theorem dX3_step_70 : decode cX3_step 70 = .ok (.iload_n 1, 1) := by decide +kernel
theorem dX3_step_71 : decode cX3_step 71 = .ok (.ifCond .lt 19, 3) := by decide +kernel
theorem dX3_step_74 : decode cX3_step 74 = .ok (.aload_n 0, 1) := by decide +kernel
theorem dX3_step_75 : decode cX3_step 75 = .ok (.iload_n 1, 1) := by decide +kernel
theorem dX3_step_76 : decode cX3_step 76 = .ok (.invokevirtual 113, 3) := by decide +kernel
theorem dX3_step_79 : decode cX3_step 79 = .ok (.aload_n 0, 1) := by decide +kernel
theorem dX3_step_80 : decode cX3_step 80 = .ok (.iload_n 1, 1) := by decide +kernel
theorem dX3_step_81 : decode cX3_step 81 = .ok (.invokevirtual 116, 3) := by decide +kernel
theorem dX3_step_84 : decode cX3_step 84 = .ok (.iinc 1 (-1), 3) := by decide +kernel
theorem dX3_step_87 : decode cX3_step 87 = .ok (.goto (-17), 3) := by decide +kernel
theorem dX3_step_90 : decode cX3_step 90 = .ok (.aload_n 0, 1) := by decide +kernel
theorem dX3_step_91 : decode cX3_step 91 = .ok (.getfield 46, 3) := by decide +kernel
theorem dX3_step_94 : decode cX3_step 94 = .ok (.ifCond .le 43, 3) := by decide +kernel
theorem dX3_step_97 : decode cX3_step 97 = .ok (.aload_n 0, 1) := by decide +kernel
theorem dX3_step_98 : decode cX3_step 98 = .ok (.getfield 78, 3) := by decide +kernel
theorem dX3_step_101 : decode cX3_step 101 = .ok (.iconst 1, 1) := by decide +kernel
theorem dX3_step_102 : decode cX3_step 102 = .ok (.iadd, 1) := by decide +kernel
theorem dX3_step_103 : decode cX3_step 103 = .ok (.aload_n 0, 1) := by decide +kernel
theorem dX3_step_104 : decode cX3_step 104 = .ok (.getfield 46, 3) := by decide +kernel
theorem dX3_step_107 : decode cX3_step 107 = .ok (.irem, 1) := by decide +kernel
theorem dX3_step_108 : decode cX3_step 108 = .ok (.ifCond .ne 29, 3) := by decide +kernel
theorem dX3_step_111 : decode cX3_step 111 = .ok (.iconst 0, 1) := by decide +kernel
theorem dX3_step_112 : decode cX3_step 112 = .ok (.istore_n 1, 1) := by decide +kernel
theorem dX3_step_113 : decode cX3_step 113 = .ok (.iload_n 1, 1) := by decide +kernel
theorem dX3_step_114 : decode cX3_step 114 = .ok (.aload_n 0, 1) := by decide +kernel
theorem dX3_step_115 : decode cX3_step 115 = .ok (.getfield 53, 3) := by decide +kernel
theorem dX3_step_118 : decode cX3_step 118 = .ok (.if_icmp .ge 19, 3) := by decide +kernel
theorem dX3_step_121 : decode cX3_step 121 = .ok (.aload_n 0, 1) := by decide +kernel
theorem dX3_step_122 : decode cX3_step 122 = .ok (.aload_n 0, 1) := by decide +kernel
theorem dX3_step_123 : decode cX3_step 123 = .ok (.getfield 11, 3) := by decide +kernel
theorem dX3_step_126 : decode cX3_step 126 = .ok (.iload_n 1, 1) := by decide +kernel
theorem dX3_step_127 : decode cX3_step 127 = .ok (.aaload, 1) := by decide +kernel
theorem dX3_step_128 : decode cX3_step 128 = .ok (.invokevirtual 119, 3) := by decide +kernel
theorem dX3_step_131 : decode cX3_step 131 = .ok (.iinc 1 1, 3) := by decide +kernel
theorem dX3_step_134 : decode cX3_step 134 = .ok (.goto (-21), 3) := by decide +kernel
theorem dX3_step_137 : decode cX3_step 137 = .ok (.aload_n 0, 1) := by decide +kernel
theorem dX3_step_138 : decode cX3_step 138 = .ok (.dup, 1) := by decide +kernel
theorem dX3_step_139 : decode cX3_step 139 = .ok (.getfield 78, 3) := by decide +kernel
theorem dX3_step_142 : decode cX3_step 142 = .ok (.iconst 1, 1) := by decide +kernel
theorem dX3_step_143 : decode cX3_step 143 = .ok (.iadd, 1) := by decide +kernel
theorem dX3_step_144 : decode cX3_step 144 = .ok (.putfield 78, 3) := by decide +kernel
theorem dX3_step_147 : decode cX3_step 147 = .ok (.return_, 1) := by decide +kernel
theorem qxX3_restingStep_0 : ∀ w ∈ ((((wsX3_restingStep_r1 ++ (wsX3_restingStep_r2 ++ wsX3_restingStep_r3)) ++ wsX30) ++ wsX20) ++ wsX10), w ∈ wsX3_restingStep := fun w h => List.mem_cons_of_mem _ h
theorem qxX3_restingStep_1 : ∀ w ∈ (((wsX3_restingStep_r1 ++ (wsX3_restingStep_r2 ++ wsX3_restingStep_r3)) ++ wsX30) ++ wsX20), w ∈ wsX3_restingStep := in_l qxX3_restingStep_0
theorem qxX3_restingStep_2 : ∀ w ∈ wsX10, w ∈ wsX3_restingStep := in_r qxX3_restingStep_0
theorem qxX3_restingStep_3 : ∀ w ∈ ((wsX3_restingStep_r1 ++ (wsX3_restingStep_r2 ++ wsX3_restingStep_r3)) ++ wsX30), w ∈ wsX3_restingStep := in_l qxX3_restingStep_1
theorem qxX3_restingStep_4 : ∀ w ∈ wsX20, w ∈ wsX3_restingStep := in_r qxX3_restingStep_1
theorem qxX3_restingStep_5 : ∀ w ∈ (wsX3_restingStep_r1 ++ (wsX3_restingStep_r2 ++ wsX3_restingStep_r3)), w ∈ wsX3_restingStep := in_l qxX3_restingStep_3
theorem qxX3_restingStep_6 : ∀ w ∈ wsX30, w ∈ wsX3_restingStep := in_r qxX3_restingStep_3
theorem qxX3_restingStep_7 : ∀ w ∈ wsX3_restingStep_r1, w ∈ wsX3_restingStep := in_l qxX3_restingStep_5
theorem qxX3_restingStep_8 : ∀ w ∈ (wsX3_restingStep_r2 ++ wsX3_restingStep_r3), w ∈ wsX3_restingStep := in_r qxX3_restingStep_5
theorem qxX3_restingStep_9 : ∀ w ∈ wsX3_restingStep_r2, w ∈ wsX3_restingStep := in_l qxX3_restingStep_8
theorem qxX3_restingStep_10 : ∀ w ∈ wsX3_restingStep_r3, w ∈ wsX3_restingStep := in_r qxX3_restingStep_8
def pxX3_restingStep : List (List Cond) := [wsX3_restingStep_r1, wsX3_restingStep_r2, wsX3_restingStep_r3, wsX30, wsX20, wsX10]
theorem pxX3_restingStep_in : ∀ q ∈ pxX3_restingStep, ∀ w ∈ q, w ∈ wsX3_restingStep := lp_c qxX3_restingStep_7 (lp_c qxX3_restingStep_9 (lp_c qxX3_restingStep_10 (lp_c qxX3_restingStep_6 (lp_c qxX3_restingStep_4 (lp_c qxX3_restingStep_2 (lp_n))))))
set_option maxRecDepth 20000 in
theorem ggX3_restingStep_X3_arriveOver : GoodIn wsX3_restingStep wsX3_arriveOver := goodIn_pp pxX3_restingStep pxX3_restingStep_in _ [(0, 6), (0, 7), (0, 1), (0, 8), (0, 9), (0, 10), (0, 11), (0, 12), (0, 13), (0, 14), (0, 15), (0, 16), (0, 17), (0, 18), (0, 19), (0, 20), (0, 21), (0, 22), (0, 23), (1, 0), (1, 1), (0, 5), (1, 2), (1, 3), (1, 4), (1, 5), (1, 6), (1, 7), (1, 8), (1, 9), (1, 10), (1, 11), (1, 12), (1, 13), (1, 14), (3, 0), (3, 1), (3, 2), (3, 3), (3, 4), (3, 5), (3, 6), (3, 7), (3, 8), (3, 9), (3, 10), (4, 0), (4, 1), (4, 2), (4, 3), (4, 4), (4, 5), (4, 6), (4, 7), (4, 8), (4, 9), (5, 0), (5, 1), (5, 2), (5, 3), (5, 4), (5, 5), (5, 6)] rfl (by decide +kernel)
set_option maxRecDepth 20000 in
theorem gX3_restingStep_X3_arriveOver : GoodIn wsX3_restingStep (wsV RX3 103 RX3 yX3_arriveOver wsX3_arriveOver) := goodIn_app (goodIn_of _ (by decide +kernel)) ggX3_restingStep_X3_arriveOver
set_option maxRecDepth 20000 in
theorem ggX3_restingStep_X3_waitAt : GoodIn wsX3_restingStep wsX3_waitAt := goodIn_pp pxX3_restingStep pxX3_restingStep_in _ [(1, 18), (0, 10), (0, 7), (0, 12), (1, 19), (1, 20), (1, 21), (1, 22), (1, 23), (0, 5), (2, 0), (0, 9), (2, 1), (2, 2), (2, 3), (2, 4), (0, 17), (2, 5), (2, 6), (0, 19), (2, 7), (2, 8), (2, 9), (2, 10), (0, 13), (0, 1), (1, 5), (2, 11), (3, 0), (3, 1), (3, 2), (3, 3), (3, 4), (3, 5), (3, 6), (3, 7), (3, 8), (3, 9), (3, 10), (4, 0), (4, 1), (4, 2), (4, 3), (4, 4), (4, 5), (4, 6), (4, 7), (4, 8), (4, 9), (5, 0), (5, 1), (5, 2), (5, 3), (5, 4), (5, 5), (5, 6)] rfl (by decide +kernel)
set_option maxRecDepth 20000 in
theorem gX3_restingStep_X3_waitAt : GoodIn wsX3_restingStep (wsV RX3 116 RX3 yX3_waitAt wsX3_waitAt) := goodIn_app (goodIn_of _ (by decide +kernel)) ggX3_restingStep_X3_waitAt
theorem dX3_restingStep_0 : decode cX3_restingStep 0 = .ok (.iconst 0, 1) := by decide +kernel
theorem dX3_restingStep_1 : decode cX3_restingStep 1 = .ok (.istore_n 1, 1) := by decide +kernel
theorem dX3_restingStep_2 : decode cX3_restingStep 2 = .ok (.iload_n 1, 1) := by decide +kernel
theorem dX3_restingStep_3 : decode cX3_restingStep 3 = .ok (.aload_n 0, 1) := by decide +kernel
theorem dX3_restingStep_4 : decode cX3_restingStep 4 = .ok (.getfield 53, 3) := by decide +kernel
theorem dX3_restingStep_7 : decode cX3_restingStep 7 = .ok (.if_icmp .ge 14, 3) := by decide +kernel
theorem dX3_restingStep_10 : decode cX3_restingStep 10 = .ok (.aload_n 0, 1) := by decide +kernel
theorem dX3_restingStep_11 : decode cX3_restingStep 11 = .ok (.iload_n 1, 1) := by decide +kernel
theorem dX3_restingStep_12 : decode cX3_restingStep 12 = .ok (.invokevirtual 103, 3) := by decide +kernel
theorem dX3_restingStep_15 : decode cX3_restingStep 15 = .ok (.iinc 1 1, 3) := by decide +kernel
theorem dX3_restingStep_18 : decode cX3_restingStep 18 = .ok (.goto (-16), 3) := by decide +kernel
theorem dX3_restingStep_21 : decode cX3_restingStep 21 = .ok (.aload_n 0, 1) := by decide +kernel
theorem dX3_restingStep_22 : decode cX3_restingStep 22 = .ok (.getfield 53, 3) := by decide +kernel
theorem dX3_restingStep_25 : decode cX3_restingStep 25 = .ok (.iconst 1, 1) := by decide +kernel
theorem dX3_restingStep_26 : decode cX3_restingStep 26 = .ok (.isub, 1) := by decide +kernel
theorem dX3_restingStep_27 : decode cX3_restingStep 27 = .ok (.istore_n 1, 1) := by decide +kernel
theorem dX3_restingStep_28 : decode cX3_restingStep 28 = .ok (.iload_n 1, 1) := by decide +kernel
theorem dX3_restingStep_29 : decode cX3_restingStep 29 = .ok (.ifCond .lt 14, 3) := by decide +kernel
theorem dX3_restingStep_32 : decode cX3_restingStep 32 = .ok (.aload_n 0, 1) := by decide +kernel
theorem dX3_restingStep_33 : decode cX3_restingStep 33 = .ok (.iload_n 1, 1) := by decide +kernel
theorem dX3_restingStep_34 : decode cX3_restingStep 34 = .ok (.invokevirtual 116, 3) := by decide +kernel
theorem dX3_restingStep_37 : decode cX3_restingStep 37 = .ok (.iinc 1 (-1), 3) := by decide +kernel
theorem dX3_restingStep_40 : decode cX3_restingStep 40 = .ok (.goto (-12), 3) := by decide +kernel
theorem dX3_restingStep_43 : decode cX3_restingStep 43 = .ok (.aload_n 0, 1) := by decide +kernel
theorem dX3_restingStep_44 : decode cX3_restingStep 44 = .ok (.dup, 1) := by decide +kernel
theorem dX3_restingStep_45 : decode cX3_restingStep 45 = .ok (.getfield 78, 3) := by decide +kernel
theorem dX3_restingStep_48 : decode cX3_restingStep 48 = .ok (.iconst 1, 1) := by decide +kernel
theorem dX3_restingStep_49 : decode cX3_restingStep 49 = .ok (.iadd, 1) := by decide +kernel
theorem dX3_restingStep_50 : decode cX3_restingStep 50 = .ok (.putfield 78, 3) := by decide +kernel
theorem dX3_restingStep_53 : decode cX3_restingStep 53 = .ok (.return_, 1) := by decide +kernel
set_option maxRecDepth 20000 in
theorem ggX3_arriveOver_X1_hear : GoodIn wsX3_arriveOver wsX1_hear := goodIn_r _ [13, 14, 15, 16, 17, 56, 57, 58, 59, 60, 61, 62] (by decide +kernel) (by decide +kernel)
set_option maxRecDepth 20000 in
theorem gX3_arriveOver_X1_hear : GoodIn wsX3_arriveOver (wsV RX3 132 RX1 yX1_hear wsX1_hear) := goodIn_app (goodIn_of _ (by decide +kernel)) ggX3_arriveOver_X1_hear
theorem qxX3_arriveOver_0 : ∀ w ∈ ((((wsX3_arriveOver_r1 ++ wsX3_arriveOver_r2) ++ wsX30) ++ wsX20) ++ wsX10), w ∈ wsX3_arriveOver := fun w h => List.mem_cons_of_mem _ h
theorem qxX3_arriveOver_1 : ∀ w ∈ (((wsX3_arriveOver_r1 ++ wsX3_arriveOver_r2) ++ wsX30) ++ wsX20), w ∈ wsX3_arriveOver := in_l qxX3_arriveOver_0
theorem qxX3_arriveOver_2 : ∀ w ∈ wsX10, w ∈ wsX3_arriveOver := in_r qxX3_arriveOver_0
theorem qxX3_arriveOver_3 : ∀ w ∈ ((wsX3_arriveOver_r1 ++ wsX3_arriveOver_r2) ++ wsX30), w ∈ wsX3_arriveOver := in_l qxX3_arriveOver_1
theorem qxX3_arriveOver_4 : ∀ w ∈ wsX20, w ∈ wsX3_arriveOver := in_r qxX3_arriveOver_1
theorem qxX3_arriveOver_5 : ∀ w ∈ (wsX3_arriveOver_r1 ++ wsX3_arriveOver_r2), w ∈ wsX3_arriveOver := in_l qxX3_arriveOver_3
theorem qxX3_arriveOver_6 : ∀ w ∈ wsX30, w ∈ wsX3_arriveOver := in_r qxX3_arriveOver_3
theorem qxX3_arriveOver_7 : ∀ w ∈ wsX3_arriveOver_r1, w ∈ wsX3_arriveOver := in_l qxX3_arriveOver_5
theorem qxX3_arriveOver_8 : ∀ w ∈ wsX3_arriveOver_r2, w ∈ wsX3_arriveOver := in_r qxX3_arriveOver_5
def pxX3_arriveOver : List (List Cond) := [wsX3_arriveOver_r1, wsX3_arriveOver_r2, wsX30, wsX20, wsX10]
theorem pxX3_arriveOver_in : ∀ q ∈ pxX3_arriveOver, ∀ w ∈ q, w ∈ wsX3_arriveOver := lp_c qxX3_arriveOver_7 (lp_c qxX3_arriveOver_8 (lp_c qxX3_arriveOver_6 (lp_c qxX3_arriveOver_4 (lp_c qxX3_arriveOver_2 (lp_n)))))
set_option maxRecDepth 20000 in
theorem ggX3_arriveOver_X3_sendUpdate : GoodIn wsX3_arriveOver wsX3_sendUpdate := goodIn_pp pxX3_arriveOver pxX3_arriveOver_in _ [(0, 21), (0, 22), (0, 23), (0, 5), (0, 1), (1, 0), (0, 6), (1, 1), (3, 0), (3, 1), (3, 2), (3, 3), (3, 4), (3, 5), (3, 6), (3, 7), (3, 8), (3, 9), (2, 0), (2, 1), (2, 2), (2, 3), (2, 4), (2, 5), (2, 6), (2, 7), (2, 8), (2, 9), (2, 10), (4, 0), (4, 1), (4, 2), (4, 3), (4, 4), (4, 5), (4, 6)] rfl (by decide +kernel)
set_option maxRecDepth 20000 in
theorem gX3_arriveOver_X3_sendUpdate : GoodIn wsX3_arriveOver (wsV RX3 140 RX3 yX3_sendUpdate wsX3_sendUpdate) := goodIn_app (goodIn_of _ (by decide +kernel)) ggX3_arriveOver_X3_sendUpdate
set_option maxRecDepth 20000 in
theorem ggX3_arriveOver_X2_clearSlot : GoodIn wsX3_arriveOver wsX2_clearSlot := goodIn_r _ [31, 32, 33, 34, 46, 47, 48, 49, 50, 51, 52, 53, 54, 55] (by decide +kernel) (by decide +kernel)
set_option maxRecDepth 20000 in
theorem gX3_arriveOver_X2_clearSlot : GoodIn wsX3_arriveOver (wsV RX3 144 RX2 yX2_clearSlot wsX2_clearSlot) := goodIn_app (goodIn_of _ (by decide +kernel)) ggX3_arriveOver_X2_clearSlot
theorem dX3_arriveOver_0 : decode cX3_arriveOver 0 = .ok (.aload_n 0, 1) := by decide +kernel
theorem dX3_arriveOver_1 : decode cX3_arriveOver 1 = .ok (.getfield 11, 3) := by decide +kernel
theorem dX3_arriveOver_4 : decode cX3_arriveOver 4 = .ok (.iload_n 1, 1) := by decide +kernel
theorem dX3_arriveOver_5 : decode cX3_arriveOver 5 = .ok (.aaload, 1) := by decide +kernel
theorem dX3_arriveOver_6 : decode cX3_arriveOver 6 = .ok (.astore_n 2, 1) := by decide +kernel
theorem dX3_arriveOver_7 : decode cX3_arriveOver 7 = .ok (.aload_n 0, 1) := by decide +kernel
theorem dX3_arriveOver_8 : decode cX3_arriveOver 8 = .ok (.getfield 78, 3) := by decide +kernel
theorem dX3_arriveOver_11 : decode cX3_arriveOver 11 = .ok (.iconst 5, 1) := by decide +kernel
theorem dX3_arriveOver_12 : decode cX3_arriveOver 12 = .ok (.irem, 1) := by decide +kernel
theorem dX3_arriveOver_13 : decode cX3_arriveOver 13 = .ok (.istore_n 3, 1) := by decide +kernel
theorem dX3_arriveOver_14 : decode cX3_arriveOver 14 = .ok (.aload_n 2, 1) := by decide +kernel
theorem dX3_arriveOver_15 : decode cX3_arriveOver 15 = .ok (.getfield 122, 3) := by decide +kernel
theorem dX3_arriveOver_18 : decode cX3_arriveOver 18 = .ok (.iload_n 3, 1) := by decide +kernel
theorem dX3_arriveOver_19 : decode cX3_arriveOver 19 = .ok (.iaload, 1) := by decide +kernel
theorem dX3_arriveOver_20 : decode cX3_arriveOver 20 = .ok (.istore 4, 2) := by decide +kernel
theorem dX3_arriveOver_22 : decode cX3_arriveOver 22 = .ok (.iload 4, 2) := by decide +kernel
theorem dX3_arriveOver_24 : decode cX3_arriveOver 24 = .ok (.iconst (-1), 1) := by decide +kernel
theorem dX3_arriveOver_25 : decode cX3_arriveOver 25 = .ok (.if_icmp .eq 20, 3) := by decide +kernel
theorem dX3_arriveOver_28 : decode cX3_arriveOver 28 = .ok (.aload_n 0, 1) := by decide +kernel
theorem dX3_arriveOver_29 : decode cX3_arriveOver 29 = .ok (.getfield 23, 3) := by decide +kernel
theorem dX3_arriveOver_32 : decode cX3_arriveOver 32 = .ok (.iload_n 1, 1) := by decide +kernel
theorem dX3_arriveOver_33 : decode cX3_arriveOver 33 = .ok (.iconst 1, 1) := by decide +kernel
theorem dX3_arriveOver_34 : decode cX3_arriveOver 34 = .ok (.iadd, 1) := by decide +kernel
theorem dX3_arriveOver_35 : decode cX3_arriveOver 35 = .ok (.iconst 3, 1) := by decide +kernel
theorem dX3_arriveOver_36 : decode cX3_arriveOver 36 = .ok (.imul, 1) := by decide +kernel
theorem dX3_arriveOver_37 : decode cX3_arriveOver 37 = .ok (.iload 4, 2) := by decide +kernel
theorem dX3_arriveOver_39 : decode cX3_arriveOver 39 = .ok (.iadd, 1) := by decide +kernel
theorem dX3_arriveOver_40 : decode cX3_arriveOver 40 = .ok (.dup2, 1) := by decide +kernel
theorem dX3_arriveOver_41 : decode cX3_arriveOver 41 = .ok (.iaload, 1) := by decide +kernel
theorem dX3_arriveOver_42 : decode cX3_arriveOver 42 = .ok (.iconst 1, 1) := by decide +kernel
theorem dX3_arriveOver_43 : decode cX3_arriveOver 43 = .ok (.iadd, 1) := by decide +kernel
theorem dX3_arriveOver_44 : decode cX3_arriveOver 44 = .ok (.iastore, 1) := by decide +kernel
theorem dX3_arriveOver_45 : decode cX3_arriveOver 45 = .ok (.iconst 0, 1) := by decide +kernel
theorem dX3_arriveOver_46 : decode cX3_arriveOver 46 = .ok (.istore 5, 2) := by decide +kernel
theorem dX3_arriveOver_48 : decode cX3_arriveOver 48 = .ok (.iload 5, 2) := by decide +kernel
theorem dX3_arriveOver_50 : decode cX3_arriveOver 50 = .ok (.aload_n 0, 1) := by decide +kernel
theorem dX3_arriveOver_51 : decode cX3_arriveOver 51 = .ok (.getfield 62, 3) := by decide +kernel
theorem dX3_arriveOver_54 : decode cX3_arriveOver 54 = .ok (.if_icmp .ge 76, 3) := by decide +kernel
theorem dX3_arriveOver_57 : decode cX3_arriveOver 57 = .ok (.aload_n 2, 1) := by decide +kernel
theorem dX3_arriveOver_58 : decode cX3_arriveOver 58 = .ok (.getfield 125, 3) := by decide +kernel
theorem dX3_arriveOver_61 : decode cX3_arriveOver 61 = .ok (.iload_n 3, 1) := by decide +kernel
theorem dX3_arriveOver_62 : decode cX3_arriveOver 62 = .ok (.iconst 3, 1) := by decide +kernel
theorem dX3_arriveOver_63 : decode cX3_arriveOver 63 = .ok (.imul, 1) := by decide +kernel
theorem dX3_arriveOver_64 : decode cX3_arriveOver 64 = .ok (.iload 5, 2) := by decide +kernel
theorem dX3_arriveOver_66 : decode cX3_arriveOver 66 = .ok (.iadd, 1) := by decide +kernel
theorem dX3_arriveOver_67 : decode cX3_arriveOver 67 = .ok (.iaload, 1) := by decide +kernel
theorem dX3_arriveOver_68 : decode cX3_arriveOver 68 = .ok (.istore 6, 2) := by decide +kernel
theorem dX3_arriveOver_70 : decode cX3_arriveOver 70 = .ok (.iload 6, 2) := by decide +kernel
theorem dX3_arriveOver_72 : decode cX3_arriveOver 72 = .ok (.iconst (-1), 1) := by decide +kernel
theorem dX3_arriveOver_73 : decode cX3_arriveOver 73 = .ok (.if_icmp .eq 15, 3) := by decide +kernel
theorem dX3_arriveOver_76 : decode cX3_arriveOver 76 = .ok (.aload_n 2, 1) := by decide +kernel
theorem dX3_arriveOver_77 : decode cX3_arriveOver 77 = .ok (.getfield 128, 3) := by decide +kernel
theorem dX3_arriveOver_80 : decode cX3_arriveOver 80 = .ok (.iload 5, 2) := by decide +kernel
theorem dX3_arriveOver_82 : decode cX3_arriveOver 82 = .ok (.aaload, 1) := by decide +kernel
theorem dX3_arriveOver_83 : decode cX3_arriveOver 83 = .ok (.iload 6, 2) := by decide +kernel
theorem dX3_arriveOver_85 : decode cX3_arriveOver 85 = .ok (.invokevirtual 132, 3) := by decide +kernel
theorem dX3_arriveOver_88 : decode cX3_arriveOver 88 = .ok (.aload_n 2, 1) := by decide +kernel
theorem dX3_arriveOver_89 : decode cX3_arriveOver 89 = .ok (.getfield 137, 3) := by decide +kernel
theorem dX3_arriveOver_92 : decode cX3_arriveOver 92 = .ok (.iload_n 3, 1) := by decide +kernel
theorem dX3_arriveOver_93 : decode cX3_arriveOver 93 = .ok (.iconst 3, 1) := by decide +kernel
theorem dX3_arriveOver_94 : decode cX3_arriveOver 94 = .ok (.imul, 1) := by decide +kernel
theorem dX3_arriveOver_95 : decode cX3_arriveOver 95 = .ok (.iload 5, 2) := by decide +kernel
theorem dX3_arriveOver_97 : decode cX3_arriveOver 97 = .ok (.iadd, 1) := by decide +kernel
theorem dX3_arriveOver_98 : decode cX3_arriveOver 98 = .ok (.iaload, 1) := by decide +kernel
theorem dX3_arriveOver_99 : decode cX3_arriveOver 99 = .ok (.istore 7, 2) := by decide +kernel
theorem dX3_arriveOver_101 : decode cX3_arriveOver 101 = .ok (.iconst 0, 1) := by decide +kernel
theorem dX3_arriveOver_102 : decode cX3_arriveOver 102 = .ok (.istore 8, 2) := by decide +kernel
theorem dX3_arriveOver_104 : decode cX3_arriveOver 104 = .ok (.iload 8, 2) := by decide +kernel
theorem dX3_arriveOver_106 : decode cX3_arriveOver 106 = .ok (.iload 7, 2) := by decide +kernel
theorem dX3_arriveOver_108 : decode cX3_arriveOver 108 = .ok (.if_icmp .ge 16, 3) := by decide +kernel
theorem dX3_arriveOver_111 : decode cX3_arriveOver 111 = .ok (.aload_n 0, 1) := by decide +kernel
theorem dX3_arriveOver_112 : decode cX3_arriveOver 112 = .ok (.aload_n 2, 1) := by decide +kernel
theorem dX3_arriveOver_113 : decode cX3_arriveOver 113 = .ok (.iload 5, 2) := by decide +kernel
theorem dX3_arriveOver_115 : decode cX3_arriveOver 115 = .ok (.invokevirtual 140, 3) := by decide +kernel
theorem dX3_arriveOver_118 : decode cX3_arriveOver 118 = .ok (.iinc 8 1, 3) := by decide +kernel
theorem dX3_arriveOver_121 : decode cX3_arriveOver 121 = .ok (.goto (-17), 3) := by decide +kernel
theorem dX3_arriveOver_124 : decode cX3_arriveOver 124 = .ok (.iinc 5 1, 3) := by decide +kernel
theorem dX3_arriveOver_127 : decode cX3_arriveOver 127 = .ok (.goto (-79), 3) := by decide +kernel
theorem dX3_arriveOver_130 : decode cX3_arriveOver 130 = .ok (.aload_n 2, 1) := by decide +kernel
theorem dX3_arriveOver_131 : decode cX3_arriveOver 131 = .ok (.iload_n 3, 1) := by decide +kernel
theorem dX3_arriveOver_132 : decode cX3_arriveOver 132 = .ok (.invokevirtual 144, 3) := by decide +kernel
theorem dX3_arriveOver_135 : decode cX3_arriveOver 135 = .ok (.return_, 1) := by decide +kernel
set_option maxRecDepth 20000 in
theorem ggX3_come_X0_comesIn : GoodIn wsX3_come wsX0_comesIn := goodIn_r _ [11, 12, 13, 25, 26, 27, 28, 29, 30, 31, 32] (by decide +kernel) (by decide +kernel)
set_option maxRecDepth 20000 in
theorem gX3_come_X0_comesIn : GoodIn wsX3_come (wsV RX3 151 RX0 yX0_comesIn wsX0_comesIn) := goodIn_app (goodIn_of _ (by decide +kernel)) ggX3_come_X0_comesIn
theorem dX3_come_0 : decode cX3_come 0 = .ok (.aload_n 0, 1) := by decide +kernel
theorem dX3_come_1 : decode cX3_come 1 = .ok (.getfield 19, 3) := by decide +kernel
theorem dX3_come_4 : decode cX3_come 4 = .ok (.iload_n 1, 1) := by decide +kernel
theorem dX3_come_5 : decode cX3_come 5 = .ok (.aaload, 1) := by decide +kernel
theorem dX3_come_6 : decode cX3_come 6 = .ok (.astore_n 2, 1) := by decide +kernel
theorem dX3_come_7 : decode cX3_come 7 = .ok (.aload_n 2, 1) := by decide +kernel
theorem dX3_come_8 : decode cX3_come 8 = .ok (.iconst 0, 1) := by decide +kernel
theorem dX3_come_9 : decode cX3_come 9 = .ok (.putfield 147, 3) := by decide +kernel
theorem dX3_come_12 : decode cX3_come 12 = .ok (.aload_n 2, 1) := by decide +kernel
theorem dX3_come_13 : decode cX3_come 13 = .ok (.aload_n 0, 1) := by decide +kernel
theorem dX3_come_14 : decode cX3_come 14 = .ok (.getfield 78, 3) := by decide +kernel
theorem dX3_come_17 : decode cX3_come 17 = .ok (.invokevirtual 151, 3) := by decide +kernel
theorem dX3_come_20 : decode cX3_come 20 = .ok (.ifCond .ne 4, 3) := by decide +kernel
theorem dX3_come_23 : decode cX3_come 23 = .ok (.return_, 1) := by decide +kernel
theorem dX3_come_24 : decode cX3_come 24 = .ok (.aload_n 2, 1) := by decide +kernel
theorem dX3_come_25 : decode cX3_come 25 = .ok (.dup, 1) := by decide +kernel
theorem dX3_come_26 : decode cX3_come 26 = .ok (.getfield 155, 3) := by decide +kernel
theorem dX3_come_29 : decode cX3_come 29 = .ok (.iconst 1, 1) := by decide +kernel
theorem dX3_come_30 : decode cX3_come 30 = .ok (.iadd, 1) := by decide +kernel
theorem dX3_come_31 : decode cX3_come 31 = .ok (.putfield 155, 3) := by decide +kernel
theorem dX3_come_34 : decode cX3_come 34 = .ok (.aload_n 0, 1) := by decide +kernel
theorem dX3_come_35 : decode cX3_come 35 = .ok (.getfield 23, 3) := by decide +kernel
theorem dX3_come_38 : decode cX3_come 38 = .ok (.iload_n 1, 1) := by decide +kernel
theorem dX3_come_39 : decode cX3_come 39 = .ok (.iaload, 1) := by decide +kernel
theorem dX3_come_40 : decode cX3_come 40 = .ok (.bipush 99, 2) := by decide +kernel
theorem dX3_come_42 : decode cX3_come 42 = .ok (.if_icmp .lt 14, 3) := by decide +kernel
theorem dX3_come_45 : decode cX3_come 45 = .ok (.aload_n 2, 1) := by decide +kernel
theorem dX3_come_46 : decode cX3_come 46 = .ok (.dup, 1) := by decide +kernel
theorem dX3_come_47 : decode cX3_come 47 = .ok (.getfield 158, 3) := by decide +kernel
theorem dX3_come_50 : decode cX3_come 50 = .ok (.iconst 1, 1) := by decide +kernel
theorem dX3_come_51 : decode cX3_come 51 = .ok (.iadd, 1) := by decide +kernel
theorem dX3_come_52 : decode cX3_come 52 = .ok (.putfield 158, 3) := by decide +kernel
theorem dX3_come_55 : decode cX3_come 55 = .ok (.return_, 1) := by decide +kernel
theorem dX3_come_56 : decode cX3_come 56 = .ok (.aload_n 0, 1) := by decide +kernel
theorem dX3_come_57 : decode cX3_come 57 = .ok (.getfield 23, 3) := by decide +kernel
theorem dX3_come_60 : decode cX3_come 60 = .ok (.iload_n 1, 1) := by decide +kernel
theorem dX3_come_61 : decode cX3_come 61 = .ok (.dup2, 1) := by decide +kernel
theorem dX3_come_62 : decode cX3_come 62 = .ok (.iaload, 1) := by decide +kernel
theorem dX3_come_63 : decode cX3_come 63 = .ok (.iconst 1, 1) := by decide +kernel
theorem dX3_come_64 : decode cX3_come 64 = .ok (.iadd, 1) := by decide +kernel
theorem dX3_come_65 : decode cX3_come 65 = .ok (.iastore, 1) := by decide +kernel
theorem dX3_come_66 : decode cX3_come 66 = .ok (.aload_n 2, 1) := by decide +kernel
theorem dX3_come_67 : decode cX3_come 67 = .ok (.iconst 1, 1) := by decide +kernel
theorem dX3_come_68 : decode cX3_come 68 = .ok (.putfield 147, 3) := by decide +kernel
theorem dX3_come_71 : decode cX3_come 71 = .ok (.return_, 1) := by decide +kernel
set_option maxRecDepth 20000 in
theorem ggX3_take_X0_takesIn : GoodIn wsX3_take wsX0_takesIn := goodIn_r _ [11, 12, 42, 43, 44, 45, 46, 47, 48, 49] (by decide +kernel) (by decide +kernel)
set_option maxRecDepth 20000 in
theorem gX3_take_X0_takesIn : GoodIn wsX3_take (wsV RX3 161 RX0 yX0_takesIn wsX0_takesIn) := goodIn_app (goodIn_of _ (by decide +kernel)) ggX3_take_X0_takesIn
theorem qxX3_take_0 : ∀ w ∈ (((((wsX3_take_r1 ++ wsX3_take_r2) ++ wsX30) ++ wsX00) ++ wsX20) ++ wsX10), w ∈ wsX3_take := fun w h => List.mem_cons_of_mem _ h
theorem qxX3_take_1 : ∀ w ∈ ((((wsX3_take_r1 ++ wsX3_take_r2) ++ wsX30) ++ wsX00) ++ wsX20), w ∈ wsX3_take := in_l qxX3_take_0
theorem qxX3_take_2 : ∀ w ∈ wsX10, w ∈ wsX3_take := in_r qxX3_take_0
theorem qxX3_take_3 : ∀ w ∈ (((wsX3_take_r1 ++ wsX3_take_r2) ++ wsX30) ++ wsX00), w ∈ wsX3_take := in_l qxX3_take_1
theorem qxX3_take_4 : ∀ w ∈ wsX20, w ∈ wsX3_take := in_r qxX3_take_1
theorem qxX3_take_5 : ∀ w ∈ ((wsX3_take_r1 ++ wsX3_take_r2) ++ wsX30), w ∈ wsX3_take := in_l qxX3_take_3
theorem qxX3_take_6 : ∀ w ∈ wsX00, w ∈ wsX3_take := in_r qxX3_take_3
theorem qxX3_take_7 : ∀ w ∈ (wsX3_take_r1 ++ wsX3_take_r2), w ∈ wsX3_take := in_l qxX3_take_5
theorem qxX3_take_8 : ∀ w ∈ wsX30, w ∈ wsX3_take := in_r qxX3_take_5
theorem qxX3_take_9 : ∀ w ∈ wsX3_take_r1, w ∈ wsX3_take := in_l qxX3_take_7
theorem qxX3_take_10 : ∀ w ∈ wsX3_take_r2, w ∈ wsX3_take := in_r qxX3_take_7
def pxX3_take : List (List Cond) := [wsX3_take_r1, wsX3_take_r2, wsX30, wsX00, wsX20, wsX10]
theorem pxX3_take_in : ∀ q ∈ pxX3_take, ∀ w ∈ q, w ∈ wsX3_take := lp_c qxX3_take_9 (lp_c qxX3_take_10 (lp_c qxX3_take_8 (lp_c qxX3_take_6 (lp_c qxX3_take_4 (lp_c qxX3_take_2 (lp_n))))))
set_option maxRecDepth 20000 in
theorem ggX3_take_X3_goneFrom : GoodIn wsX3_take wsX3_goneFrom := goodIn_pp pxX3_take pxX3_take_in _ [(0, 16), (0, 17), (0, 18), (0, 19), (0, 20), (0, 21), (0, 22), (0, 23), (1, 0), (0, 15), (1, 1), (1, 2), (1, 3), (1, 4), (0, 2), (1, 5), (2, 0), (2, 1), (2, 2), (2, 3), (2, 4), (2, 5), (2, 6), (2, 7), (2, 8), (2, 9), (2, 10), (4, 0), (4, 1), (4, 2), (4, 3), (4, 4), (4, 5), (4, 6), (4, 7), (4, 8), (4, 9), (5, 0), (5, 1), (5, 2), (5, 3), (5, 4), (5, 5), (5, 6)] rfl (by decide +kernel)
set_option maxRecDepth 20000 in
theorem gX3_take_X3_goneFrom : GoodIn wsX3_take (wsV RX3 170 RX3 yX3_goneFrom wsX3_goneFrom) := goodIn_app (goodIn_of _ (by decide +kernel)) ggX3_take_X3_goneFrom
theorem dX3_take_0 : decode cX3_take 0 = .ok (.aload_n 0, 1) := by decide +kernel
theorem dX3_take_1 : decode cX3_take 1 = .ok (.getfield 19, 3) := by decide +kernel
theorem dX3_take_4 : decode cX3_take 4 = .ok (.iload_n 1, 1) := by decide +kernel
theorem dX3_take_5 : decode cX3_take 5 = .ok (.aaload, 1) := by decide +kernel
theorem dX3_take_6 : decode cX3_take 6 = .ok (.astore_n 2, 1) := by decide +kernel
theorem dX3_take_7 : decode cX3_take 7 = .ok (.aload_n 0, 1) := by decide +kernel
theorem dX3_take_8 : decode cX3_take 8 = .ok (.getfield 53, 3) := by decide +kernel
theorem dX3_take_11 : decode cX3_take 11 = .ok (.iconst 3, 1) := by decide +kernel
theorem dX3_take_12 : decode cX3_take 12 = .ok (.imul, 1) := by decide +kernel
theorem dX3_take_13 : decode cX3_take 13 = .ok (.iload_n 1, 1) := by decide +kernel
theorem dX3_take_14 : decode cX3_take 14 = .ok (.iadd, 1) := by decide +kernel
theorem dX3_take_15 : decode cX3_take 15 = .ok (.istore_n 3, 1) := by decide +kernel
theorem dX3_take_16 : decode cX3_take 16 = .ok (.aload_n 2, 1) := by decide +kernel
theorem dX3_take_17 : decode cX3_take 17 = .ok (.aload_n 2, 1) := by decide +kernel
theorem dX3_take_18 : decode cX3_take 18 = .ok (.aload_n 0, 1) := by decide +kernel
theorem dX3_take_19 : decode cX3_take 19 = .ok (.getfield 78, 3) := by decide +kernel
theorem dX3_take_22 : decode cX3_take 22 = .ok (.invokevirtual 161, 3) := by decide +kernel
theorem dX3_take_25 : decode cX3_take 25 = .ok (.ifCond .eq 16, 3) := by decide +kernel
theorem dX3_take_28 : decode cX3_take 28 = .ok (.aload_n 0, 1) := by decide +kernel
theorem dX3_take_29 : decode cX3_take 29 = .ok (.getfield 23, 3) := by decide +kernel
theorem dX3_take_32 : decode cX3_take 32 = .ok (.iload_n 3, 1) := by decide +kernel
theorem dX3_take_33 : decode cX3_take 33 = .ok (.iaload, 1) := by decide +kernel

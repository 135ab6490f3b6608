/-! ===== BEGIN printed: names, fields, word lists, decode rows ===== -/
def RX0 : String := "Festoon$Lantern"
def TX0 : u_T := fun k => match k with
  | 0 => ("Festoon$Lantern", "ribs", "I", true)
  | 1 => ("Festoon$Lantern", "paper", "I", true)
  | 2 => ("Festoon$Lantern", "candle", "I", true)
  | 3 => ("Festoon$Lantern", "state", "I", false)
  | 4 => ("Festoon$Lantern", "left", "I", false)
  | 5 => ("Festoon$Lantern", "raft", "LFestoon$Raft;", false)
  | _ => ("Festoon$Lantern", "slot", "I", false)
def tyX0 : Nat → FieldType := fun k => match k with
  | 0 => .int
  | 1 => .int
  | 2 => .int
  | 3 => .int
  | 4 => .int
  | 5 => .object "Festoon$Raft"
  | _ => .int
abbrev wsX00 : List Cond := u_ws RX0 TX0 7
theorem nmX0 : ∀ a, a < 7 → ∀ b, b < 7 → a ≠ b → (TX0 a).2.1 ≠ (TX0 b).2.1 := by decide +kernel
theorem tyX0_ok : ∀ k, k < 7 → parseFieldDescriptor (TX0 k).2.2.1 = some (tyX0 k) := by decide +kernel
abbrev cX0_init : ByteArray := prog_2_method_1_code
def yX0_init : MethodName := ⟨RX0, "<init>", "(III)V"⟩
abbrev cX0_weight : ByteArray := prog_2_method_2_code
def yX0_weight : MethodName := ⟨RX0, "weight", "()I"⟩
abbrev cX0_firmness : ByteArray := prog_2_method_3_code
def yX0_firmness : MethodName := ⟨RX0, "firmness", "()I"⟩
abbrev cX0_place : ByteArray := prog_2_method_4_code
def yX0_place : MethodName := ⟨RX0, "place", "()I"⟩
abbrev cX0_distanceTo : ByteArray := prog_2_method_5_code
def yX0_distanceTo : MethodName := ⟨RX0, "distanceTo", "(LFestoon$Lantern;)I"⟩
abbrev cX0_darken : ByteArray := prog_2_method_6_code
def yX0_darken : MethodName := ⟨RX0, "darken", "()V"⟩
abbrev cX0_burnOneMinute : ByteArray := prog_2_method_7_code
def yX0_burnOneMinute : MethodName := ⟨RX0, "burnOneMinute", "()V"⟩
def RX1 : String := "Festoon$Raft"
def TX1 : u_T := fun k => match k with
  | 0 => ("Festoon$Raft", "number", "I", true)
  | 1 => ("Festoon$Raft", "speed", "I", true)
  | 2 => ("Festoon$Raft", "bears", "I", true)
  | 3 => ("Festoon$Raft", "slots", "[LFestoon$Lantern;", true)
  | 4 => ("Festoon$Raft", "sort", "I", false)
  | 5 => ("Festoon$Raft", "front", "I", false)
  | _ => ("Festoon$Raft", "order", "I", false)
def tyX1 : Nat → FieldType := fun k => match k with
  | 0 => .int
  | 1 => .int
  | 2 => .int
  | 3 => .array (.object "Festoon$Lantern")
  | 4 => .int
  | 5 => .int
  | _ => .int
abbrev wsX10 : List Cond := u_ws RX1 TX1 7
theorem nmX1 : ∀ a, a < 7 → ∀ b, b < 7 → a ≠ b → (TX1 a).2.1 ≠ (TX1 b).2.1 := by decide +kernel
theorem tyX1_ok : ∀ k, k < 7 → parseFieldDescriptor (TX1 k).2.2.1 = some (tyX1 k) := by decide +kernel
abbrev cX1_init : ByteArray := prog_3_method_1_code
def yX1_init : MethodName := ⟨RX1, "<init>", "(III)V"⟩
abbrev cX1_rear : ByteArray := prog_3_method_2_code
def yX1_rear : MethodName := ⟨RX1, "rear", "()I"⟩
abbrev cX1_lanternIn : ByteArray := prog_3_method_3_code
def yX1_lanternIn : MethodName := ⟨RX1, "lanternIn", "(I)LFestoon$Lantern;"⟩
abbrev cX1_put : ByteArray := prog_3_method_4_code
def yX1_put : MethodName := ⟨RX1, "put", "(LFestoon$Lantern;I)V"⟩
abbrev cX1_free : ByteArray := prog_3_method_5_code
def yX1_free : MethodName := ⟨RX1, "free", "(LFestoon$Lantern;)V"⟩
abbrev cX1_weight : ByteArray := prog_3_method_6_code
def yX1_weight : MethodName := ⟨RX1, "weight", "()I"⟩
abbrev cX1_moveBehind : ByteArray := prog_3_method_7_code
def yX1_moveBehind : MethodName := ⟨RX1, "moveBehind", "(LFestoon$Raft;I)V"⟩
abbrev cX1_darkenAll : ByteArray := prog_3_method_8_code
def yX1_darkenAll : MethodName := ⟨RX1, "darkenAll", "()V"⟩
abbrev cX1_nearestLit : ByteArray := prog_3_method_9_code
def yX1_nearestLit : MethodName := ⟨RX1, "nearestLit", "(LFestoon$Lantern;)I"⟩
abbrev cX1_alike : ByteArray := prog_3_method_10_code
def yX1_alike : MethodName := ⟨RX1, "alike", "(I)I"⟩
def RX2 : String := "Festoon"
def TX2 : u_T := fun k => match k with
  | 0 => ("Festoon", "lanterns", "[LFestoon$Lantern;", true)
  | 1 => ("Festoon", "rafts", "[LFestoon$Raft;", true)
  | 2 => ("Festoon", "launched", "[LFestoon$Raft;", true)
  | 3 => ("Festoon", "gusts", "[I", true)
  | 4 => ("Festoon", "made", "I", false)
  | 5 => ("Festoon", "built", "I", false)
  | 6 => ("Festoon", "launches", "I", false)
  | 7 => ("Festoon", "now", "I", false)
  | 8 => ("Festoon", "gap", "I", false)
  | 9 => ("Festoon", "base", "I", false)
  | 10 => ("Festoon", "darkByGusts", "I", false)
  | _ => ("Festoon", "darkByMarshal", "I", false)
def tyX2 : Nat → FieldType := fun k => match k with
  | 0 => .array (.object "Festoon$Lantern")
  | 1 => .array (.object "Festoon$Raft")
  | 2 => .array (.object "Festoon$Raft")
  | 3 => .array .int
  | 4 => .int
  | 5 => .int
  | 6 => .int
  | 7 => .int
  | 8 => .int
  | 9 => .int
  | 10 => .int
  | _ => .int
abbrev wsX20 : List Cond := u_ws RX2 TX2 12
theorem nmX2 : ∀ a, a < 12 → ∀ b, b < 12 → a ≠ b → (TX2 a).2.1 ≠ (TX2 b).2.1 := by decide +kernel
theorem tyX2_ok : ∀ k, k < 12 → parseFieldDescriptor (TX2 k).2.2.1 = some (tyX2 k) := by decide +kernel
abbrev cX2_init : ByteArray := prog_1_method_1_code
def yX2_init : MethodName := ⟨RX2, "<init>", "()V"⟩
abbrev cX2_make : ByteArray := prog_1_method_2_code
def yX2_make : MethodName := ⟨RX2, "make", "(III)I"⟩
abbrev cX2_hang : ByteArray := prog_1_method_3_code
def yX2_hang : MethodName := ⟨RX2, "hang", "(III)I"⟩
abbrev cX2_takeDown : ByteArray := prog_1_method_4_code
def yX2_takeDown : MethodName := ⟨RX2, "takeDown", "(I)I"⟩
abbrev cX2_light : ByteArray := prog_1_method_5_code
def yX2_light : MethodName := ⟨RX2, "light", "(I)I"⟩
abbrev cX2_putOut : ByteArray := prog_1_method_6_code
def yX2_putOut : MethodName := ⟨RX2, "putOut", "(I)I"⟩
abbrev cX2_build : ByteArray := prog_1_method_7_code
def yX2_build : MethodName := ⟨RX2, "build", "(II)I"⟩
abbrev cX2_launch : ByteArray := prog_1_method_8_code
def yX2_launch : MethodName := ⟨RX2, "launch", "(I)I"⟩
abbrev cX2_setRules : ByteArray := prog_1_method_9_code
def yX2_setRules : MethodName := ⟨RX2, "setRules", "(II)I"⟩
abbrev cX2_setGust : ByteArray := prog_1_method_10_code
def yX2_setGust : MethodName := ⟨RX2, "setGust", "(II)I"⟩
abbrev cX2_pass : ByteArray := prog_1_method_11_code
def yX2_pass : MethodName := ⟨RX2, "pass", "(I)I"⟩
abbrev cX2_time : ByteArray := prog_1_method_12_code
def yX2_time : MethodName := ⟨RX2, "time", "()I"⟩
abbrev cX2_lanterns : ByteArray := prog_1_method_13_code
def yX2_lanterns : MethodName := ⟨RX2, "lanterns", "()I"⟩
abbrev cX2_stateOf : ByteArray := prog_1_method_14_code
def yX2_stateOf : MethodName := ⟨RX2, "stateOf", "(I)I"⟩
abbrev cX2_left : ByteArray := prog_1_method_15_code
def yX2_left : MethodName := ⟨RX2, "left", "(I)I"⟩
abbrev cX2_placeOf : ByteArray := prog_1_method_16_code
def yX2_placeOf : MethodName := ⟨RX2, "placeOf", "(I)I"⟩
abbrev cX2_nearest : ByteArray := prog_1_method_17_code
def yX2_nearest : MethodName := ⟨RX2, "nearest", "(I)I"⟩
abbrev cX2_nearestOfAll : ByteArray := prog_1_method_18_code
def yX2_nearestOfAll : MethodName := ⟨RX2, "nearestOfAll", "(I)I"⟩
abbrev cX2_blownOut : ByteArray := prog_1_method_19_code
def yX2_blownOut : MethodName := ⟨RX2, "blownOut", "()I"⟩
abbrev cX2_ordered : ByteArray := prog_1_method_20_code
def yX2_ordered : MethodName := ⟨RX2, "ordered", "()I"⟩
abbrev cX2_sortOf : ByteArray := prog_1_method_21_code
def yX2_sortOf : MethodName := ⟨RX2, "sortOf", "(I)I"⟩
abbrev cX2_front : ByteArray := prog_1_method_22_code
def yX2_front : MethodName := ⟨RX2, "front", "(I)I"⟩
abbrev cX2_load : ByteArray := prog_1_method_23_code
def yX2_load : MethodName := ⟨RX2, "load", "(I)I"⟩
abbrev cX2_likeness : ByteArray := prog_1_method_24_code
def yX2_likeness : MethodName := ⟨RX2, "likeness", "(II)I"⟩
abbrev cX2_prize : ByteArray := prog_1_method_25_code
def yX2_prize : MethodName := ⟨RX2, "prize", "(I)I"⟩
abbrev cX2_within : ByteArray := prog_1_method_26_code
def yX2_within : MethodName := ⟨RX2, "within", "(III)Z"⟩
abbrev cX2_lanternNumbered : ByteArray := prog_1_method_27_code
def yX2_lanternNumbered : MethodName := ⟨RX2, "lanternNumbered", "(I)LFestoon$Lantern;"⟩
abbrev cX2_raftNumbered : ByteArray := prog_1_method_28_code
def yX2_raftNumbered : MethodName := ⟨RX2, "raftNumbered", "(I)LFestoon$Raft;"⟩
abbrev cX2_litLanterns : ByteArray := prog_1_method_29_code
def yX2_litLanterns : MethodName := ⟨RX2, "litLanterns", "()I"⟩
abbrev cX2_raftsOnRiver : ByteArray := prog_1_method_30_code
def yX2_raftsOnRiver : MethodName := ⟨RX2, "raftsOnRiver", "()I"⟩
abbrev cX2_hasRoomToLaunch : ByteArray := prog_1_method_31_code
def yX2_hasRoomToLaunch : MethodName := ⟨RX2, "hasRoomToLaunch", "()Z"⟩
abbrev cX2_passOne : ByteArray := prog_1_method_32_code
def yX2_passOne : MethodName := ⟨RX2, "passOne", "()V"⟩
abbrev cX2_moveRafts : ByteArray := prog_1_method_33_code
def yX2_moveRafts : MethodName := ⟨RX2, "moveRafts", "()V"⟩
abbrev cX2_letRaftsGo : ByteArray := prog_1_method_34_code
def yX2_letRaftsGo : MethodName := ⟨RX2, "letRaftsGo", "()V"⟩
abbrev cX2_blowGust : ByteArray := prog_1_method_35_code
def yX2_blowGust : MethodName := ⟨RX2, "blowGust", "()V"⟩
abbrev cX2_burnCandles : ByteArray := prog_1_method_36_code
def yX2_burnCandles : MethodName := ⟨RX2, "burnCandles", "()V"⟩
abbrev cX2_sendMarshal : ByteArray := prog_1_method_37_code
def yX2_sendMarshal : MethodName := ⟨RX2, "sendMarshal", "()V"⟩
abbrev cX2_isCrowded : ByteArray := prog_1_method_38_code
def yX2_isCrowded : MethodName := ⟨RX2, "isCrowded", "(LFestoon$Lantern;I)Z"⟩
abbrev cX2_isTooNear : ByteArray := prog_1_method_39_code
def yX2_isTooNear : MethodName := ⟨RX2, "isTooNear", "(LFestoon$Lantern;LFestoon$Lantern;)Z"⟩
abbrev cX2_nearestAhead : ByteArray := prog_1_method_40_code
def yX2_nearestAhead : MethodName := ⟨RX2, "nearestAhead", "(LFestoon$Lantern;I)I"⟩
abbrev cX2_nearestBehind : ByteArray := prog_1_method_41_code
def yX2_nearestBehind : MethodName := ⟨RX2, "nearestBehind", "(LFestoon$Lantern;I)I"⟩
abbrev cX2_nearer : ByteArray := prog_1_method_42_code
def yX2_nearer : MethodName := ⟨RX2, "nearer", "(II)I"⟩
def RX3 : String := "FestoonModel"
def TX3 : u_T := fun k => match k with
  | 0 => ("FestoonModel", "ribs", "[I", true)
  | 1 => ("FestoonModel", "papers", "[I", true)
  | 2 => ("FestoonModel", "candles", "[I", true)
  | 3 => ("FestoonModel", "states", "[I", true)
  | 4 => ("FestoonModel", "lefts", "[I", true)
  | 5 => ("FestoonModel", "hangsOn", "[I", true)
  | 6 => ("FestoonModel", "slots", "[I", true)
  | 7 => ("FestoonModel", "lanterns", "I", false)
  | 8 => ("FestoonModel", "speeds", "[I", true)
  | 9 => ("FestoonModel", "bears", "[I", true)
  | 10 => ("FestoonModel", "sorts", "[I", true)
  | 11 => ("FestoonModel", "fronts", "[I", true)
  | 12 => ("FestoonModel", "order", "[I", true)
  | 13 => ("FestoonModel", "launched", "I", false)
  | 14 => ("FestoonModel", "floats", "I", false)
  | 15 => ("FestoonModel", "gap", "I", false)
  | 16 => ("FestoonModel", "base", "I", false)
  | 17 => ("FestoonModel", "gusts", "[I", true)
  | 18 => ("FestoonModel", "time", "I", false)
  | 19 => ("FestoonModel", "blown", "I", false)
  | 20 => ("FestoonModel", "ordered", "I", false)
  | _ => ("FestoonModel", "last", "I", false)
def tyX3 : Nat → FieldType := fun k => match k with
  | 0 => .array .int
  | 1 => .array .int
  | 2 => .array .int
  | 3 => .array .int
  | 4 => .array .int
  | 5 => .array .int
  | 6 => .array .int
  | 7 => .int
  | 8 => .array .int
  | 9 => .array .int
  | 10 => .array .int
  | 11 => .array .int
  | 12 => .array .int
  | 13 => .int
  | 14 => .int
  | 15 => .int
  | 16 => .int
  | 17 => .array .int
  | 18 => .int
  | 19 => .int
  | 20 => .int
  | _ => .int
abbrev wsX30 : List Cond := u_ws RX3 TX3 22
theorem nmX3 : ∀ a, a < 22 → ∀ b, b < 22 → a ≠ b → (TX3 a).2.1 ≠ (TX3 b).2.1 := by decide +kernel
theorem tyX3_ok : ∀ k, k < 22 → parseFieldDescriptor (TX3 k).2.2.1 = some (tyX3 k) := by decide +kernel
abbrev cX3_init : ByteArray := prog_5_method_1_code
def yX3_init : MethodName := ⟨RX3, "<init>", "()V"⟩
abbrev cX3_thrown : ByteArray := prog_5_method_2_code
def yX3_thrown : MethodName := ⟨RX3, "thrown", "()I"⟩
abbrev cX3_in : ByteArray := prog_5_method_3_code
def yX3_in : MethodName := ⟨RX3, "in", "(III)Z"⟩
abbrev cX3_goes : ByteArray := prog_5_method_4_code
def yX3_goes : MethodName := ⟨RX3, "goes", "(ZZZ)Z"⟩
abbrev cX3_isLantern : ByteArray := prog_5_method_5_code
def yX3_isLantern : MethodName := ⟨RX3, "isLantern", "(I)Z"⟩
abbrev cX3_isFloat : ByteArray := prog_5_method_6_code
def yX3_isFloat : MethodName := ⟨RX3, "isFloat", "(I)Z"⟩
abbrev cX3_make : ByteArray := prog_5_method_7_code
def yX3_make : MethodName := ⟨RX3, "make", "(III)I"⟩
abbrev cX3_weight : ByteArray := prog_5_method_8_code
def yX3_weight : MethodName := ⟨RX3, "weight", "(I)I"⟩
abbrev cX3_loadOf : ByteArray := prog_5_method_9_code
def yX3_loadOf : MethodName := ⟨RX3, "loadOf", "(I)I"⟩
abbrev cX3_isTaken : ByteArray := prog_5_method_10_code
def yX3_isTaken : MethodName := ⟨RX3, "isTaken", "(II)Z"⟩
abbrev cX3_hang : ByteArray := prog_5_method_11_code
def yX3_hang : MethodName := ⟨RX3, "hang", "(III)I"⟩
abbrev cX3_darkens : ByteArray := prog_5_method_12_code
def yX3_darkens : MethodName := ⟨RX3, "darkens", "(I)V"⟩
abbrev cX3_takeDown : ByteArray := prog_5_method_13_code
def yX3_takeDown : MethodName := ⟨RX3, "takeDown", "(I)I"⟩
abbrev cX3_hasPlace : ByteArray := prog_5_method_14_code
def yX3_hasPlace : MethodName := ⟨RX3, "hasPlace", "(I)Z"⟩
abbrev cX3_place : ByteArray := prog_5_method_15_code
def yX3_place : MethodName := ⟨RX3, "place", "(I)I"⟩
abbrev cX3_distance : ByteArray := prog_5_method_16_code
def yX3_distance : MethodName := ⟨RX3, "distance", "(II)I"⟩
abbrev cX3_isNear : ByteArray := prog_5_method_17_code
def yX3_isNear : MethodName := ⟨RX3, "isNear", "(II)Z"⟩
abbrev cX3_light : ByteArray := prog_5_method_18_code
def yX3_light : MethodName := ⟨RX3, "light", "(I)I"⟩
abbrev cX3_putOut : ByteArray := prog_5_method_19_code
def yX3_putOut : MethodName := ⟨RX3, "putOut", "(I)I"⟩
abbrev cX3_build : ByteArray := prog_5_method_20_code
def yX3_build : MethodName := ⟨RX3, "build", "(II)I"⟩
abbrev cX3_rearmost : ByteArray := prog_5_method_21_code
def yX3_rearmost : MethodName := ⟨RX3, "rearmost", "()I"⟩
abbrev cX3_afloat : ByteArray := prog_5_method_22_code
def yX3_afloat : MethodName := ⟨RX3, "afloat", "()I"⟩
abbrev cX3_launch : ByteArray := prog_5_method_23_code
def yX3_launch : MethodName := ⟨RX3, "launch", "(I)I"⟩
abbrev cX3_setRules : ByteArray := prog_5_method_24_code
def yX3_setRules : MethodName := ⟨RX3, "setRules", "(II)I"⟩
abbrev cX3_setGust : ByteArray := prog_5_method_25_code
def yX3_setGust : MethodName := ⟨RX3, "setGust", "(II)I"⟩
abbrev cX3_floatsMove : ByteArray := prog_5_method_26_code
def yX3_floatsMove : MethodName := ⟨RX3, "floatsMove", "()V"⟩
abbrev cX3_burns : ByteArray := prog_5_method_27_code
def yX3_burns : MethodName := ⟨RX3, "burns", "()V"⟩
abbrev cX3_lit : ByteArray := prog_5_method_28_code
def yX3_lit : MethodName := ⟨RX3, "lit", "()I"⟩
abbrev cX3_pass : ByteArray := prog_5_method_29_code
def yX3_pass : MethodName := ⟨RX3, "pass", "(I)I"⟩
abbrev cX3_time : ByteArray := prog_5_method_30_code
def yX3_time : MethodName := ⟨RX3, "time", "()I"⟩
abbrev cX3_lanterns : ByteArray := prog_5_method_31_code
def yX3_lanterns : MethodName := ⟨RX3, "lanterns", "()I"⟩
abbrev cX3_stateOf : ByteArray := prog_5_method_32_code
def yX3_stateOf : MethodName := ⟨RX3, "stateOf", "(I)I"⟩
abbrev cX3_left : ByteArray := prog_5_method_33_code
def yX3_left : MethodName := ⟨RX3, "left", "(I)I"⟩
abbrev cX3_placeOf : ByteArray := prog_5_method_34_code
def yX3_placeOf : MethodName := ⟨RX3, "placeOf", "(I)I"⟩
abbrev cX3_nearest : ByteArray := prog_5_method_35_code
def yX3_nearest : MethodName := ⟨RX3, "nearest", "(I)I"⟩
abbrev cX3_nearestOfAll : ByteArray := prog_5_method_36_code
def yX3_nearestOfAll : MethodName := ⟨RX3, "nearestOfAll", "(I)I"⟩
abbrev cX3_blownOut : ByteArray := prog_5_method_37_code
def yX3_blownOut : MethodName := ⟨RX3, "blownOut", "()I"⟩
abbrev cX3_ordered : ByteArray := prog_5_method_38_code
def yX3_ordered : MethodName := ⟨RX3, "ordered", "()I"⟩
abbrev cX3_sortOf : ByteArray := prog_5_method_39_code
def yX3_sortOf : MethodName := ⟨RX3, "sortOf", "(I)I"⟩
abbrev cX3_front : ByteArray := prog_5_method_40_code
def yX3_front : MethodName := ⟨RX3, "front", "(I)I"⟩
abbrev cX3_load : ByteArray := prog_5_method_41_code
def yX3_load : MethodName := ⟨RX3, "load", "(I)I"⟩
abbrev cX3_alike : ByteArray := prog_5_method_42_code
def yX3_alike : MethodName := ⟨RX3, "alike", "(II)I"⟩
abbrev cX3_likeness : ByteArray := prog_5_method_43_code
def yX3_likeness : MethodName := ⟨RX3, "likeness", "(II)I"⟩
abbrev cX3_prize : ByteArray := prog_5_method_44_code
def yX3_prize : MethodName := ⟨RX3, "prize", "(I)I"⟩
def RJ9 : String := "java/lang/Math"
def TJ9 : u_T := fun k => match k with
  | _ => ("", "", "", false)
def tyJ9 : Nat → FieldType := fun k => match k with
  | _ => .int
abbrev wsJ90 : List Cond := u_ws RJ9 TJ9 0
theorem nmJ9 : ∀ a, a < 0 → ∀ b, b < 0 → a ≠ b → (TJ9 a).2.1 ≠ (TJ9 b).2.1 := by decide +kernel
theorem tyJ9_ok : ∀ k, k < 0 → parseFieldDescriptor (TJ9 k).2.2.1 = some (tyJ9 k) := by decide +kernel
abbrev cJ9_max_7cf53 : ByteArray := prog_10_method_65_code
def yJ9_max_7cf53 : MethodName := ⟨RJ9, "max", "(II)I"⟩
abbrev cJ9_min_7cf53 : ByteArray := prog_10_method_69_code
def yJ9_min_7cf53 : MethodName := ⟨RJ9, "min", "(II)I"⟩
def RJ0 : String := "java/lang/String"
def TJ0 : u_T := fun k => match k with
  | _ => ("", "", "", false)
def tyJ0 : Nat → FieldType := fun k => match k with
  | _ => .int
abbrev wsJ00 : List Cond := u_ws RJ0 TJ0 0
theorem nmJ0 : ∀ a, a < 0 → ∀ b, b < 0 → a ≠ b → (TJ0 a).2.1 ≠ (TJ0 b).2.1 := by decide +kernel
theorem tyJ0_ok : ∀ k, k < 0 → parseFieldDescriptor (TJ0 k).2.2.1 = some (tyJ0 k) := by decide +kernel
def RL : String := "FestoonLaw"
abbrev cL_make : ByteArray := method_3_code
def yL_make : MethodName := ⟨RL, "make", "(LFestoon;III[J)I"⟩
abbrev cL_hang : ByteArray := method_4_code
def yL_hang : MethodName := ⟨RL, "hang", "(LFestoon;III[J)I"⟩
abbrev cL_takeDown : ByteArray := method_5_code
def yL_takeDown : MethodName := ⟨RL, "takeDown", "(LFestoon;I[J)I"⟩
abbrev cL_light : ByteArray := method_6_code
def yL_light : MethodName := ⟨RL, "light", "(LFestoon;I[J)I"⟩
abbrev cL_putOut : ByteArray := method_7_code
def yL_putOut : MethodName := ⟨RL, "putOut", "(LFestoon;I[J)I"⟩
abbrev cL_build : ByteArray := method_8_code
def yL_build : MethodName := ⟨RL, "build", "(LFestoon;II[J)I"⟩
abbrev cL_launch : ByteArray := method_9_code
def yL_launch : MethodName := ⟨RL, "launch", "(LFestoon;I[J)I"⟩
abbrev cL_setRules : ByteArray := method_10_code
def yL_setRules : MethodName := ⟨RL, "setRules", "(LFestoon;II[J)I"⟩
abbrev cL_setGust : ByteArray := method_11_code
def yL_setGust : MethodName := ⟨RL, "setGust", "(LFestoon;II[J)I"⟩
abbrev cL_pass : ByteArray := method_12_code
def yL_pass : MethodName := ⟨RL, "pass", "(LFestoon;I[J)I"⟩
abbrev cL_stateOf : ByteArray := method_13_code
def yL_stateOf : MethodName := ⟨RL, "stateOf", "(LFestoon;I[J)I"⟩
abbrev cL_left : ByteArray := method_14_code
def yL_left : MethodName := ⟨RL, "left", "(LFestoon;I[J)I"⟩
abbrev cL_placeOf : ByteArray := method_15_code
def yL_placeOf : MethodName := ⟨RL, "placeOf", "(LFestoon;I[J)I"⟩
abbrev cL_nearest : ByteArray := method_16_code
def yL_nearest : MethodName := ⟨RL, "nearest", "(LFestoon;I[J)I"⟩
abbrev cL_nearestOfAll : ByteArray := method_17_code
def yL_nearestOfAll : MethodName := ⟨RL, "nearestOfAll", "(LFestoon;I[J)I"⟩
abbrev cL_sortOf : ByteArray := method_18_code
def yL_sortOf : MethodName := ⟨RL, "sortOf", "(LFestoon;I[J)I"⟩
abbrev cL_front : ByteArray := method_19_code
def yL_front : MethodName := ⟨RL, "front", "(LFestoon;I[J)I"⟩
abbrev cL_load : ByteArray := method_20_code
def yL_load : MethodName := ⟨RL, "load", "(LFestoon;I[J)I"⟩
abbrev cL_likeness : ByteArray := method_21_code
def yL_likeness : MethodName := ⟨RL, "likeness", "(LFestoon;II[J)I"⟩
abbrev cL_prize : ByteArray := method_22_code
def yL_prize : MethodName := ⟨RL, "prize", "(LFestoon;I[J)I"⟩
abbrev cL_law : ByteArray := code
def yL_law : MethodName := ⟨RL, "law", "([I)Z"⟩
def wsX0_init : List Cond := .code yX0_init cX0_init 4 none :: ([.methodLink RX0 3 objectInit, .instanceMethod objectInit, .code objectInit ⟨#[0xb1]⟩ 1 none, .fieldLink RX0 9 "Festoon$Lantern" "state" "I", .fieldLink RX0 15 "Festoon$Lantern" "raft" "LFestoon$Raft;", .fieldLink RX0 19 "Festoon$Lantern" "slot" "I", .fieldLink RX0 22 "Festoon$Lantern" "ribs" "I", .fieldLink RX0 25 "Festoon$Lantern" "paper" "I", .fieldLink RX0 28 "Festoon$Lantern" "candle" "I", .fieldLink RX0 31 "Festoon$Lantern" "left" "I"] ++ wsX00)
def wsX0_weight : List Cond := .code yX0_weight cX0_weight 1 (some .int) :: ([.fieldLink RX0 22 "Festoon$Lantern" "ribs" "I", .fieldLink RX0 25 "Festoon$Lantern" "paper" "I", .fieldLink RX0 28 "Festoon$Lantern" "candle" "I"] ++ wsX00)
def wsX0_firmness : List Cond := .code yX0_firmness cX0_firmness 1 (some .int) :: ([.fieldLink RX0 25 "Festoon$Lantern" "paper" "I", .fieldLink RX0 22 "Festoon$Lantern" "ribs" "I"] ++ wsX00)
def wsX0_place : List Cond := .code yX0_place cX0_place 1 (some .int) :: ([.fieldLink RX0 15 "Festoon$Lantern" "raft" "LFestoon$Raft;", .fieldLink RX0 34 "Festoon$Raft" "sort" "I", .fieldLink RX0 39 "Festoon$Raft" "front" "I", .fieldLink RX0 19 "Festoon$Lantern" "slot" "I"] ++ wsX00 ++ wsX10)
def wsX0_distanceTo : List Cond := .code yX0_distanceTo cX0_distanceTo 3 (some .int) :: ([.methodLink RX0 42 yX0_place, .instanceMethod yX0_place, .selects RX0 yX0_place yX0_place, .initialized RX0, .code yX0_place cX0_place 1 (some .int), .fieldLink RX0 15 "Festoon$Lantern" "raft" "LFestoon$Raft;", .fieldLink RX0 34 "Festoon$Raft" "sort" "I", .fieldLink RX0 39 "Festoon$Raft" "front" "I", .fieldLink RX0 19 "Festoon$Lantern" "slot" "I"] ++ wsX00 ++ wsX10)
def wsX0_darken : List Cond := .code yX0_darken cX0_darken 1 none :: ([.fieldLink RX0 9 "Festoon$Lantern" "state" "I"] ++ wsX00)
def wsX0_burnOneMinute : List Cond := .code yX0_burnOneMinute cX0_burnOneMinute 1 none :: ([.fieldLink RX0 31 "Festoon$Lantern" "left" "I", .fieldLink RX0 9 "Festoon$Lantern" "state" "I"] ++ wsX00)
def wsX1_init : List Cond := .code yX1_init cX1_init 4 none :: ([.methodLink RX1 3 objectInit, .instanceMethod objectInit, .code objectInit ⟨#[0xb1]⟩ 1 none, .classLink RX1 9 RX0, .fieldLink RX1 11 "Festoon$Raft" "slots" "[LFestoon$Lantern;", .fieldLink RX1 17 "Festoon$Raft" "sort" "I", .fieldLink RX1 21 "Festoon$Raft" "front" "I", .fieldLink RX1 24 "Festoon$Raft" "order" "I", .fieldLink RX1 27 "Festoon$Raft" "number" "I", .fieldLink RX1 30 "Festoon$Raft" "speed" "I", .fieldLink RX1 33 "Festoon$Raft" "bears" "I"] ++ wsX10)
def wsX1_rear : List Cond := .code yX1_rear cX1_rear 1 (some .int) :: ([.fieldLink RX1 21 "Festoon$Raft" "front" "I"] ++ wsX10)
def wsX2_within : List Cond := .code yX2_within cX2_within 3 (some .boolean) :: ([])
def wsX1_lanternIn : List Cond := .code yX1_lanternIn cX1_lanternIn 2 (some (.object "Festoon$Lantern")) :: ([.fieldLink RX1 11 "Festoon$Raft" "slots" "[LFestoon$Lantern;", .static yX2_within, .initialized RX2, .code yX2_within cX2_within 3 (some .boolean)] ++ wsX10)
def wsX1_put : List Cond := .code yX1_put cX1_put 3 none :: ([.fieldLink RX1 11 "Festoon$Raft" "slots" "[LFestoon$Lantern;", .fieldLink RX1 40 "Festoon$Lantern" "raft" "LFestoon$Raft;", .fieldLink RX1 44 "Festoon$Lantern" "slot" "I", .static yX2_within, .initialized RX2, .code yX2_within cX2_within 3 (some .boolean)] ++ wsX10 ++ wsX00)
def wsX1_free : List Cond := .code yX1_free cX1_free 3 none :: ([.fieldLink RX1 11 "Festoon$Raft" "slots" "[LFestoon$Lantern;", .fieldLink RX1 40 "Festoon$Lantern" "raft" "LFestoon$Raft;", .fieldLink RX1 44 "Festoon$Lantern" "slot" "I"] ++ wsX10 ++ wsX00)
def wsX1_weight : List Cond := .code yX1_weight cX1_weight 6 (some .int) :: ([.fieldLink RX1 11 "Festoon$Raft" "slots" "[LFestoon$Lantern;", .methodLink RX1 47 yX0_weight, .instanceMethod yX0_weight, .selects RX0 yX0_weight yX0_weight, .initialized RX0, .code yX0_weight cX0_weight 1 (some .int), .fieldLink RX0 22 "Festoon$Lantern" "ribs" "I", .fieldLink RX0 25 "Festoon$Lantern" "paper" "I", .fieldLink RX0 28 "Festoon$Lantern" "candle" "I"] ++ wsX10 ++ wsX00)
def wsX1_moveBehind : List Cond := .code yX1_moveBehind cX1_moveBehind 4 none :: ([.fieldLink RX1 21 "Festoon$Raft" "front" "I", .fieldLink RX1 30 "Festoon$Raft" "speed" "I", .methodLink RX1 54 Lib.Math.min.name, .static Lib.Math.min.name, .initialized "java/lang/Math", .code Lib.Math.min.name Lib.Math.min.code 2 (some .int), .methodLink RX1 60 Lib.Math.max.name, .static Lib.Math.max.name, .code Lib.Math.max.name Lib.Math.max.code 2 (some .int), .methodLink RX1 51 yX1_rear, .instanceMethod yX1_rear, .selects RX1 yX1_rear yX1_rear, .initialized RX1, .code yX1_rear cX1_rear 1 (some .int)] ++ wsX10)
def wsX1_darkenAll : List Cond := .code yX1_darkenAll cX1_darkenAll 5 none :: ([.fieldLink RX1 11 "Festoon$Raft" "slots" "[LFestoon$Lantern;", .methodLink RX1 63 yX0_darken, .instanceMethod yX0_darken, .selects RX0 yX0_darken yX0_darken, .initialized RX0, .code yX0_darken cX0_darken 1 none, .fieldLink RX0 9 "Festoon$Lantern" "state" "I"] ++ wsX10 ++ wsX00)
def wsX2_nearer : List Cond := .code yX2_nearer cX2_nearer 2 (some .int) :: ([.methodLink RX2 245 Lib.Math.max.name, .static Lib.Math.max.name, .initialized "java/lang/Math", .code Lib.Math.max.name Lib.Math.max.code 2 (some .int), .methodLink RX2 240 Lib.Math.min.name, .static Lib.Math.min.name, .code Lib.Math.min.name Lib.Math.min.code 2 (some .int)])
def wsX1_nearestLit_r1 : List Cond := [Cond.fieldLink RX1 11 "Festoon$Raft" "slots" "[LFestoon$Lantern;", Cond.fieldLink RX1 66 "Festoon$Lantern" "state" "I", Cond.methodLink RX1 69 yX0_distanceTo, Cond.instanceMethod yX0_distanceTo, Cond.selects RX0 yX0_distanceTo yX0_distanceTo, Cond.initialized RX0, Cond.code yX0_distanceTo cX0_distanceTo 3 (some .int), Cond.methodLink RX0 42 yX0_place, Cond.instanceMethod yX0_place, Cond.selects RX0 yX0_place yX0_place, Cond.code yX0_place cX0_place 1 (some .int), Cond.fieldLink RX0 15 "Festoon$Lantern" "raft" "LFestoon$Raft;", Cond.fieldLink RX0 34 "Festoon$Raft" "sort" "I", Cond.fieldLink RX0 39 "Festoon$Raft" "front" "I", Cond.fieldLink RX0 19 "Festoon$Lantern" "slot" "I", Cond.static yX2_nearer, Cond.initialized RX2, Cond.code yX2_nearer cX2_nearer 2 (some .int), Cond.methodLink RX2 245 Lib.Math.max.name, Cond.static Lib.Math.max.name, Cond.initialized "java/lang/Math", Cond.code Lib.Math.max.name Lib.Math.max.code 2 (some .int), Cond.methodLink RX2 240 Lib.Math.min.name, Cond.static Lib.Math.min.name]
def wsX1_nearestLit_r2 : List Cond := [Cond.code Lib.Math.min.name Lib.Math.min.code 2 (some .int)]
def wsX1_nearestLit : List Cond := .code yX1_nearestLit cX1_nearestLit 7 (some .int) :: ((wsX1_nearestLit_r1 ++ wsX1_nearestLit_r2) ++ wsX10 ++ wsX00)
def wsX1_alike : List Cond := .code yX1_alike cX1_alike 7 (some .int) :: ([.fieldLink RX1 11 "Festoon$Raft" "slots" "[LFestoon$Lantern;", .fieldLink RX1 66 "Festoon$Lantern" "state" "I"] ++ wsX10 ++ wsX00)
def wsX2_init : List Cond := .code yX2_init cX2_init 1 none :: ([.methodLink RX2 1 objectInit, .instanceMethod objectInit, .code objectInit ⟨#[0xb1]⟩ 1 none, .classLink RX2 9 RX0, .fieldLink RX2 11 "Festoon" "lanterns" "[LFestoon$Lantern;", .classLink RX2 15 RX1, .fieldLink RX2 17 "Festoon" "rafts" "[LFestoon$Raft;", .fieldLink RX2 21 "Festoon" "launched" "[LFestoon$Raft;", .arrayClass .int, .fieldLink RX2 24 "Festoon" "gusts" "[I", .fieldLink RX2 28 "Festoon" "made" "I", .fieldLink RX2 32 "Festoon" "built" "I", .fieldLink RX2 35 "Festoon" "launches" "I", .fieldLink RX2 38 "Festoon" "now" "I", .fieldLink RX2 41 "Festoon" "gap" "I", .fieldLink RX2 44 "Festoon" "base" "I", .fieldLink RX2 47 "Festoon" "darkByGusts" "I", .fieldLink RX2 50 "Festoon" "darkByMarshal" "I"] ++ wsX20)
def wsX2_make_r1 : List Cond := [Cond.classLink RX2 57 "java/lang/IllegalArgumentException", Cond.initialized "java/lang/IllegalArgumentException", Cond.classLink RX2 64 "java/lang/IllegalStateException", Cond.initialized "java/lang/IllegalStateException", Cond.fieldLink RX2 28 "Festoon" "made" "I", Cond.fieldLink RX2 11 "Festoon" "lanterns" "[LFestoon$Lantern;", Cond.classLink RX2 9 RX0, Cond.instantiable RX0 7, Cond.initialized RX0, Cond.methodLink RX2 53 yX2_within, Cond.static yX2_within, Cond.initialized RX2, Cond.code yX2_within cX2_within 3 (some .boolean), Cond.methodLink RX2 69 yX0_init, Cond.instanceMethod yX0_init, Cond.code yX0_init cX0_init 4 none, Cond.methodLink RX0 3 objectInit, Cond.instanceMethod objectInit, Cond.code objectInit ⟨#[0xb1]⟩ 1 none, Cond.fieldLink RX0 9 "Festoon$Lantern" "state" "I", Cond.fieldLink RX0 15 "Festoon$Lantern" "raft" "LFestoon$Raft;", Cond.fieldLink RX0 19 "Festoon$Lantern" "slot" "I", Cond.fieldLink RX0 22 "Festoon$Lantern" "ribs" "I", Cond.fieldLink RX0 25 "Festoon$Lantern" "paper" "I"]
def wsX2_make_r2 : List Cond := [Cond.fieldLink RX0 28 "Festoon$Lantern" "candle" "I", Cond.fieldLink RX0 31 "Festoon$Lantern" "left" "I"]
def wsX2_make : List Cond := .code yX2_make cX2_make 4 (some .int) :: ((wsX2_make_r1 ++ wsX2_make_r2) ++ wsX20 ++ wsX00 ++ (vx_atS RX2 61 "java/lang/IllegalArgumentException" ["java/lang/RuntimeException", "java/lang/Exception"]).filter goodWord ++ (vx_atS RX2 68 "java/lang/IllegalStateException" ["java/lang/RuntimeException", "java/lang/Exception"]).filter goodWord)
def wsX2_lanternNumbered : List Cond := .code yX2_lanternNumbered cX2_lanternNumbered 3 (some (.object "Festoon$Lantern")) :: ([.classLink RX2 80 "java/lang/IndexOutOfBoundsException", .initialized "java/lang/IndexOutOfBoundsException", .fieldLink RX2 11 "Festoon" "lanterns" "[LFestoon$Lantern;", .methodLink RX2 53 yX2_within, .static yX2_within, .initialized RX2, .code yX2_within cX2_within 3 (some .boolean)] ++ wsX20 ++ (vx_atS RX2 84 "java/lang/IndexOutOfBoundsException" ["java/lang/RuntimeException", "java/lang/Exception"]).filter goodWord)
def wsX2_raftNumbered : List Cond := .code yX2_raftNumbered cX2_raftNumbered 3 (some (.object "Festoon$Raft")) :: ([.classLink RX2 80 "java/lang/IndexOutOfBoundsException", .initialized "java/lang/IndexOutOfBoundsException", .fieldLink RX2 17 "Festoon" "rafts" "[LFestoon$Raft;", .methodLink RX2 53 yX2_within, .static yX2_within, .initialized RX2, .code yX2_within cX2_within 3 (some .boolean)] ++ wsX20 ++ (vx_atS RX2 84 "java/lang/IndexOutOfBoundsException" ["java/lang/RuntimeException", "java/lang/Exception"]).filter goodWord)
def wsX2_hang_r1 : List Cond := [Cond.classLink RX2 80 "java/lang/IndexOutOfBoundsException", Cond.initialized "java/lang/IndexOutOfBoundsException", Cond.classLink RX2 57 "java/lang/IllegalArgumentException", Cond.initialized "java/lang/IllegalArgumentException", Cond.classLink RX2 64 "java/lang/IllegalStateException", Cond.initialized "java/lang/IllegalStateException", Cond.fieldLink RX2 90 "Festoon$Lantern" "raft" "LFestoon$Raft;", Cond.fieldLink RX2 94 "Festoon$Raft" "sort" "I", Cond.fieldLink RX2 104 "Festoon$Raft" "bears" "I", Cond.methodLink RX2 72 yX2_lanternNumbered, Cond.instanceMethod yX2_lanternNumbered, Cond.selects RX2 yX2_lanternNumbered yX2_lanternNumbered, Cond.initialized RX2, Cond.code yX2_lanternNumbered cX2_lanternNumbered 3 (some (.object "Festoon$Lantern")), Cond.fieldLink RX2 11 "Festoon" "lanterns" "[LFestoon$Lantern;", Cond.methodLink RX2 53 yX2_within, Cond.static yX2_within, Cond.code yX2_within cX2_within 3 (some .boolean), Cond.methodLink RX2 76 yX2_raftNumbered, Cond.instanceMethod yX2_raftNumbered, Cond.selects RX2 yX2_raftNumbered yX2_raftNumbered, Cond.code yX2_raftNumbered cX2_raftNumbered 3 (some (.object "Festoon$Raft")), Cond.fieldLink RX2 17 "Festoon" "rafts" "[LFestoon$Raft;", Cond.methodLink RX2 85 yX1_lanternIn]
def wsX2_hang_r2 : List Cond := [Cond.instanceMethod yX1_lanternIn, Cond.selects RX1 yX1_lanternIn yX1_lanternIn, Cond.initialized RX1, Cond.code yX1_lanternIn cX1_lanternIn 2 (some (.object "Festoon$Lantern")), Cond.fieldLink RX1 11 "Festoon$Raft" "slots" "[LFestoon$Lantern;", Cond.methodLink RX2 99 yX1_weight, Cond.instanceMethod yX1_weight, Cond.selects RX1 yX1_weight yX1_weight, Cond.code yX1_weight cX1_weight 6 (some .int), Cond.methodLink RX1 47 yX0_weight, Cond.instanceMethod yX0_weight, Cond.selects RX0 yX0_weight yX0_weight, Cond.initialized RX0, Cond.code yX0_weight cX0_weight 1 (some .int), Cond.fieldLink RX0 22 "Festoon$Lantern" "ribs" "I", Cond.fieldLink RX0 25 "Festoon$Lantern" "paper" "I", Cond.fieldLink RX0 28 "Festoon$Lantern" "candle" "I", Cond.methodLink RX2 103 yX0_weight, Cond.methodLink RX2 109 yX1_put, Cond.instanceMethod yX1_put, Cond.selects RX1 yX1_put yX1_put, Cond.code yX1_put cX1_put 3 none, Cond.fieldLink RX1 40 "Festoon$Lantern" "raft" "LFestoon$Raft;", Cond.fieldLink RX1 44 "Festoon$Lantern" "slot" "I"]
def wsX2_hang : List Cond := .code yX2_hang cX2_hang 6 (some .int) :: ((wsX2_hang_r1 ++ wsX2_hang_r2) ++ wsX00 ++ wsX10 ++ wsX20 ++ (vx_atS RX2 84 "java/lang/IndexOutOfBoundsException" ["java/lang/RuntimeException", "java/lang/Exception"]).filter goodWord ++ (vx_atS RX2 61 "java/lang/IllegalArgumentException" ["java/lang/RuntimeException", "java/lang/Exception"]).filter goodWord ++ (vx_atS RX2 68 "java/lang/IllegalStateException" ["java/lang/RuntimeException", "java/lang/Exception"]).filter goodWord)
def wsX2_takeDown_r1 : List Cond := [Cond.classLink RX2 64 "java/lang/IllegalStateException", Cond.initialized "java/lang/IllegalStateException", Cond.fieldLink RX2 90 "Festoon$Lantern" "raft" "LFestoon$Raft;", Cond.fieldLink RX2 122 "Festoon$Raft" "number" "I", Cond.methodLink RX2 72 yX2_lanternNumbered, Cond.instanceMethod yX2_lanternNumbered, Cond.selects RX2 yX2_lanternNumbered yX2_lanternNumbered, Cond.initialized RX2, Cond.code yX2_lanternNumbered cX2_lanternNumbered 3 (some (.object "Festoon$Lantern")), Cond.classLink RX2 80 "java/lang/IndexOutOfBoundsException", Cond.initialized "java/lang/IndexOutOfBoundsException", Cond.fieldLink RX2 11 "Festoon" "lanterns" "[LFestoon$Lantern;", Cond.methodLink RX2 53 yX2_within, Cond.static yX2_within, Cond.code yX2_within cX2_within 3 (some .boolean), Cond.methodLink RX2 115 yX1_free, Cond.instanceMethod yX1_free, Cond.selects RX1 yX1_free yX1_free, Cond.initialized RX1, Cond.code yX1_free cX1_free 3 none, Cond.fieldLink RX1 11 "Festoon$Raft" "slots" "[LFestoon$Lantern;", Cond.fieldLink RX1 40 "Festoon$Lantern" "raft" "LFestoon$Raft;", Cond.fieldLink RX1 44 "Festoon$Lantern" "slot" "I", Cond.methodLink RX2 119 yX0_darken]
def wsX2_takeDown_r2 : List Cond := [Cond.instanceMethod yX0_darken, Cond.selects RX0 yX0_darken yX0_darken, Cond.initialized RX0, Cond.code yX0_darken cX0_darken 1 none, Cond.fieldLink RX0 9 "Festoon$Lantern" "state" "I"]
def wsX2_takeDown : List Cond := .code yX2_takeDown cX2_takeDown 4 (some .int) :: ((wsX2_takeDown_r1 ++ wsX2_takeDown_r2) ++ wsX00 ++ wsX10 ++ wsX20 ++ (vx_atS RX2 68 "java/lang/IllegalStateException" ["java/lang/RuntimeException", "java/lang/Exception"]).filter goodWord ++ (vx_atS RX2 84 "java/lang/IndexOutOfBoundsException" ["java/lang/RuntimeException", "java/lang/Exception"]).filter goodWord)
def wsX2_isTooNear : List Cond := .code yX2_isTooNear cX2_isTooNear 3 (some .boolean) :: ([.fieldLink RX2 237 "Festoon$Lantern" "candle" "I", .fieldLink RX2 44 "Festoon" "base" "I", .methodLink RX2 189 yX0_distanceTo, .instanceMethod yX0_distanceTo, .selects RX0 yX0_distanceTo yX0_distanceTo, .initialized RX0, .code yX0_distanceTo cX0_distanceTo 3 (some .int), .methodLink RX0 42 yX0_place, .instanceMethod yX0_place, .selects RX0 yX0_place yX0_place, .code yX0_place cX0_place 1 (some .int), .fieldLink RX0 15 "Festoon$Lantern" "raft" "LFestoon$Raft;", .fieldLink RX0 34 "Festoon$Raft" "sort" "I", .fieldLink RX0 39 "Festoon$Raft" "front" "I", .fieldLink RX0 19 "Festoon$Lantern" "slot" "I"] ++ wsX00 ++ wsX20 ++ wsX10)
def wsX2_isCrowded : List Cond := .code yX2_isCrowded cX2_isCrowded 5 (some .boolean) :: ([.fieldLink RX2 11 "Festoon" "lanterns" "[LFestoon$Lantern;", .fieldLink RX2 125 "Festoon$Lantern" "state" "I", .methodLink RX2 233 yX2_isTooNear, .instanceMethod yX2_isTooNear, .selects RX2 yX2_isTooNear yX2_isTooNear, .initialized RX2, .code yX2_isTooNear cX2_isTooNear 3 (some .boolean), .fieldLink RX2 237 "Festoon$Lantern" "candle" "I", .fieldLink RX2 44 "Festoon" "base" "I", .methodLink RX2 189 yX0_distanceTo, .instanceMethod yX0_distanceTo, .selects RX0 yX0_distanceTo yX0_distanceTo, .initialized RX0, .code yX0_distanceTo cX0_distanceTo 3 (some .int), .methodLink RX0 42 yX0_place, .instanceMethod yX0_place, .selects RX0 yX0_place yX0_place, .code yX0_place cX0_place 1 (some .int), .fieldLink RX0 15 "Festoon$Lantern" "raft" "LFestoon$Raft;", .fieldLink RX0 34 "Festoon$Raft" "sort" "I", .fieldLink RX0 39 "Festoon$Raft" "front" "I", .fieldLink RX0 19 "Festoon$Lantern" "slot" "I"] ++ wsX20 ++ wsX00 ++ wsX10)
def wsX2_light_r1 : List Cond := [Cond.classLink RX2 64 "java/lang/IllegalStateException", Cond.initialized "java/lang/IllegalStateException", Cond.fieldLink RX2 125 "Festoon$Lantern" "state" "I", Cond.fieldLink RX2 137 "Festoon$Lantern" "left" "I", Cond.methodLink RX2 72 yX2_lanternNumbered, Cond.instanceMethod yX2_lanternNumbered, Cond.selects RX2 yX2_lanternNumbered yX2_lanternNumbered, Cond.initialized RX2, Cond.code yX2_lanternNumbered cX2_lanternNumbered 3 (some (.object "Festoon$Lantern")), Cond.classLink RX2 80 "java/lang/IndexOutOfBoundsException", Cond.initialized "java/lang/IndexOutOfBoundsException", Cond.fieldLink RX2 11 "Festoon" "lanterns" "[LFestoon$Lantern;", Cond.methodLink RX2 53 yX2_within, Cond.static yX2_within, Cond.code yX2_within cX2_within 3 (some .boolean), Cond.methodLink RX2 128 yX0_place, Cond.instanceMethod yX0_place, Cond.selects RX0 yX0_place yX0_place, Cond.initialized RX0, Cond.code yX0_place cX0_place 1 (some .int), Cond.fieldLink RX0 15 "Festoon$Lantern" "raft" "LFestoon$Raft;", Cond.fieldLink RX0 34 "Festoon$Raft" "sort" "I", Cond.fieldLink RX0 39 "Festoon$Raft" "front" "I", Cond.fieldLink RX0 19 "Festoon$Lantern" "slot" "I"]
def wsX2_light_r2 : List Cond := [Cond.methodLink RX2 131 yX2_isCrowded, Cond.instanceMethod yX2_isCrowded, Cond.selects RX2 yX2_isCrowded yX2_isCrowded, Cond.code yX2_isCrowded cX2_isCrowded 5 (some .boolean), Cond.methodLink RX2 233 yX2_isTooNear, Cond.instanceMethod yX2_isTooNear, Cond.selects RX2 yX2_isTooNear yX2_isTooNear, Cond.code yX2_isTooNear cX2_isTooNear 3 (some .boolean), Cond.fieldLink RX2 237 "Festoon$Lantern" "candle" "I", Cond.fieldLink RX2 44 "Festoon" "base" "I", Cond.methodLink RX2 189 yX0_distanceTo, Cond.instanceMethod yX0_distanceTo, Cond.selects RX0 yX0_distanceTo yX0_distanceTo, Cond.code yX0_distanceTo cX0_distanceTo 3 (some .int), Cond.methodLink RX0 42 yX0_place]
def wsX2_light : List Cond := .code yX2_light cX2_light 3 (some .int) :: ((wsX2_light_r1 ++ wsX2_light_r2) ++ wsX00 ++ wsX20 ++ wsX10 ++ (vx_atS RX2 68 "java/lang/IllegalStateException" ["java/lang/RuntimeException", "java/lang/Exception"]).filter goodWord ++ (vx_atS RX2 84 "java/lang/IndexOutOfBoundsException" ["java/lang/RuntimeException", "java/lang/Exception"]).filter goodWord)
def wsX2_putOut : List Cond := .code yX2_putOut cX2_putOut 3 (some .int) :: ([.classLink RX2 64 "java/lang/IllegalStateException", .initialized "java/lang/IllegalStateException", .fieldLink RX2 125 "Festoon$Lantern" "state" "I", .fieldLink RX2 137 "Festoon$Lantern" "left" "I", .methodLink RX2 72 yX2_lanternNumbered, .instanceMethod yX2_lanternNumbered, .selects RX2 yX2_lanternNumbered yX2_lanternNumbered, .initialized RX2, .code yX2_lanternNumbered cX2_lanternNumbered 3 (some (.object "Festoon$Lantern")), .classLink RX2 80 "java/lang/IndexOutOfBoundsException", .initialized "java/lang/IndexOutOfBoundsException", .fieldLink RX2 11 "Festoon" "lanterns" "[LFestoon$Lantern;", .methodLink RX2 53 yX2_within, .static yX2_within, .code yX2_within cX2_within 3 (some .boolean), .methodLink RX2 119 yX0_darken, .instanceMethod yX0_darken, .selects RX0 yX0_darken yX0_darken, .initialized RX0, .code yX0_darken cX0_darken 1 none, .fieldLink RX0 9 "Festoon$Lantern" "state" "I"] ++ wsX00 ++ wsX20 ++ (vx_atS RX2 68 "java/lang/IllegalStateException" ["java/lang/RuntimeException", "java/lang/Exception"]).filter goodWord ++ (vx_atS RX2 84 "java/lang/IndexOutOfBoundsException" ["java/lang/RuntimeException", "java/lang/Exception"]).filter goodWord)
def wsX2_build_r1 : List Cond := [Cond.classLink RX2 57 "java/lang/IllegalArgumentException", Cond.initialized "java/lang/IllegalArgumentException", Cond.classLink RX2 64 "java/lang/IllegalStateException", Cond.initialized "java/lang/IllegalStateException", Cond.fieldLink RX2 32 "Festoon" "built" "I", Cond.fieldLink RX2 17 "Festoon" "rafts" "[LFestoon$Raft;", Cond.classLink RX2 15 RX1, Cond.instantiable RX1 7, Cond.initialized RX1, Cond.methodLink RX2 53 yX2_within, Cond.static yX2_within, Cond.initialized RX2, Cond.code yX2_within cX2_within 3 (some .boolean), Cond.methodLink RX2 146 yX1_init, Cond.instanceMethod yX1_init, Cond.code yX1_init cX1_init 4 none, Cond.methodLink RX1 3 objectInit, Cond.instanceMethod objectInit, Cond.code objectInit ⟨#[0xb1]⟩ 1 none, Cond.classLink RX1 9 RX0, Cond.fieldLink RX1 11 "Festoon$Raft" "slots" "[LFestoon$Lantern;", Cond.fieldLink RX1 17 "Festoon$Raft" "sort" "I", Cond.fieldLink RX1 21 "Festoon$Raft" "front" "I", Cond.fieldLink RX1 24 "Festoon$Raft" "order" "I"]
def wsX2_build_r2 : List Cond := [Cond.fieldLink RX1 27 "Festoon$Raft" "number" "I", Cond.fieldLink RX1 30 "Festoon$Raft" "speed" "I", Cond.fieldLink RX1 33 "Festoon$Raft" "bears" "I"]
def wsX2_build : List Cond := .code yX2_build cX2_build 3 (some .int) :: ((wsX2_build_r1 ++ wsX2_build_r2) ++ wsX20 ++ wsX10 ++ (vx_atS RX2 61 "java/lang/IllegalArgumentException" ["java/lang/RuntimeException", "java/lang/Exception"]).filter goodWord ++ (vx_atS RX2 68 "java/lang/IllegalStateException" ["java/lang/RuntimeException", "java/lang/Exception"]).filter goodWord)
def wsX2_hasRoomToLaunch : List Cond := .code yX2_hasRoomToLaunch cX2_hasRoomToLaunch 6 (some .boolean) :: ([.fieldLink RX2 21 "Festoon" "launched" "[LFestoon$Raft;", .fieldLink RX2 94 "Festoon$Raft" "sort" "I", .fieldLink RX2 41 "Festoon" "gap" "I", .methodLink RX2 202 yX1_rear, .instanceMethod yX1_rear, .selects RX1 yX1_rear yX1_rear, .initialized RX1, .code yX1_rear cX1_rear 1 (some .int), .fieldLink RX1 21 "Festoon$Raft" "front" "I"] ++ wsX20 ++ wsX10)
def wsX2_raftsOnRiver : List Cond := .code yX2_raftsOnRiver cX2_raftsOnRiver 6 (some .int) :: ([.fieldLink RX2 21 "Festoon" "launched" "[LFestoon$Raft;", .fieldLink RX2 94 "Festoon$Raft" "sort" "I"] ++ wsX20 ++ wsX10)
def wsX2_launch_r1 : List Cond := [Cond.classLink RX2 64 "java/lang/IllegalStateException", Cond.initialized "java/lang/IllegalStateException", Cond.fieldLink RX2 94 "Festoon$Raft" "sort" "I", Cond.fieldLink RX2 35 "Festoon" "launches" "I", Cond.fieldLink RX2 21 "Festoon" "launched" "[LFestoon$Raft;", Cond.fieldLink RX2 153 "Festoon$Raft" "front" "I", Cond.fieldLink RX2 156 "Festoon$Raft" "order" "I", Cond.methodLink RX2 76 yX2_raftNumbered, Cond.instanceMethod yX2_raftNumbered, Cond.selects RX2 yX2_raftNumbered yX2_raftNumbered, Cond.initialized RX2, Cond.code yX2_raftNumbered cX2_raftNumbered 3 (some (.object "Festoon$Raft")), Cond.classLink RX2 80 "java/lang/IndexOutOfBoundsException", Cond.initialized "java/lang/IndexOutOfBoundsException", Cond.fieldLink RX2 17 "Festoon" "rafts" "[LFestoon$Raft;", Cond.methodLink RX2 53 yX2_within, Cond.static yX2_within, Cond.code yX2_within cX2_within 3 (some .boolean), Cond.methodLink RX2 147 yX2_hasRoomToLaunch, Cond.instanceMethod yX2_hasRoomToLaunch, Cond.selects RX2 yX2_hasRoomToLaunch yX2_hasRoomToLaunch, Cond.code yX2_hasRoomToLaunch cX2_hasRoomToLaunch 6 (some .boolean), Cond.fieldLink RX2 41 "Festoon" "gap" "I", Cond.methodLink RX2 202 yX1_rear]
def wsX2_launch_r2 : List Cond := [Cond.instanceMethod yX1_rear, Cond.selects RX1 yX1_rear yX1_rear, Cond.initialized RX1, Cond.code yX1_rear cX1_rear 1 (some .int), Cond.fieldLink RX1 21 "Festoon$Raft" "front" "I", Cond.methodLink RX2 159 yX2_raftsOnRiver, Cond.instanceMethod yX2_raftsOnRiver, Cond.selects RX2 yX2_raftsOnRiver yX2_raftsOnRiver, Cond.code yX2_raftsOnRiver cX2_raftsOnRiver 6 (some .int)]
def wsX2_launch : List Cond := .code yX2_launch cX2_launch 3 (some .int) :: ((wsX2_launch_r1 ++ wsX2_launch_r2) ++ wsX10 ++ wsX20 ++ (vx_atS RX2 68 "java/lang/IllegalStateException" ["java/lang/RuntimeException", "java/lang/Exception"]).filter goodWord ++ (vx_atS RX2 84 "java/lang/IndexOutOfBoundsException" ["java/lang/RuntimeException", "java/lang/Exception"]).filter goodWord)
def wsX2_setRules : List Cond := .code yX2_setRules cX2_setRules 4 (some .int) :: ([.classLink RX2 57 "java/lang/IllegalArgumentException", .initialized "java/lang/IllegalArgumentException", .fieldLink RX2 41 "Festoon" "gap" "I", .fieldLink RX2 44 "Festoon" "base" "I", .methodLink RX2 53 yX2_within, .static yX2_within, .initialized RX2, .code yX2_within cX2_within 3 (some .boolean)] ++ wsX20 ++ (vx_atS RX2 61 "java/lang/IllegalArgumentException" ["java/lang/RuntimeException", "java/lang/Exception"]).filter goodWord)
def wsX2_setGust : List Cond := .code yX2_setGust cX2_setGust 4 (some .int) :: ([.classLink RX2 57 "java/lang/IllegalArgumentException", .initialized "java/lang/IllegalArgumentException", .fieldLink RX2 24 "Festoon" "gusts" "[I", .methodLink RX2 53 yX2_within, .static yX2_within, .initialized RX2, .code yX2_within cX2_within 3 (some .boolean)] ++ wsX20 ++ (vx_atS RX2 61 "java/lang/IllegalArgumentException" ["java/lang/RuntimeException", "java/lang/Exception"]).filter goodWord)
def wsX2_litLanterns : List Cond := .code yX2_litLanterns cX2_litLanterns 6 (some .int) :: ([.fieldLink RX2 11 "Festoon" "lanterns" "[LFestoon$Lantern;", .fieldLink RX2 125 "Festoon$Lantern" "state" "I"] ++ wsX20 ++ wsX00)
def wsX2_moveRafts : List Cond := .code yX2_moveRafts cX2_moveRafts 6 none :: ([.fieldLink RX2 21 "Festoon" "launched" "[LFestoon$Raft;", .fieldLink RX2 94 "Festoon$Raft" "sort" "I", .fieldLink RX2 41 "Festoon" "gap" "I", .methodLink RX2 220 yX1_moveBehind, .instanceMethod yX1_moveBehind, .selects RX1 yX1_moveBehind yX1_moveBehind, .initialized RX1, .code yX1_moveBehind cX1_moveBehind 4 none, .fieldLink RX1 21 "Festoon$Raft" "front" "I", .fieldLink RX1 30 "Festoon$Raft" "speed" "I", .methodLink RX1 54 Lib.Math.min.name, .static Lib.Math.min.name, .initialized "java/lang/Math", .code Lib.Math.min.name Lib.Math.min.code 2 (some .int), .methodLink RX1 60 Lib.Math.max.name, .static Lib.Math.max.name, .code Lib.Math.max.name Lib.Math.max.code 2 (some .int), .methodLink RX1 51 yX1_rear, .instanceMethod yX1_rear, .selects RX1 yX1_rear yX1_rear, .code yX1_rear cX1_rear 1 (some .int)] ++ wsX20 ++ wsX10)
def wsX2_letRaftsGo : List Cond := .code yX2_letRaftsGo cX2_letRaftsGo 5 none :: ([.fieldLink RX2 21 "Festoon" "launched" "[LFestoon$Raft;", .fieldLink RX2 94 "Festoon$Raft" "sort" "I", .fieldLink RX2 153 "Festoon$Raft" "front" "I", .methodLink RX2 224 yX1_darkenAll, .instanceMethod yX1_darkenAll, .selects RX1 yX1_darkenAll yX1_darkenAll, .initialized RX1, .code yX1_darkenAll cX1_darkenAll 5 none, .fieldLink RX1 11 "Festoon$Raft" "slots" "[LFestoon$Lantern;", .methodLink RX1 63 yX0_darken, .instanceMethod yX0_darken, .selects RX0 yX0_darken yX0_darken, .initialized RX0, .code yX0_darken cX0_darken 1 none, .fieldLink RX0 9 "Festoon$Lantern" "state" "I"] ++ wsX20 ++ wsX10 ++ wsX00)
def wsX2_blowGust : List Cond := .code yX2_blowGust cX2_blowGust 6 none :: ([.fieldLink RX2 38 "Festoon" "now" "I", .fieldLink RX2 24 "Festoon" "gusts" "[I", .fieldLink RX2 11 "Festoon" "lanterns" "[LFestoon$Lantern;", .fieldLink RX2 125 "Festoon$Lantern" "state" "I", .fieldLink RX2 47 "Festoon" "darkByGusts" "I", .methodLink RX2 53 yX2_within, .static yX2_within, .initialized RX2, .code yX2_within cX2_within 3 (some .boolean), .methodLink RX2 227 yX0_firmness, .instanceMethod yX0_firmness, .selects RX0 yX0_firmness yX0_firmness, .initialized RX0, .code yX0_firmness cX0_firmness 1 (some .int), .fieldLink RX0 25 "Festoon$Lantern" "paper" "I", .fieldLink RX0 22 "Festoon$Lantern" "ribs" "I", .methodLink RX2 119 yX0_darken, .instanceMethod yX0_darken, .selects RX0 yX0_darken yX0_darken, .code yX0_darken cX0_darken 1 none, .fieldLink RX0 9 "Festoon$Lantern" "state" "I"] ++ wsX20 ++ wsX00)
def wsX2_burnCandles : List Cond := .code yX2_burnCandles cX2_burnCandles 5 none :: ([.fieldLink RX2 11 "Festoon" "lanterns" "[LFestoon$Lantern;", .fieldLink RX2 125 "Festoon$Lantern" "state" "I", .methodLink RX2 230 yX0_burnOneMinute, .instanceMethod yX0_burnOneMinute, .selects RX0 yX0_burnOneMinute yX0_burnOneMinute, .initialized RX0, .code yX0_burnOneMinute cX0_burnOneMinute 1 none, .fieldLink RX0 31 "Festoon$Lantern" "left" "I", .fieldLink RX0 9 "Festoon$Lantern" "state" "I"] ++ wsX20 ++ wsX00)
def wsX2_sendMarshal_r1 : List Cond := [Cond.fieldLink RX2 11 "Festoon" "lanterns" "[LFestoon$Lantern;", Cond.fieldLink RX2 125 "Festoon$Lantern" "state" "I", Cond.fieldLink RX2 50 "Festoon" "darkByMarshal" "I", Cond.methodLink RX2 131 yX2_isCrowded, Cond.instanceMethod yX2_isCrowded, Cond.selects RX2 yX2_isCrowded yX2_isCrowded, Cond.initialized RX2, Cond.code yX2_isCrowded cX2_isCrowded 5 (some .boolean), Cond.methodLink RX2 233 yX2_isTooNear, Cond.instanceMethod yX2_isTooNear, Cond.selects RX2 yX2_isTooNear yX2_isTooNear, Cond.code yX2_isTooNear cX2_isTooNear 3 (some .boolean), Cond.fieldLink RX2 237 "Festoon$Lantern" "candle" "I", Cond.fieldLink RX2 44 "Festoon" "base" "I", Cond.methodLink RX2 189 yX0_distanceTo, Cond.instanceMethod yX0_distanceTo, Cond.selects RX0 yX0_distanceTo yX0_distanceTo, Cond.initialized RX0, Cond.code yX0_distanceTo cX0_distanceTo 3 (some .int), Cond.methodLink RX0 42 yX0_place, Cond.instanceMethod yX0_place, Cond.selects RX0 yX0_place yX0_place, Cond.code yX0_place cX0_place 1 (some .int), Cond.fieldLink RX0 15 "Festoon$Lantern" "raft" "LFestoon$Raft;"]
def wsX2_sendMarshal_r2 : List Cond := [Cond.fieldLink RX0 34 "Festoon$Raft" "sort" "I", Cond.fieldLink RX0 39 "Festoon$Raft" "front" "I", Cond.fieldLink RX0 19 "Festoon$Lantern" "slot" "I", Cond.methodLink RX2 119 yX0_darken, Cond.instanceMethod yX0_darken, Cond.selects RX0 yX0_darken yX0_darken, Cond.code yX0_darken cX0_darken 1 none, Cond.fieldLink RX0 9 "Festoon$Lantern" "state" "I"]
def wsX2_sendMarshal : List Cond := .code yX2_sendMarshal cX2_sendMarshal 3 none :: ((wsX2_sendMarshal_r1 ++ wsX2_sendMarshal_r2) ++ wsX20 ++ wsX00 ++ wsX10)
def wsX2_passOne_r1 : List Cond := [Cond.fieldLink RX2 38 "Festoon" "now" "I", Cond.methodLink RX2 205 yX2_moveRafts, Cond.instanceMethod yX2_moveRafts, Cond.selects RX2 yX2_moveRafts yX2_moveRafts, Cond.initialized RX2, Cond.code yX2_moveRafts cX2_moveRafts 6 none, Cond.fieldLink RX2 21 "Festoon" "launched" "[LFestoon$Raft;", Cond.fieldLink RX2 94 "Festoon$Raft" "sort" "I", Cond.fieldLink RX2 41 "Festoon" "gap" "I", Cond.methodLink RX2 220 yX1_moveBehind, Cond.instanceMethod yX1_moveBehind, Cond.selects RX1 yX1_moveBehind yX1_moveBehind, Cond.initialized RX1, Cond.code yX1_moveBehind cX1_moveBehind 4 none, Cond.fieldLink RX1 21 "Festoon$Raft" "front" "I", Cond.fieldLink RX1 30 "Festoon$Raft" "speed" "I", Cond.methodLink RX1 54 Lib.Math.min.name, Cond.static Lib.Math.min.name, Cond.initialized "java/lang/Math", Cond.code Lib.Math.min.name Lib.Math.min.code 2 (some .int), Cond.methodLink RX1 60 Lib.Math.max.name, Cond.static Lib.Math.max.name, Cond.code Lib.Math.max.name Lib.Math.max.code 2 (some .int), Cond.methodLink RX1 51 yX1_rear]
def wsX2_passOne_r2 : List Cond := [Cond.instanceMethod yX1_rear, Cond.selects RX1 yX1_rear yX1_rear, Cond.code yX1_rear cX1_rear 1 (some .int), Cond.methodLink RX2 208 yX2_letRaftsGo, Cond.instanceMethod yX2_letRaftsGo, Cond.selects RX2 yX2_letRaftsGo yX2_letRaftsGo, Cond.code yX2_letRaftsGo cX2_letRaftsGo 5 none, Cond.fieldLink RX2 153 "Festoon$Raft" "front" "I", Cond.methodLink RX2 224 yX1_darkenAll, Cond.instanceMethod yX1_darkenAll, Cond.selects RX1 yX1_darkenAll yX1_darkenAll, Cond.code yX1_darkenAll cX1_darkenAll 5 none, Cond.fieldLink RX1 11 "Festoon$Raft" "slots" "[LFestoon$Lantern;", Cond.methodLink RX1 63 yX0_darken, Cond.instanceMethod yX0_darken, Cond.selects RX0 yX0_darken yX0_darken, Cond.initialized RX0, Cond.code yX0_darken cX0_darken 1 none, Cond.fieldLink RX0 9 "Festoon$Lantern" "state" "I", Cond.methodLink RX2 211 yX2_blowGust, Cond.instanceMethod yX2_blowGust, Cond.selects RX2 yX2_blowGust yX2_blowGust, Cond.code yX2_blowGust cX2_blowGust 6 none, Cond.fieldLink RX2 24 "Festoon" "gusts" "[I"]
def wsX2_passOne_r3 : List Cond := [Cond.fieldLink RX2 11 "Festoon" "lanterns" "[LFestoon$Lantern;", Cond.fieldLink RX2 125 "Festoon$Lantern" "state" "I", Cond.fieldLink RX2 47 "Festoon" "darkByGusts" "I", Cond.methodLink RX2 53 yX2_within, Cond.static yX2_within, Cond.code yX2_within cX2_within 3 (some .boolean), Cond.methodLink RX2 227 yX0_firmness, Cond.instanceMethod yX0_firmness, Cond.selects RX0 yX0_firmness yX0_firmness, Cond.code yX0_firmness cX0_firmness 1 (some .int), Cond.fieldLink RX0 25 "Festoon$Lantern" "paper" "I", Cond.fieldLink RX0 22 "Festoon$Lantern" "ribs" "I", Cond.methodLink RX2 119 yX0_darken, Cond.methodLink RX2 214 yX2_burnCandles, Cond.instanceMethod yX2_burnCandles, Cond.selects RX2 yX2_burnCandles yX2_burnCandles, Cond.code yX2_burnCandles cX2_burnCandles 5 none, Cond.methodLink RX2 230 yX0_burnOneMinute, Cond.instanceMethod yX0_burnOneMinute, Cond.selects RX0 yX0_burnOneMinute yX0_burnOneMinute, Cond.code yX0_burnOneMinute cX0_burnOneMinute 1 none, Cond.fieldLink RX0 31 "Festoon$Lantern" "left" "I", Cond.methodLink RX2 217 yX2_sendMarshal, Cond.instanceMethod yX2_sendMarshal]
def wsX2_passOne_r4 : List Cond := [Cond.selects RX2 yX2_sendMarshal yX2_sendMarshal, Cond.code yX2_sendMarshal cX2_sendMarshal 3 none, Cond.fieldLink RX2 50 "Festoon" "darkByMarshal" "I", Cond.methodLink RX2 131 yX2_isCrowded, Cond.instanceMethod yX2_isCrowded, Cond.selects RX2 yX2_isCrowded yX2_isCrowded, Cond.code yX2_isCrowded cX2_isCrowded 5 (some .boolean), Cond.methodLink RX2 233 yX2_isTooNear, Cond.instanceMethod yX2_isTooNear, Cond.selects RX2 yX2_isTooNear yX2_isTooNear, Cond.code yX2_isTooNear cX2_isTooNear 3 (some .boolean), Cond.fieldLink RX2 237 "Festoon$Lantern" "candle" "I", Cond.fieldLink RX2 44 "Festoon" "base" "I", Cond.methodLink RX2 189 yX0_distanceTo, Cond.instanceMethod yX0_distanceTo, Cond.selects RX0 yX0_distanceTo yX0_distanceTo, Cond.code yX0_distanceTo cX0_distanceTo 3 (some .int), Cond.methodLink RX0 42 yX0_place, Cond.instanceMethod yX0_place, Cond.selects RX0 yX0_place yX0_place, Cond.code yX0_place cX0_place 1 (some .int), Cond.fieldLink RX0 15 "Festoon$Lantern" "raft" "LFestoon$Raft;", Cond.fieldLink RX0 34 "Festoon$Raft" "sort" "I", Cond.fieldLink RX0 39 "Festoon$Raft" "front" "I"]
def wsX2_passOne_r5 : List Cond := [Cond.fieldLink RX0 19 "Festoon$Lantern" "slot" "I"]
def wsX2_passOne : List Cond := .code yX2_passOne cX2_passOne 1 none :: ((wsX2_passOne_r1 ++ (wsX2_passOne_r2 ++ (wsX2_passOne_r3 ++ (wsX2_passOne_r4 ++ wsX2_passOne_r5)))) ++ wsX20 ++ wsX10 ++ wsX00)
def wsX2_pass_r1 : List Cond := [Cond.classLink RX2 57 "java/lang/IllegalArgumentException", Cond.initialized "java/lang/IllegalArgumentException", Cond.methodLink RX2 53 yX2_within, Cond.static yX2_within, Cond.initialized RX2, Cond.code yX2_within cX2_within 3 (some .boolean), Cond.methodLink RX2 168 yX2_litLanterns, Cond.instanceMethod yX2_litLanterns, Cond.selects RX2 yX2_litLanterns yX2_litLanterns, Cond.code yX2_litLanterns cX2_litLanterns 6 (some .int), Cond.fieldLink RX2 11 "Festoon" "lanterns" "[LFestoon$Lantern;", Cond.fieldLink RX2 125 "Festoon$Lantern" "state" "I", Cond.methodLink RX2 171 yX2_passOne, Cond.instanceMethod yX2_passOne, Cond.selects RX2 yX2_passOne yX2_passOne, Cond.code yX2_passOne cX2_passOne 1 none, Cond.fieldLink RX2 38 "Festoon" "now" "I", Cond.methodLink RX2 205 yX2_moveRafts, Cond.instanceMethod yX2_moveRafts, Cond.selects RX2 yX2_moveRafts yX2_moveRafts, Cond.code yX2_moveRafts cX2_moveRafts 6 none, Cond.fieldLink RX2 21 "Festoon" "launched" "[LFestoon$Raft;", Cond.fieldLink RX2 94 "Festoon$Raft" "sort" "I", Cond.fieldLink RX2 41 "Festoon" "gap" "I"]
def wsX2_pass_r2 : List Cond := [Cond.methodLink RX2 220 yX1_moveBehind, Cond.instanceMethod yX1_moveBehind, Cond.selects RX1 yX1_moveBehind yX1_moveBehind, Cond.initialized RX1, Cond.code yX1_moveBehind cX1_moveBehind 4 none, Cond.fieldLink RX1 21 "Festoon$Raft" "front" "I", Cond.fieldLink RX1 30 "Festoon$Raft" "speed" "I", Cond.methodLink RX1 54 Lib.Math.min.name, Cond.static Lib.Math.min.name, Cond.initialized "java/lang/Math", Cond.code Lib.Math.min.name Lib.Math.min.code 2 (some .int), Cond.methodLink RX1 60 Lib.Math.max.name, Cond.static Lib.Math.max.name, Cond.code Lib.Math.max.name Lib.Math.max.code 2 (some .int), Cond.methodLink RX1 51 yX1_rear, Cond.instanceMethod yX1_rear, Cond.selects RX1 yX1_rear yX1_rear, Cond.code yX1_rear cX1_rear 1 (some .int), Cond.methodLink RX2 208 yX2_letRaftsGo, Cond.instanceMethod yX2_letRaftsGo, Cond.selects RX2 yX2_letRaftsGo yX2_letRaftsGo, Cond.code yX2_letRaftsGo cX2_letRaftsGo 5 none, Cond.fieldLink RX2 153 "Festoon$Raft" "front" "I", Cond.methodLink RX2 224 yX1_darkenAll]
def wsX2_pass_r3 : List Cond := [Cond.instanceMethod yX1_darkenAll, Cond.selects RX1 yX1_darkenAll yX1_darkenAll, Cond.code yX1_darkenAll cX1_darkenAll 5 none, Cond.fieldLink RX1 11 "Festoon$Raft" "slots" "[LFestoon$Lantern;", Cond.methodLink RX1 63 yX0_darken, Cond.instanceMethod yX0_darken, Cond.selects RX0 yX0_darken yX0_darken, Cond.initialized RX0, Cond.code yX0_darken cX0_darken 1 none, Cond.fieldLink RX0 9 "Festoon$Lantern" "state" "I", Cond.methodLink RX2 211 yX2_blowGust, Cond.instanceMethod yX2_blowGust, Cond.selects RX2 yX2_blowGust yX2_blowGust, Cond.code yX2_blowGust cX2_blowGust 6 none, Cond.fieldLink RX2 24 "Festoon" "gusts" "[I", Cond.fieldLink RX2 47 "Festoon" "darkByGusts" "I", Cond.methodLink RX2 227 yX0_firmness, Cond.instanceMethod yX0_firmness, Cond.selects RX0 yX0_firmness yX0_firmness, Cond.code yX0_firmness cX0_firmness 1 (some .int), Cond.fieldLink RX0 25 "Festoon$Lantern" "paper" "I", Cond.fieldLink RX0 22 "Festoon$Lantern" "ribs" "I", Cond.methodLink RX2 119 yX0_darken, Cond.methodLink RX2 214 yX2_burnCandles]
def wsX2_pass_r4 : List Cond := [Cond.instanceMethod yX2_burnCandles, Cond.selects RX2 yX2_burnCandles yX2_burnCandles, Cond.code yX2_burnCandles cX2_burnCandles 5 none, Cond.methodLink RX2 230 yX0_burnOneMinute, Cond.instanceMethod yX0_burnOneMinute, Cond.selects RX0 yX0_burnOneMinute yX0_burnOneMinute, Cond.code yX0_burnOneMinute cX0_burnOneMinute 1 none, Cond.fieldLink RX0 31 "Festoon$Lantern" "left" "I", Cond.methodLink RX2 217 yX2_sendMarshal, Cond.instanceMethod yX2_sendMarshal, Cond.selects RX2 yX2_sendMarshal yX2_sendMarshal, Cond.code yX2_sendMarshal cX2_sendMarshal 3 none, Cond.fieldLink RX2 50 "Festoon" "darkByMarshal" "I", Cond.methodLink RX2 131 yX2_isCrowded, Cond.instanceMethod yX2_isCrowded, Cond.selects RX2 yX2_isCrowded yX2_isCrowded, Cond.code yX2_isCrowded cX2_isCrowded 5 (some .boolean), Cond.methodLink RX2 233 yX2_isTooNear, Cond.instanceMethod yX2_isTooNear, Cond.selects RX2 yX2_isTooNear yX2_isTooNear, Cond.code yX2_isTooNear cX2_isTooNear 3 (some .boolean), Cond.fieldLink RX2 237 "Festoon$Lantern" "candle" "I", Cond.fieldLink RX2 44 "Festoon" "base" "I", Cond.methodLink RX2 189 yX0_distanceTo]
def wsX2_pass_r5 : List Cond := [Cond.instanceMethod yX0_distanceTo, Cond.selects RX0 yX0_distanceTo yX0_distanceTo, Cond.code yX0_distanceTo cX0_distanceTo 3 (some .int), Cond.methodLink RX0 42 yX0_place, Cond.instanceMethod yX0_place, Cond.selects RX0 yX0_place yX0_place, Cond.code yX0_place cX0_place 1 (some .int), Cond.fieldLink RX0 15 "Festoon$Lantern" "raft" "LFestoon$Raft;", Cond.fieldLink RX0 34 "Festoon$Raft" "sort" "I", Cond.fieldLink RX0 39 "Festoon$Raft" "front" "I", Cond.fieldLink RX0 19 "Festoon$Lantern" "slot" "I"]
def wsX2_pass : List Cond := .code yX2_pass cX2_pass 4 (some .int) :: ((wsX2_pass_r1 ++ (wsX2_pass_r2 ++ (wsX2_pass_r3 ++ (wsX2_pass_r4 ++ wsX2_pass_r5)))) ++ wsX20 ++ wsX00 ++ wsX10 ++ (vx_atS RX2 61 "java/lang/IllegalArgumentException" ["java/lang/RuntimeException", "java/lang/Exception"]).filter goodWord)
def wsX2_time : List Cond := .code yX2_time cX2_time 1 (some .int) :: ([.fieldLink RX2 38 "Festoon" "now" "I"] ++ wsX20)
def wsX2_lanterns : List Cond := .code yX2_lanterns cX2_lanterns 1 (some .int) :: ([.fieldLink RX2 28 "Festoon" "made" "I"] ++ wsX20)
def wsX2_stateOf : List Cond := .code yX2_stateOf cX2_stateOf 3 (some .int) :: ([.fieldLink RX2 125 "Festoon$Lantern" "state" "I", .methodLink RX2 72 yX2_lanternNumbered, .instanceMethod yX2_lanternNumbered, .selects RX2 yX2_lanternNumbered yX2_lanternNumbered, .initialized RX2, .code yX2_lanternNumbered cX2_lanternNumbered 3 (some (.object "Festoon$Lantern")), .classLink RX2 80 "java/lang/IndexOutOfBoundsException", .initialized "java/lang/IndexOutOfBoundsException", .fieldLink RX2 11 "Festoon" "lanterns" "[LFestoon$Lantern;", .methodLink RX2 53 yX2_within, .static yX2_within, .code yX2_within cX2_within 3 (some .boolean)] ++ wsX00 ++ wsX20 ++ (vx_atS RX2 84 "java/lang/IndexOutOfBoundsException" ["java/lang/RuntimeException", "java/lang/Exception"]).filter goodWord)
def wsX2_left : List Cond := .code yX2_left cX2_left 3 (some .int) :: ([.fieldLink RX2 137 "Festoon$Lantern" "left" "I", .methodLink RX2 72 yX2_lanternNumbered, .instanceMethod yX2_lanternNumbered, .selects RX2 yX2_lanternNumbered yX2_lanternNumbered, .initialized RX2, .code yX2_lanternNumbered cX2_lanternNumbered 3 (some (.object "Festoon$Lantern")), .classLink RX2 80 "java/lang/IndexOutOfBoundsException", .initialized "java/lang/IndexOutOfBoundsException", .fieldLink RX2 11 "Festoon" "lanterns" "[LFestoon$Lantern;", .methodLink RX2 53 yX2_within, .static yX2_within, .code yX2_within cX2_within 3 (some .boolean)] ++ wsX00 ++ wsX20 ++ (vx_atS RX2 84 "java/lang/IndexOutOfBoundsException" ["java/lang/RuntimeException", "java/lang/Exception"]).filter goodWord)
def wsX2_placeOf : List Cond := .code yX2_placeOf cX2_placeOf 3 (some .int) :: ([.methodLink RX2 72 yX2_lanternNumbered, .instanceMethod yX2_lanternNumbered, .selects RX2 yX2_lanternNumbered yX2_lanternNumbered, .initialized RX2, .code yX2_lanternNumbered cX2_lanternNumbered 3 (some (.object "Festoon$Lantern")), .classLink RX2 80 "java/lang/IndexOutOfBoundsException", .initialized "java/lang/IndexOutOfBoundsException", .fieldLink RX2 11 "Festoon" "lanterns" "[LFestoon$Lantern;", .methodLink RX2 53 yX2_within, .static yX2_within, .code yX2_within cX2_within 3 (some .boolean), .methodLink RX2 128 yX0_place, .instanceMethod yX0_place, .selects RX0 yX0_place yX0_place, .initialized RX0, .code yX0_place cX0_place 1 (some .int), .fieldLink RX0 15 "Festoon$Lantern" "raft" "LFestoon$Raft;", .fieldLink RX0 34 "Festoon$Raft" "sort" "I", .fieldLink RX0 39 "Festoon$Raft" "front" "I", .fieldLink RX0 19 "Festoon$Lantern" "slot" "I"] ++ wsX20 ++ wsX00 ++ wsX10 ++ (vx_atS RX2 84 "java/lang/IndexOutOfBoundsException" ["java/lang/RuntimeException", "java/lang/Exception"]).filter goodWord)
def wsX2_nearestAhead_r1 : List Cond := [Cond.fieldLink RX2 21 "Festoon" "launched" "[LFestoon$Raft;", Cond.methodLink RX2 240 Lib.Math.min.name, Cond.static Lib.Math.min.name, Cond.initialized "java/lang/Math", Cond.code Lib.Math.min.name Lib.Math.min.code 2 (some .int), Cond.methodLink RX2 174 yX1_nearestLit, Cond.instanceMethod yX1_nearestLit, Cond.selects RX1 yX1_nearestLit yX1_nearestLit, Cond.initialized RX1, Cond.code yX1_nearestLit cX1_nearestLit 7 (some .int), Cond.fieldLink RX1 11 "Festoon$Raft" "slots" "[LFestoon$Lantern;", Cond.fieldLink RX1 66 "Festoon$Lantern" "state" "I", Cond.methodLink RX1 69 yX0_distanceTo, Cond.instanceMethod yX0_distanceTo, Cond.selects RX0 yX0_distanceTo yX0_distanceTo, Cond.initialized RX0, Cond.code yX0_distanceTo cX0_distanceTo 3 (some .int), Cond.methodLink RX0 42 yX0_place, Cond.instanceMethod yX0_place, Cond.selects RX0 yX0_place yX0_place, Cond.code yX0_place cX0_place 1 (some .int), Cond.fieldLink RX0 15 "Festoon$Lantern" "raft" "LFestoon$Raft;", Cond.fieldLink RX0 34 "Festoon$Raft" "sort" "I", Cond.fieldLink RX0 39 "Festoon$Raft" "front" "I"]
def wsX2_nearestAhead_r2 : List Cond := [Cond.fieldLink RX0 19 "Festoon$Lantern" "slot" "I", Cond.static yX2_nearer, Cond.initialized RX2, Cond.code yX2_nearer cX2_nearer 2 (some .int), Cond.methodLink RX2 245 Lib.Math.max.name, Cond.static Lib.Math.max.name, Cond.code Lib.Math.max.name Lib.Math.max.code 2 (some .int)]
def wsX2_nearestAhead : List Cond := .code yX2_nearestAhead cX2_nearestAhead 6 (some .int) :: ((wsX2_nearestAhead_r1 ++ wsX2_nearestAhead_r2) ++ wsX20 ++ wsX10 ++ wsX00)
def wsX2_nearestBehind_r1 : List Cond := [Cond.methodLink RX2 245 Lib.Math.max.name, Cond.static Lib.Math.max.name, Cond.initialized "java/lang/Math", Cond.code Lib.Math.max.name Lib.Math.max.code 2 (some .int), Cond.fieldLink RX2 21 "Festoon" "launched" "[LFestoon$Raft;", Cond.methodLink RX2 174 yX1_nearestLit, Cond.instanceMethod yX1_nearestLit, Cond.selects RX1 yX1_nearestLit yX1_nearestLit, Cond.initialized RX1, Cond.code yX1_nearestLit cX1_nearestLit 7 (some .int), Cond.fieldLink RX1 11 "Festoon$Raft" "slots" "[LFestoon$Lantern;", Cond.fieldLink RX1 66 "Festoon$Lantern" "state" "I", Cond.methodLink RX1 69 yX0_distanceTo, Cond.instanceMethod yX0_distanceTo, Cond.selects RX0 yX0_distanceTo yX0_distanceTo, Cond.initialized RX0, Cond.code yX0_distanceTo cX0_distanceTo 3 (some .int), Cond.methodLink RX0 42 yX0_place, Cond.instanceMethod yX0_place, Cond.selects RX0 yX0_place yX0_place, Cond.code yX0_place cX0_place 1 (some .int), Cond.fieldLink RX0 15 "Festoon$Lantern" "raft" "LFestoon$Raft;", Cond.fieldLink RX0 34 "Festoon$Raft" "sort" "I", Cond.fieldLink RX0 39 "Festoon$Raft" "front" "I"]
def wsX2_nearestBehind_r2 : List Cond := [Cond.fieldLink RX0 19 "Festoon$Lantern" "slot" "I", Cond.static yX2_nearer, Cond.initialized RX2, Cond.code yX2_nearer cX2_nearer 2 (some .int), Cond.methodLink RX2 240 Lib.Math.min.name, Cond.static Lib.Math.min.name, Cond.code Lib.Math.min.name Lib.Math.min.code 2 (some .int)]
def wsX2_nearestBehind : List Cond := .code yX2_nearestBehind cX2_nearestBehind 6 (some .int) :: ((wsX2_nearestBehind_r1 ++ wsX2_nearestBehind_r2) ++ wsX20 ++ wsX10 ++ wsX00)
def wsX2_nearest_r1 : List Cond := [Cond.fieldLink RX2 90 "Festoon$Lantern" "raft" "LFestoon$Raft;", Cond.fieldLink RX2 94 "Festoon$Raft" "sort" "I", Cond.fieldLink RX2 156 "Festoon$Raft" "order" "I", Cond.methodLink RX2 72 yX2_lanternNumbered, Cond.instanceMethod yX2_lanternNumbered, Cond.selects RX2 yX2_lanternNumbered yX2_lanternNumbered, Cond.initialized RX2, Cond.code yX2_lanternNumbered cX2_lanternNumbered 3 (some (.object "Festoon$Lantern")), Cond.classLink RX2 80 "java/lang/IndexOutOfBoundsException", Cond.initialized "java/lang/IndexOutOfBoundsException", Cond.fieldLink RX2 11 "Festoon" "lanterns" "[LFestoon$Lantern;", Cond.methodLink RX2 53 yX2_within, Cond.static yX2_within, Cond.code yX2_within cX2_within 3 (some .boolean), Cond.methodLink RX2 174 yX1_nearestLit, Cond.instanceMethod yX1_nearestLit, Cond.selects RX1 yX1_nearestLit yX1_nearestLit, Cond.initialized RX1, Cond.code yX1_nearestLit cX1_nearestLit 7 (some .int), Cond.fieldLink RX1 11 "Festoon$Raft" "slots" "[LFestoon$Lantern;", Cond.fieldLink RX1 66 "Festoon$Lantern" "state" "I", Cond.methodLink RX1 69 yX0_distanceTo, Cond.instanceMethod yX0_distanceTo, Cond.selects RX0 yX0_distanceTo yX0_distanceTo]
def wsX2_nearest_r2 : List Cond := [Cond.initialized RX0, Cond.code yX0_distanceTo cX0_distanceTo 3 (some .int), Cond.methodLink RX0 42 yX0_place, Cond.instanceMethod yX0_place, Cond.selects RX0 yX0_place yX0_place, Cond.code yX0_place cX0_place 1 (some .int), Cond.fieldLink RX0 15 "Festoon$Lantern" "raft" "LFestoon$Raft;", Cond.fieldLink RX0 34 "Festoon$Raft" "sort" "I", Cond.fieldLink RX0 39 "Festoon$Raft" "front" "I", Cond.fieldLink RX0 19 "Festoon$Lantern" "slot" "I", Cond.static yX2_nearer, Cond.code yX2_nearer cX2_nearer 2 (some .int), Cond.methodLink RX2 245 Lib.Math.max.name, Cond.static Lib.Math.max.name, Cond.initialized "java/lang/Math", Cond.code Lib.Math.max.name Lib.Math.max.code 2 (some .int), Cond.methodLink RX2 240 Lib.Math.min.name, Cond.static Lib.Math.min.name, Cond.code Lib.Math.min.name Lib.Math.min.code 2 (some .int), Cond.methodLink RX2 178 yX2_nearestAhead, Cond.instanceMethod yX2_nearestAhead, Cond.selects RX2 yX2_nearestAhead yX2_nearestAhead, Cond.code yX2_nearestAhead cX2_nearestAhead 6 (some .int), Cond.fieldLink RX2 21 "Festoon" "launched" "[LFestoon$Raft;"]
def wsX2_nearest_r3 : List Cond := [Cond.methodLink RX2 182 yX2_nearestBehind, Cond.instanceMethod yX2_nearestBehind, Cond.selects RX2 yX2_nearestBehind yX2_nearestBehind, Cond.code yX2_nearestBehind cX2_nearestBehind 6 (some .int), Cond.methodLink RX2 185 yX2_nearer]
def wsX2_nearest : List Cond := .code yX2_nearest cX2_nearest 7 (some .int) :: ((wsX2_nearest_r1 ++ (wsX2_nearest_r2 ++ wsX2_nearest_r3)) ++ wsX00 ++ wsX10 ++ wsX20 ++ (vx_atS RX2 84 "java/lang/IndexOutOfBoundsException" ["java/lang/RuntimeException", "java/lang/Exception"]).filter goodWord)
def wsX2_nearestOfAll_r1 : List Cond := [Cond.fieldLink RX2 11 "Festoon" "lanterns" "[LFestoon$Lantern;", Cond.fieldLink RX2 125 "Festoon$Lantern" "state" "I", Cond.methodLink RX2 72 yX2_lanternNumbered, Cond.instanceMethod yX2_lanternNumbered, Cond.selects RX2 yX2_lanternNumbered yX2_lanternNumbered, Cond.initialized RX2, Cond.code yX2_lanternNumbered cX2_lanternNumbered 3 (some (.object "Festoon$Lantern")), Cond.classLink RX2 80 "java/lang/IndexOutOfBoundsException", Cond.initialized "java/lang/IndexOutOfBoundsException", Cond.methodLink RX2 53 yX2_within, Cond.static yX2_within, Cond.code yX2_within cX2_within 3 (some .boolean), Cond.methodLink RX2 128 yX0_place, Cond.instanceMethod yX0_place, Cond.selects RX0 yX0_place yX0_place, Cond.initialized RX0, Cond.code yX0_place cX0_place 1 (some .int), Cond.fieldLink RX0 15 "Festoon$Lantern" "raft" "LFestoon$Raft;", Cond.fieldLink RX0 34 "Festoon$Raft" "sort" "I", Cond.fieldLink RX0 39 "Festoon$Raft" "front" "I", Cond.fieldLink RX0 19 "Festoon$Lantern" "slot" "I", Cond.methodLink RX2 189 yX0_distanceTo, Cond.instanceMethod yX0_distanceTo, Cond.selects RX0 yX0_distanceTo yX0_distanceTo]
def wsX2_nearestOfAll_r2 : List Cond := [Cond.code yX0_distanceTo cX0_distanceTo 3 (some .int), Cond.methodLink RX0 42 yX0_place, Cond.methodLink RX2 185 yX2_nearer, Cond.static yX2_nearer, Cond.code yX2_nearer cX2_nearer 2 (some .int), Cond.methodLink RX2 245 Lib.Math.max.name, Cond.static Lib.Math.max.name, Cond.initialized "java/lang/Math", Cond.code Lib.Math.max.name Lib.Math.max.code 2 (some .int), Cond.methodLink RX2 240 Lib.Math.min.name, Cond.static Lib.Math.min.name, Cond.code Lib.Math.min.name Lib.Math.min.code 2 (some .int)]
def wsX2_nearestOfAll : List Cond := .code yX2_nearestOfAll cX2_nearestOfAll 8 (some .int) :: ((wsX2_nearestOfAll_r1 ++ wsX2_nearestOfAll_r2) ++ wsX20 ++ wsX00 ++ wsX10 ++ (vx_atS RX2 84 "java/lang/IndexOutOfBoundsException" ["java/lang/RuntimeException", "java/lang/Exception"]).filter goodWord)
def wsX2_blownOut : List Cond := .code yX2_blownOut cX2_blownOut 1 (some .int) :: ([.fieldLink RX2 47 "Festoon" "darkByGusts" "I"] ++ wsX20)
def wsX2_ordered : List Cond := .code yX2_ordered cX2_ordered 1 (some .int) :: ([.fieldLink RX2 50 "Festoon" "darkByMarshal" "I"] ++ wsX20)
def wsX2_sortOf : List Cond := .code yX2_sortOf cX2_sortOf 3 (some .int) :: ([.fieldLink RX2 94 "Festoon$Raft" "sort" "I", .methodLink RX2 76 yX2_raftNumbered, .instanceMethod yX2_raftNumbered, .selects RX2 yX2_raftNumbered yX2_raftNumbered, .initialized RX2, .code yX2_raftNumbered cX2_raftNumbered 3 (some (.object "Festoon$Raft")), .classLink RX2 80 "java/lang/IndexOutOfBoundsException", .initialized "java/lang/IndexOutOfBoundsException", .fieldLink RX2 17 "Festoon" "rafts" "[LFestoon$Raft;", .methodLink RX2 53 yX2_within, .static yX2_within, .code yX2_within cX2_within 3 (some .boolean)] ++ wsX10 ++ wsX20 ++ (vx_atS RX2 84 "java/lang/IndexOutOfBoundsException" ["java/lang/RuntimeException", "java/lang/Exception"]).filter goodWord)
def wsX2_front : List Cond := .code yX2_front cX2_front 3 (some .int) :: ([.fieldLink RX2 94 "Festoon$Raft" "sort" "I", .fieldLink RX2 153 "Festoon$Raft" "front" "I", .methodLink RX2 76 yX2_raftNumbered, .instanceMethod yX2_raftNumbered, .selects RX2 yX2_raftNumbered yX2_raftNumbered, .initialized RX2, .code yX2_raftNumbered cX2_raftNumbered 3 (some (.object "Festoon$Raft")), .classLink RX2 80 "java/lang/IndexOutOfBoundsException", .initialized "java/lang/IndexOutOfBoundsException", .fieldLink RX2 17 "Festoon" "rafts" "[LFestoon$Raft;", .methodLink RX2 53 yX2_within, .static yX2_within, .code yX2_within cX2_within 3 (some .boolean)] ++ wsX10 ++ wsX20 ++ (vx_atS RX2 84 "java/lang/IndexOutOfBoundsException" ["java/lang/RuntimeException", "java/lang/Exception"]).filter goodWord)
def wsX2_load_r1 : List Cond := [Cond.methodLink RX2 76 yX2_raftNumbered, Cond.instanceMethod yX2_raftNumbered, Cond.selects RX2 yX2_raftNumbered yX2_raftNumbered, Cond.initialized RX2, Cond.code yX2_raftNumbered cX2_raftNumbered 3 (some (.object "Festoon$Raft")), Cond.classLink RX2 80 "java/lang/IndexOutOfBoundsException", Cond.initialized "java/lang/IndexOutOfBoundsException", Cond.fieldLink RX2 17 "Festoon" "rafts" "[LFestoon$Raft;", Cond.methodLink RX2 53 yX2_within, Cond.static yX2_within, Cond.code yX2_within cX2_within 3 (some .boolean), Cond.methodLink RX2 99 yX1_weight, Cond.instanceMethod yX1_weight, Cond.selects RX1 yX1_weight yX1_weight, Cond.initialized RX1, Cond.code yX1_weight cX1_weight 6 (some .int), Cond.fieldLink RX1 11 "Festoon$Raft" "slots" "[LFestoon$Lantern;", Cond.methodLink RX1 47 yX0_weight, Cond.instanceMethod yX0_weight, Cond.selects RX0 yX0_weight yX0_weight, Cond.initialized RX0, Cond.code yX0_weight cX0_weight 1 (some .int), Cond.fieldLink RX0 22 "Festoon$Lantern" "ribs" "I", Cond.fieldLink RX0 25 "Festoon$Lantern" "paper" "I"]
def wsX2_load_r2 : List Cond := [Cond.fieldLink RX0 28 "Festoon$Lantern" "candle" "I"]
def wsX2_load : List Cond := .code yX2_load cX2_load 3 (some .int) :: ((wsX2_load_r1 ++ wsX2_load_r2) ++ wsX20 ++ wsX10 ++ wsX00 ++ (vx_atS RX2 84 "java/lang/IndexOutOfBoundsException" ["java/lang/RuntimeException", "java/lang/Exception"]).filter goodWord)
def wsX2_likeness : List Cond := .code yX2_likeness cX2_likeness 4 (some .int) :: ([.classLink RX2 57 "java/lang/IllegalArgumentException", .initialized "java/lang/IllegalArgumentException", .methodLink RX2 76 yX2_raftNumbered, .instanceMethod yX2_raftNumbered, .selects RX2 yX2_raftNumbered yX2_raftNumbered, .initialized RX2, .code yX2_raftNumbered cX2_raftNumbered 3 (some (.object "Festoon$Raft")), .classLink RX2 80 "java/lang/IndexOutOfBoundsException", .initialized "java/lang/IndexOutOfBoundsException", .fieldLink RX2 17 "Festoon" "rafts" "[LFestoon$Raft;", .methodLink RX2 53 yX2_within, .static yX2_within, .code yX2_within cX2_within 3 (some .boolean), .methodLink RX2 194 yX1_alike, .instanceMethod yX1_alike, .selects RX1 yX1_alike yX1_alike, .initialized RX1, .code yX1_alike cX1_alike 7 (some .int), .fieldLink RX1 11 "Festoon$Raft" "slots" "[LFestoon$Lantern;", .fieldLink RX1 66 "Festoon$Lantern" "state" "I"] ++ wsX20 ++ wsX10 ++ wsX00 ++ (vx_atS RX2 61 "java/lang/IllegalArgumentException" ["java/lang/RuntimeException", "java/lang/Exception"]).filter goodWord ++ (vx_atS RX2 84 "java/lang/IndexOutOfBoundsException" ["java/lang/RuntimeException", "java/lang/Exception"]).filter goodWord)
def wsX2_prize : List Cond := .code yX2_prize cX2_prize 8 (some .int) :: ([.classLink RX2 57 "java/lang/IllegalArgumentException", .initialized "java/lang/IllegalArgumentException", .fieldLink RX2 21 "Festoon" "launched" "[LFestoon$Raft;", .fieldLink RX2 94 "Festoon$Raft" "sort" "I", .fieldLink RX2 122 "Festoon$Raft" "number" "I", .methodLink RX2 53 yX2_within, .static yX2_within, .initialized RX2, .code yX2_within cX2_within 3 (some .boolean), .methodLink RX2 194 yX1_alike, .instanceMethod yX1_alike, .selects RX1 yX1_alike yX1_alike, .initialized RX1, .code yX1_alike cX1_alike 7 (some .int), .fieldLink RX1 11 "Festoon$Raft" "slots" "[LFestoon$Lantern;", .fieldLink RX1 66 "Festoon$Lantern" "state" "I"] ++ wsX20 ++ wsX10 ++ wsX00 ++ (vx_atS RX2 61 "java/lang/IllegalArgumentException" ["java/lang/RuntimeException", "java/lang/Exception"]).filter goodWord)
def wsX3_init : List Cond := .code yX3_init cX3_init 1 none :: ([.methodLink RX3 1 objectInit, .instanceMethod objectInit, .code objectInit ⟨#[0xb1]⟩ 1 none, .arrayClass .int, .fieldLink RX3 7 "FestoonModel" "ribs" "[I", .fieldLink RX3 13 "FestoonModel" "papers" "[I", .fieldLink RX3 16 "FestoonModel" "candles" "[I", .fieldLink RX3 19 "FestoonModel" "states" "[I", .fieldLink RX3 22 "FestoonModel" "lefts" "[I", .fieldLink RX3 25 "FestoonModel" "hangsOn" "[I", .fieldLink RX3 28 "FestoonModel" "slots" "[I", .fieldLink RX3 31 "FestoonModel" "speeds" "[I", .fieldLink RX3 34 "FestoonModel" "bears" "[I", .fieldLink RX3 37 "FestoonModel" "sorts" "[I", .fieldLink RX3 40 "FestoonModel" "fronts" "[I", .fieldLink RX3 43 "FestoonModel" "order" "[I", .fieldLink RX3 46 "FestoonModel" "gap" "I", .fieldLink RX3 50 "FestoonModel" "gusts" "[I"] ++ wsX30)
def wsX3_thrown : List Cond := .code yX3_thrown cX3_thrown 1 (some .int) :: ([.fieldLink RX3 53 "FestoonModel" "last" "I"] ++ wsX30)
def wsX3_in : List Cond := .code yX3_in cX3_in 3 (some .boolean) :: ([])
def wsX3_goes : List Cond := .code yX3_goes cX3_goes 4 (some .boolean) :: ([.fieldLink RX3 53 "FestoonModel" "last" "I"] ++ wsX30)
def wsX3_isLantern : List Cond := .code yX3_isLantern cX3_isLantern 2 (some .boolean) :: ([.fieldLink RX3 56 "FestoonModel" "lanterns" "I", .methodLink RX3 59 yX3_in, .static yX3_in, .initialized RX3, .code yX3_in cX3_in 3 (some .boolean)] ++ wsX30)
def wsX3_isFloat : List Cond := .code yX3_isFloat cX3_isFloat 2 (some .boolean) :: ([.fieldLink RX3 63 "FestoonModel" "floats" "I", .methodLink RX3 59 yX3_in, .static yX3_in, .initialized RX3, .code yX3_in cX3_in 3 (some .boolean)] ++ wsX30)
def wsX3_make : List Cond := .code yX3_make cX3_make 4 (some .int) :: ([.fieldLink RX3 56 "FestoonModel" "lanterns" "I", .fieldLink RX3 7 "FestoonModel" "ribs" "[I", .fieldLink RX3 13 "FestoonModel" "papers" "[I", .fieldLink RX3 16 "FestoonModel" "candles" "[I", .fieldLink RX3 22 "FestoonModel" "lefts" "[I", .fieldLink RX3 25 "FestoonModel" "hangsOn" "[I", .methodLink RX3 59 yX3_in, .static yX3_in, .initialized RX3, .code yX3_in cX3_in 3 (some .boolean), .methodLink RX3 66 yX3_goes, .instanceMethod yX3_goes, .selects RX3 yX3_goes yX3_goes, .code yX3_goes cX3_goes 4 (some .boolean), .fieldLink RX3 53 "FestoonModel" "last" "I"] ++ wsX30)
def wsX3_weight : List Cond := .code yX3_weight cX3_weight 2 (some .int) :: ([.fieldLink RX3 7 "FestoonModel" "ribs" "[I", .fieldLink RX3 13 "FestoonModel" "papers" "[I", .fieldLink RX3 16 "FestoonModel" "candles" "[I"] ++ wsX30)
def wsX3_loadOf : List Cond := .code yX3_loadOf cX3_loadOf 4 (some .int) :: ([.fieldLink RX3 56 "FestoonModel" "lanterns" "I", .fieldLink RX3 25 "FestoonModel" "hangsOn" "[I", .methodLink RX3 70 yX3_weight, .instanceMethod yX3_weight, .selects RX3 yX3_weight yX3_weight, .initialized RX3, .code yX3_weight cX3_weight 2 (some .int), .fieldLink RX3 7 "FestoonModel" "ribs" "[I", .fieldLink RX3 13 "FestoonModel" "papers" "[I", .fieldLink RX3 16 "FestoonModel" "candles" "[I"] ++ wsX30)
def wsX3_isTaken : List Cond := .code yX3_isTaken cX3_isTaken 5 (some .boolean) :: ([.fieldLink RX3 56 "FestoonModel" "lanterns" "I", .fieldLink RX3 25 "FestoonModel" "hangsOn" "[I", .fieldLink RX3 28 "FestoonModel" "slots" "[I"] ++ wsX30)
def wsX3_hang_r1 : List Cond := [Cond.fieldLink RX3 25 "FestoonModel" "hangsOn" "[I", Cond.fieldLink RX3 37 "FestoonModel" "sorts" "[I", Cond.fieldLink RX3 34 "FestoonModel" "bears" "[I", Cond.fieldLink RX3 28 "FestoonModel" "slots" "[I", Cond.methodLink RX3 74 yX3_isLantern, Cond.instanceMethod yX3_isLantern, Cond.selects RX3 yX3_isLantern yX3_isLantern, Cond.initialized RX3, Cond.code yX3_isLantern cX3_isLantern 2 (some .boolean), Cond.fieldLink RX3 56 "FestoonModel" "lanterns" "I", Cond.methodLink RX3 59 yX3_in, Cond.static yX3_in, Cond.code yX3_in cX3_in 3 (some .boolean), Cond.methodLink RX3 78 yX3_isFloat, Cond.instanceMethod yX3_isFloat, Cond.selects RX3 yX3_isFloat yX3_isFloat, Cond.code yX3_isFloat cX3_isFloat 2 (some .boolean), Cond.fieldLink RX3 63 "FestoonModel" "floats" "I", Cond.methodLink RX3 81 yX3_loadOf, Cond.instanceMethod yX3_loadOf, Cond.selects RX3 yX3_loadOf yX3_loadOf, Cond.code yX3_loadOf cX3_loadOf 4 (some .int), Cond.methodLink RX3 70 yX3_weight, Cond.instanceMethod yX3_weight]
def wsX3_hang_r2 : List Cond := [Cond.selects RX3 yX3_weight yX3_weight, Cond.code yX3_weight cX3_weight 2 (some .int), Cond.fieldLink RX3 7 "FestoonModel" "ribs" "[I", Cond.fieldLink RX3 13 "FestoonModel" "papers" "[I", Cond.fieldLink RX3 16 "FestoonModel" "candles" "[I", Cond.methodLink RX3 84 yX3_isTaken, Cond.instanceMethod yX3_isTaken, Cond.selects RX3 yX3_isTaken yX3_isTaken, Cond.code yX3_isTaken cX3_isTaken 5 (some .boolean), Cond.methodLink RX3 66 yX3_goes, Cond.instanceMethod yX3_goes, Cond.selects RX3 yX3_goes yX3_goes, Cond.code yX3_goes cX3_goes 4 (some .boolean), Cond.fieldLink RX3 53 "FestoonModel" "last" "I"]
def wsX3_hang : List Cond := .code yX3_hang cX3_hang 6 (some .int) :: ((wsX3_hang_r1 ++ wsX3_hang_r2) ++ wsX30)
def wsX3_darkens : List Cond := .code yX3_darkens cX3_darkens 2 none :: ([.fieldLink RX3 19 "FestoonModel" "states" "[I"] ++ wsX30)
def wsX3_takeDown : List Cond := .code yX3_takeDown cX3_takeDown 4 (some .int) :: ([.fieldLink RX3 25 "FestoonModel" "hangsOn" "[I", .methodLink RX3 74 yX3_isLantern, .instanceMethod yX3_isLantern, .selects RX3 yX3_isLantern yX3_isLantern, .initialized RX3, .code yX3_isLantern cX3_isLantern 2 (some .boolean), .fieldLink RX3 56 "FestoonModel" "lanterns" "I", .methodLink RX3 59 yX3_in, .static yX3_in, .code yX3_in cX3_in 3 (some .boolean), .methodLink RX3 66 yX3_goes, .instanceMethod yX3_goes, .selects RX3 yX3_goes yX3_goes, .code yX3_goes cX3_goes 4 (some .boolean), .fieldLink RX3 53 "FestoonModel" "last" "I", .methodLink RX3 88 yX3_darkens, .instanceMethod yX3_darkens, .selects RX3 yX3_darkens yX3_darkens, .code yX3_darkens cX3_darkens 2 none, .fieldLink RX3 19 "FestoonModel" "states" "[I"] ++ wsX30)
def wsX3_hasPlace : List Cond := .code yX3_hasPlace cX3_hasPlace 2 (some .boolean) :: ([.fieldLink RX3 25 "FestoonModel" "hangsOn" "[I", .fieldLink RX3 37 "FestoonModel" "sorts" "[I"] ++ wsX30)
def wsX3_place : List Cond := .code yX3_place cX3_place 2 (some .int) :: ([.fieldLink RX3 40 "FestoonModel" "fronts" "[I", .fieldLink RX3 25 "FestoonModel" "hangsOn" "[I", .fieldLink RX3 28 "FestoonModel" "slots" "[I"] ++ wsX30)
def wsX3_distance : List Cond := .code yX3_distance cX3_distance 4 (some .int) :: ([.methodLink RX3 92 yX3_place, .instanceMethod yX3_place, .selects RX3 yX3_place yX3_place, .initialized RX3, .code yX3_place cX3_place 2 (some .int), .fieldLink RX3 40 "FestoonModel" "fronts" "[I", .fieldLink RX3 25 "FestoonModel" "hangsOn" "[I", .fieldLink RX3 28 "FestoonModel" "slots" "[I"] ++ wsX30)
def wsX3_isNear : List Cond := .code yX3_isNear cX3_isNear 5 (some .boolean) :: ([.fieldLink RX3 19 "FestoonModel" "states" "[I", .fieldLink RX3 16 "FestoonModel" "candles" "[I", .fieldLink RX3 99 "FestoonModel" "base" "I", .methodLink RX3 95 yX3_distance, .instanceMethod yX3_distance, .selects RX3 yX3_distance yX3_distance, .initialized RX3, .code yX3_distance cX3_distance 4 (some .int), .methodLink RX3 92 yX3_place, .instanceMethod yX3_place, .selects RX3 yX3_place yX3_place, .code yX3_place cX3_place 2 (some .int), .fieldLink RX3 40 "FestoonModel" "fronts" "[I", .fieldLink RX3 25 "FestoonModel" "hangsOn" "[I", .fieldLink RX3 28 "FestoonModel" "slots" "[I"] ++ wsX30)
def wsX3_light_r1 : List Cond := [Cond.fieldLink RX3 19 "FestoonModel" "states" "[I", Cond.fieldLink RX3 56 "FestoonModel" "lanterns" "I", Cond.fieldLink RX3 22 "FestoonModel" "lefts" "[I", Cond.methodLink RX3 74 yX3_isLantern, Cond.instanceMethod yX3_isLantern, Cond.selects RX3 yX3_isLantern yX3_isLantern, Cond.initialized RX3, Cond.code yX3_isLantern cX3_isLantern 2 (some .boolean), Cond.methodLink RX3 59 yX3_in, Cond.static yX3_in, Cond.code yX3_in cX3_in 3 (some .boolean), Cond.methodLink RX3 102 yX3_hasPlace, Cond.instanceMethod yX3_hasPlace, Cond.selects RX3 yX3_hasPlace yX3_hasPlace, Cond.code yX3_hasPlace cX3_hasPlace 2 (some .boolean), Cond.fieldLink RX3 25 "FestoonModel" "hangsOn" "[I", Cond.fieldLink RX3 37 "FestoonModel" "sorts" "[I", Cond.methodLink RX3 105 yX3_isNear, Cond.instanceMethod yX3_isNear, Cond.selects RX3 yX3_isNear yX3_isNear, Cond.code yX3_isNear cX3_isNear 5 (some .boolean), Cond.fieldLink RX3 16 "FestoonModel" "candles" "[I", Cond.fieldLink RX3 99 "FestoonModel" "base" "I", Cond.methodLink RX3 95 yX3_distance]
def wsX3_light_r2 : List Cond := [Cond.instanceMethod yX3_distance, Cond.selects RX3 yX3_distance yX3_distance, Cond.code yX3_distance cX3_distance 4 (some .int), Cond.methodLink RX3 92 yX3_place, Cond.instanceMethod yX3_place, Cond.selects RX3 yX3_place yX3_place, Cond.code yX3_place cX3_place 2 (some .int), Cond.fieldLink RX3 40 "FestoonModel" "fronts" "[I", Cond.fieldLink RX3 28 "FestoonModel" "slots" "[I", Cond.methodLink RX3 66 yX3_goes, Cond.instanceMethod yX3_goes, Cond.selects RX3 yX3_goes yX3_goes, Cond.code yX3_goes cX3_goes 4 (some .boolean), Cond.fieldLink RX3 53 "FestoonModel" "last" "I"]
def wsX3_light : List Cond := .code yX3_light cX3_light 4 (some .int) :: ((wsX3_light_r1 ++ wsX3_light_r2) ++ wsX30)
def wsX3_putOut : List Cond := .code yX3_putOut cX3_putOut 3 (some .int) :: ([.fieldLink RX3 19 "FestoonModel" "states" "[I", .fieldLink RX3 22 "FestoonModel" "lefts" "[I", .methodLink RX3 74 yX3_isLantern, .instanceMethod yX3_isLantern, .selects RX3 yX3_isLantern yX3_isLantern, .initialized RX3, .code yX3_isLantern cX3_isLantern 2 (some .boolean), .fieldLink RX3 56 "FestoonModel" "lanterns" "I", .methodLink RX3 59 yX3_in, .static yX3_in, .code yX3_in cX3_in 3 (some .boolean), .methodLink RX3 66 yX3_goes, .instanceMethod yX3_goes, .selects RX3 yX3_goes yX3_goes, .code yX3_goes cX3_goes 4 (some .boolean), .fieldLink RX3 53 "FestoonModel" "last" "I"] ++ wsX30)
def wsX3_build : List Cond := .code yX3_build cX3_build 3 (some .int) :: ([.fieldLink RX3 63 "FestoonModel" "floats" "I", .fieldLink RX3 31 "FestoonModel" "speeds" "[I", .fieldLink RX3 34 "FestoonModel" "bears" "[I", .methodLink RX3 59 yX3_in, .static yX3_in, .initialized RX3, .code yX3_in cX3_in 3 (some .boolean), .methodLink RX3 66 yX3_goes, .instanceMethod yX3_goes, .selects RX3 yX3_goes yX3_goes, .code yX3_goes cX3_goes 4 (some .boolean), .fieldLink RX3 53 "FestoonModel" "last" "I"] ++ wsX30)
def wsX3_rearmost : List Cond := .code yX3_rearmost cX3_rearmost 3 (some .int) :: ([.fieldLink RX3 108 "FestoonModel" "launched" "I", .fieldLink RX3 37 "FestoonModel" "sorts" "[I", .fieldLink RX3 43 "FestoonModel" "order" "[I"] ++ wsX30)
def wsX3_afloat : List Cond := .code yX3_afloat cX3_afloat 3 (some .int) :: ([.fieldLink RX3 63 "FestoonModel" "floats" "I", .fieldLink RX3 37 "FestoonModel" "sorts" "[I"] ++ wsX30)
def wsX3_launch_r1 : List Cond := [Cond.fieldLink RX3 37 "FestoonModel" "sorts" "[I", Cond.fieldLink RX3 40 "FestoonModel" "fronts" "[I", Cond.fieldLink RX3 46 "FestoonModel" "gap" "I", Cond.fieldLink RX3 43 "FestoonModel" "order" "[I", Cond.fieldLink RX3 108 "FestoonModel" "launched" "I", Cond.methodLink RX3 78 yX3_isFloat, Cond.instanceMethod yX3_isFloat, Cond.selects RX3 yX3_isFloat yX3_isFloat, Cond.initialized RX3, Cond.code yX3_isFloat cX3_isFloat 2 (some .boolean), Cond.fieldLink RX3 63 "FestoonModel" "floats" "I", Cond.methodLink RX3 59 yX3_in, Cond.static yX3_in, Cond.code yX3_in cX3_in 3 (some .boolean), Cond.methodLink RX3 111 yX3_rearmost, Cond.instanceMethod yX3_rearmost, Cond.selects RX3 yX3_rearmost yX3_rearmost, Cond.code yX3_rearmost cX3_rearmost 3 (some .int), Cond.methodLink RX3 66 yX3_goes, Cond.instanceMethod yX3_goes, Cond.selects RX3 yX3_goes yX3_goes, Cond.code yX3_goes cX3_goes 4 (some .boolean), Cond.fieldLink RX3 53 "FestoonModel" "last" "I", Cond.methodLink RX3 115 yX3_afloat]
def wsX3_launch_r2 : List Cond := [Cond.instanceMethod yX3_afloat, Cond.selects RX3 yX3_afloat yX3_afloat, Cond.code yX3_afloat cX3_afloat 3 (some .int)]
def wsX3_launch : List Cond := .code yX3_launch cX3_launch 5 (some .int) :: ((wsX3_launch_r1 ++ wsX3_launch_r2) ++ wsX30)
def wsX3_setRules : List Cond := .code yX3_setRules cX3_setRules 4 (some .int) :: ([.fieldLink RX3 46 "FestoonModel" "gap" "I", .fieldLink RX3 99 "FestoonModel" "base" "I", .methodLink RX3 59 yX3_in, .static yX3_in, .initialized RX3, .code yX3_in cX3_in 3 (some .boolean), .methodLink RX3 66 yX3_goes, .instanceMethod yX3_goes, .selects RX3 yX3_goes yX3_goes, .code yX3_goes cX3_goes 4 (some .boolean), .fieldLink RX3 53 "FestoonModel" "last" "I"] ++ wsX30)
def wsX3_setGust : List Cond := .code yX3_setGust cX3_setGust 4 (some .int) :: ([.fieldLink RX3 50 "FestoonModel" "gusts" "[I", .methodLink RX3 59 yX3_in, .static yX3_in, .initialized RX3, .code yX3_in cX3_in 3 (some .boolean), .methodLink RX3 66 yX3_goes, .instanceMethod yX3_goes, .selects RX3 yX3_goes yX3_goes, .code yX3_goes cX3_goes 4 (some .boolean), .fieldLink RX3 53 "FestoonModel" "last" "I"] ++ wsX30)
def wsX3_floatsMove : List Cond := .code yX3_floatsMove cX3_floatsMove 6 none :: ([.fieldLink RX3 108 "FestoonModel" "launched" "I", .fieldLink RX3 43 "FestoonModel" "order" "[I", .fieldLink RX3 37 "FestoonModel" "sorts" "[I", .fieldLink RX3 40 "FestoonModel" "fronts" "[I", .fieldLink RX3 31 "FestoonModel" "speeds" "[I", .fieldLink RX3 46 "FestoonModel" "gap" "I", .fieldLink RX3 63 "FestoonModel" "floats" "I", .fieldLink RX3 56 "FestoonModel" "lanterns" "I", .fieldLink RX3 25 "FestoonModel" "hangsOn" "[I", .methodLink RX3 88 yX3_darkens, .instanceMethod yX3_darkens, .selects RX3 yX3_darkens yX3_darkens, .initialized RX3, .code yX3_darkens cX3_darkens 2 none, .fieldLink RX3 19 "FestoonModel" "states" "[I"] ++ wsX30)
def wsX3_burns_r1 : List Cond := [Cond.fieldLink RX3 118 "FestoonModel" "time" "I", Cond.fieldLink RX3 50 "FestoonModel" "gusts" "[I", Cond.fieldLink RX3 56 "FestoonModel" "lanterns" "I", Cond.fieldLink RX3 19 "FestoonModel" "states" "[I", Cond.fieldLink RX3 13 "FestoonModel" "papers" "[I", Cond.fieldLink RX3 7 "FestoonModel" "ribs" "[I", Cond.fieldLink RX3 121 "FestoonModel" "blown" "I", Cond.fieldLink RX3 22 "FestoonModel" "lefts" "[I", Cond.fieldLink RX3 124 "FestoonModel" "ordered" "I", Cond.methodLink RX3 105 yX3_isNear, Cond.instanceMethod yX3_isNear, Cond.selects RX3 yX3_isNear yX3_isNear, Cond.initialized RX3, Cond.code yX3_isNear cX3_isNear 5 (some .boolean), Cond.fieldLink RX3 16 "FestoonModel" "candles" "[I", Cond.fieldLink RX3 99 "FestoonModel" "base" "I", Cond.methodLink RX3 95 yX3_distance, Cond.instanceMethod yX3_distance, Cond.selects RX3 yX3_distance yX3_distance, Cond.code yX3_distance cX3_distance 4 (some .int), Cond.methodLink RX3 92 yX3_place, Cond.instanceMethod yX3_place, Cond.selects RX3 yX3_place yX3_place, Cond.code yX3_place cX3_place 2 (some .int)]
def wsX3_burns_r2 : List Cond := [Cond.fieldLink RX3 40 "FestoonModel" "fronts" "[I", Cond.fieldLink RX3 25 "FestoonModel" "hangsOn" "[I", Cond.fieldLink RX3 28 "FestoonModel" "slots" "[I"]
def wsX3_burns : List Cond := .code yX3_burns cX3_burns 3 none :: ((wsX3_burns_r1 ++ wsX3_burns_r2) ++ wsX30)
def wsX3_lit : List Cond := .code yX3_lit cX3_lit 3 (some .int) :: ([.fieldLink RX3 56 "FestoonModel" "lanterns" "I", .fieldLink RX3 19 "FestoonModel" "states" "[I"] ++ wsX30)
def wsX3_pass_r1 : List Cond := [Cond.fieldLink RX3 118 "FestoonModel" "time" "I", Cond.methodLink RX3 59 yX3_in, Cond.static yX3_in, Cond.initialized RX3, Cond.code yX3_in cX3_in 3 (some .boolean), Cond.methodLink RX3 66 yX3_goes, Cond.instanceMethod yX3_goes, Cond.selects RX3 yX3_goes yX3_goes, Cond.code yX3_goes cX3_goes 4 (some .boolean), Cond.fieldLink RX3 53 "FestoonModel" "last" "I", Cond.methodLink RX3 127 yX3_lit, Cond.instanceMethod yX3_lit, Cond.selects RX3 yX3_lit yX3_lit, Cond.code yX3_lit cX3_lit 3 (some .int), Cond.fieldLink RX3 56 "FestoonModel" "lanterns" "I", Cond.fieldLink RX3 19 "FestoonModel" "states" "[I", Cond.methodLink RX3 130 yX3_floatsMove, Cond.instanceMethod yX3_floatsMove, Cond.selects RX3 yX3_floatsMove yX3_floatsMove, Cond.code yX3_floatsMove cX3_floatsMove 6 none, Cond.fieldLink RX3 108 "FestoonModel" "launched" "I", Cond.fieldLink RX3 43 "FestoonModel" "order" "[I", Cond.fieldLink RX3 37 "FestoonModel" "sorts" "[I", Cond.fieldLink RX3 40 "FestoonModel" "fronts" "[I"]
def wsX3_pass_r2 : List Cond := [Cond.fieldLink RX3 31 "FestoonModel" "speeds" "[I", Cond.fieldLink RX3 46 "FestoonModel" "gap" "I", Cond.fieldLink RX3 63 "FestoonModel" "floats" "I", Cond.fieldLink RX3 25 "FestoonModel" "hangsOn" "[I", Cond.methodLink RX3 88 yX3_darkens, Cond.instanceMethod yX3_darkens, Cond.selects RX3 yX3_darkens yX3_darkens, Cond.code yX3_darkens cX3_darkens 2 none, Cond.methodLink RX3 133 yX3_burns, Cond.instanceMethod yX3_burns, Cond.selects RX3 yX3_burns yX3_burns, Cond.code yX3_burns cX3_burns 3 none, Cond.fieldLink RX3 50 "FestoonModel" "gusts" "[I", Cond.fieldLink RX3 13 "FestoonModel" "papers" "[I", Cond.fieldLink RX3 7 "FestoonModel" "ribs" "[I", Cond.fieldLink RX3 121 "FestoonModel" "blown" "I", Cond.fieldLink RX3 22 "FestoonModel" "lefts" "[I", Cond.fieldLink RX3 124 "FestoonModel" "ordered" "I", Cond.methodLink RX3 105 yX3_isNear, Cond.instanceMethod yX3_isNear, Cond.selects RX3 yX3_isNear yX3_isNear, Cond.code yX3_isNear cX3_isNear 5 (some .boolean), Cond.fieldLink RX3 16 "FestoonModel" "candles" "[I", Cond.fieldLink RX3 99 "FestoonModel" "base" "I"]
def wsX3_pass_r3 : List Cond := [Cond.methodLink RX3 95 yX3_distance, Cond.instanceMethod yX3_distance, Cond.selects RX3 yX3_distance yX3_distance, Cond.code yX3_distance cX3_distance 4 (some .int), Cond.methodLink RX3 92 yX3_place, Cond.instanceMethod yX3_place, Cond.selects RX3 yX3_place yX3_place, Cond.code yX3_place cX3_place 2 (some .int), Cond.fieldLink RX3 28 "FestoonModel" "slots" "[I"]
def wsX3_pass : List Cond := .code yX3_pass cX3_pass 4 (some .int) :: ((wsX3_pass_r1 ++ (wsX3_pass_r2 ++ wsX3_pass_r3)) ++ wsX30)
def wsX3_time : List Cond := .code yX3_time cX3_time 1 (some .int) :: ([.fieldLink RX3 53 "FestoonModel" "last" "I", .fieldLink RX3 118 "FestoonModel" "time" "I"] ++ wsX30)
def wsX3_lanterns : List Cond := .code yX3_lanterns cX3_lanterns 1 (some .int) :: ([.fieldLink RX3 53 "FestoonModel" "last" "I", .fieldLink RX3 56 "FestoonModel" "lanterns" "I"] ++ wsX30)
def wsX3_stateOf : List Cond := .code yX3_stateOf cX3_stateOf 2 (some .int) :: ([.fieldLink RX3 19 "FestoonModel" "states" "[I", .methodLink RX3 74 yX3_isLantern, .instanceMethod yX3_isLantern, .selects RX3 yX3_isLantern yX3_isLantern, .initialized RX3, .code yX3_isLantern cX3_isLantern 2 (some .boolean), .fieldLink RX3 56 "FestoonModel" "lanterns" "I", .methodLink RX3 59 yX3_in, .static yX3_in, .code yX3_in cX3_in 3 (some .boolean), .methodLink RX3 66 yX3_goes, .instanceMethod yX3_goes, .selects RX3 yX3_goes yX3_goes, .code yX3_goes cX3_goes 4 (some .boolean), .fieldLink RX3 53 "FestoonModel" "last" "I"] ++ wsX30)
def wsX3_left : List Cond := .code yX3_left cX3_left 2 (some .int) :: ([.fieldLink RX3 22 "FestoonModel" "lefts" "[I", .methodLink RX3 74 yX3_isLantern, .instanceMethod yX3_isLantern, .selects RX3 yX3_isLantern yX3_isLantern, .initialized RX3, .code yX3_isLantern cX3_isLantern 2 (some .boolean), .fieldLink RX3 56 "FestoonModel" "lanterns" "I", .methodLink RX3 59 yX3_in, .static yX3_in, .code yX3_in cX3_in 3 (some .boolean), .methodLink RX3 66 yX3_goes, .instanceMethod yX3_goes, .selects RX3 yX3_goes yX3_goes, .code yX3_goes cX3_goes 4 (some .boolean), .fieldLink RX3 53 "FestoonModel" "last" "I"] ++ wsX30)
def wsX3_placeOf_r1 : List Cond := [Cond.methodLink RX3 74 yX3_isLantern, Cond.instanceMethod yX3_isLantern, Cond.selects RX3 yX3_isLantern yX3_isLantern, Cond.initialized RX3, Cond.code yX3_isLantern cX3_isLantern 2 (some .boolean), Cond.fieldLink RX3 56 "FestoonModel" "lanterns" "I", Cond.methodLink RX3 59 yX3_in, Cond.static yX3_in, Cond.code yX3_in cX3_in 3 (some .boolean), Cond.methodLink RX3 66 yX3_goes, Cond.instanceMethod yX3_goes, Cond.selects RX3 yX3_goes yX3_goes, Cond.code yX3_goes cX3_goes 4 (some .boolean), Cond.fieldLink RX3 53 "FestoonModel" "last" "I", Cond.methodLink RX3 102 yX3_hasPlace, Cond.instanceMethod yX3_hasPlace, Cond.selects RX3 yX3_hasPlace yX3_hasPlace, Cond.code yX3_hasPlace cX3_hasPlace 2 (some .boolean), Cond.fieldLink RX3 25 "FestoonModel" "hangsOn" "[I", Cond.fieldLink RX3 37 "FestoonModel" "sorts" "[I", Cond.methodLink RX3 92 yX3_place, Cond.instanceMethod yX3_place, Cond.selects RX3 yX3_place yX3_place, Cond.code yX3_place cX3_place 2 (some .int)]
def wsX3_placeOf_r2 : List Cond := [Cond.fieldLink RX3 40 "FestoonModel" "fronts" "[I", Cond.fieldLink RX3 28 "FestoonModel" "slots" "[I"]
def wsX3_placeOf : List Cond := .code yX3_placeOf cX3_placeOf 2 (some .int) :: ((wsX3_placeOf_r1 ++ wsX3_placeOf_r2) ++ wsX30)
def wsX3_nearest_r1 : List Cond := [Cond.fieldLink RX3 56 "FestoonModel" "lanterns" "I", Cond.fieldLink RX3 19 "FestoonModel" "states" "[I", Cond.methodLink RX3 74 yX3_isLantern, Cond.instanceMethod yX3_isLantern, Cond.selects RX3 yX3_isLantern yX3_isLantern, Cond.initialized RX3, Cond.code yX3_isLantern cX3_isLantern 2 (some .boolean), Cond.methodLink RX3 59 yX3_in, Cond.static yX3_in, Cond.code yX3_in cX3_in 3 (some .boolean), Cond.methodLink RX3 66 yX3_goes, Cond.instanceMethod yX3_goes, Cond.selects RX3 yX3_goes yX3_goes, Cond.code yX3_goes cX3_goes 4 (some .boolean), Cond.fieldLink RX3 53 "FestoonModel" "last" "I", Cond.methodLink RX3 102 yX3_hasPlace, Cond.instanceMethod yX3_hasPlace, Cond.selects RX3 yX3_hasPlace yX3_hasPlace, Cond.code yX3_hasPlace cX3_hasPlace 2 (some .boolean), Cond.fieldLink RX3 25 "FestoonModel" "hangsOn" "[I", Cond.fieldLink RX3 37 "FestoonModel" "sorts" "[I", Cond.methodLink RX3 95 yX3_distance, Cond.instanceMethod yX3_distance, Cond.selects RX3 yX3_distance yX3_distance]
def wsX3_nearest_r2 : List Cond := [Cond.code yX3_distance cX3_distance 4 (some .int), Cond.methodLink RX3 92 yX3_place, Cond.instanceMethod yX3_place, Cond.selects RX3 yX3_place yX3_place, Cond.code yX3_place cX3_place 2 (some .int), Cond.fieldLink RX3 40 "FestoonModel" "fronts" "[I", Cond.fieldLink RX3 28 "FestoonModel" "slots" "[I"]
def wsX3_nearest : List Cond := .code yX3_nearest cX3_nearest 5 (some .int) :: ((wsX3_nearest_r1 ++ wsX3_nearest_r2) ++ wsX30)
def wsX3_nearestOfAll_r1 : List Cond := [Cond.methodLink RX3 136 yX3_nearest, Cond.instanceMethod yX3_nearest, Cond.selects RX3 yX3_nearest yX3_nearest, Cond.initialized RX3, Cond.code yX3_nearest cX3_nearest 5 (some .int), Cond.fieldLink RX3 56 "FestoonModel" "lanterns" "I", Cond.fieldLink RX3 19 "FestoonModel" "states" "[I", Cond.methodLink RX3 74 yX3_isLantern, Cond.instanceMethod yX3_isLantern, Cond.selects RX3 yX3_isLantern yX3_isLantern, Cond.code yX3_isLantern cX3_isLantern 2 (some .boolean), Cond.methodLink RX3 59 yX3_in, Cond.static yX3_in, Cond.code yX3_in cX3_in 3 (some .boolean), Cond.methodLink RX3 66 yX3_goes, Cond.instanceMethod yX3_goes, Cond.selects RX3 yX3_goes yX3_goes, Cond.code yX3_goes cX3_goes 4 (some .boolean), Cond.fieldLink RX3 53 "FestoonModel" "last" "I", Cond.methodLink RX3 102 yX3_hasPlace, Cond.instanceMethod yX3_hasPlace, Cond.selects RX3 yX3_hasPlace yX3_hasPlace, Cond.code yX3_hasPlace cX3_hasPlace 2 (some .boolean), Cond.fieldLink RX3 25 "FestoonModel" "hangsOn" "[I"]
def wsX3_nearestOfAll_r2 : List Cond := [Cond.fieldLink RX3 37 "FestoonModel" "sorts" "[I", Cond.methodLink RX3 95 yX3_distance, Cond.instanceMethod yX3_distance, Cond.selects RX3 yX3_distance yX3_distance, Cond.code yX3_distance cX3_distance 4 (some .int), Cond.methodLink RX3 92 yX3_place, Cond.instanceMethod yX3_place, Cond.selects RX3 yX3_place yX3_place, Cond.code yX3_place cX3_place 2 (some .int), Cond.fieldLink RX3 40 "FestoonModel" "fronts" "[I", Cond.fieldLink RX3 28 "FestoonModel" "slots" "[I"]
def wsX3_nearestOfAll : List Cond := .code yX3_nearestOfAll cX3_nearestOfAll 2 (some .int) :: ((wsX3_nearestOfAll_r1 ++ wsX3_nearestOfAll_r2) ++ wsX30)
def wsX3_blownOut : List Cond := .code yX3_blownOut cX3_blownOut 1 (some .int) :: ([.fieldLink RX3 53 "FestoonModel" "last" "I", .fieldLink RX3 121 "FestoonModel" "blown" "I"] ++ wsX30)
def wsX3_ordered : List Cond := .code yX3_ordered cX3_ordered 1 (some .int) :: ([.fieldLink RX3 53 "FestoonModel" "last" "I", .fieldLink RX3 124 "FestoonModel" "ordered" "I"] ++ wsX30)
def wsX3_sortOf : List Cond := .code yX3_sortOf cX3_sortOf 2 (some .int) :: ([.fieldLink RX3 37 "FestoonModel" "sorts" "[I", .methodLink RX3 78 yX3_isFloat, .instanceMethod yX3_isFloat, .selects RX3 yX3_isFloat yX3_isFloat, .initialized RX3, .code yX3_isFloat cX3_isFloat 2 (some .boolean), .fieldLink RX3 63 "FestoonModel" "floats" "I", .methodLink RX3 59 yX3_in, .static yX3_in, .code yX3_in cX3_in 3 (some .boolean), .methodLink RX3 66 yX3_goes, .instanceMethod yX3_goes, .selects RX3 yX3_goes yX3_goes, .code yX3_goes cX3_goes 4 (some .boolean), .fieldLink RX3 53 "FestoonModel" "last" "I"] ++ wsX30)
def wsX3_front : List Cond := .code yX3_front cX3_front 2 (some .int) :: ([.fieldLink RX3 37 "FestoonModel" "sorts" "[I", .fieldLink RX3 40 "FestoonModel" "fronts" "[I", .methodLink RX3 78 yX3_isFloat, .instanceMethod yX3_isFloat, .selects RX3 yX3_isFloat yX3_isFloat, .initialized RX3, .code yX3_isFloat cX3_isFloat 2 (some .boolean), .fieldLink RX3 63 "FestoonModel" "floats" "I", .methodLink RX3 59 yX3_in, .static yX3_in, .code yX3_in cX3_in 3 (some .boolean), .methodLink RX3 66 yX3_goes, .instanceMethod yX3_goes, .selects RX3 yX3_goes yX3_goes, .code yX3_goes cX3_goes 4 (some .boolean), .fieldLink RX3 53 "FestoonModel" "last" "I"] ++ wsX30)
def wsX3_load_r1 : List Cond := [Cond.methodLink RX3 78 yX3_isFloat, Cond.instanceMethod yX3_isFloat, Cond.selects RX3 yX3_isFloat yX3_isFloat, Cond.initialized RX3, Cond.code yX3_isFloat cX3_isFloat 2 (some .boolean), Cond.fieldLink RX3 63 "FestoonModel" "floats" "I", Cond.methodLink RX3 59 yX3_in, Cond.static yX3_in, Cond.code yX3_in cX3_in 3 (some .boolean), Cond.methodLink RX3 66 yX3_goes, Cond.instanceMethod yX3_goes, Cond.selects RX3 yX3_goes yX3_goes, Cond.code yX3_goes cX3_goes 4 (some .boolean), Cond.fieldLink RX3 53 "FestoonModel" "last" "I", Cond.methodLink RX3 81 yX3_loadOf, Cond.instanceMethod yX3_loadOf, Cond.selects RX3 yX3_loadOf yX3_loadOf, Cond.code yX3_loadOf cX3_loadOf 4 (some .int), Cond.fieldLink RX3 56 "FestoonModel" "lanterns" "I", Cond.fieldLink RX3 25 "FestoonModel" "hangsOn" "[I", Cond.methodLink RX3 70 yX3_weight, Cond.instanceMethod yX3_weight, Cond.selects RX3 yX3_weight yX3_weight, Cond.code yX3_weight cX3_weight 2 (some .int)]
def wsX3_load_r2 : List Cond := [Cond.fieldLink RX3 7 "FestoonModel" "ribs" "[I", Cond.fieldLink RX3 13 "FestoonModel" "papers" "[I", Cond.fieldLink RX3 16 "FestoonModel" "candles" "[I"]
def wsX3_load : List Cond := .code yX3_load cX3_load 2 (some .int) :: ((wsX3_load_r1 ++ wsX3_load_r2) ++ wsX30)
def wsX3_alike : List Cond := .code yX3_alike cX3_alike 6 (some .int) :: ([.fieldLink RX3 56 "FestoonModel" "lanterns" "I", .fieldLink RX3 25 "FestoonModel" "hangsOn" "[I", .fieldLink RX3 19 "FestoonModel" "states" "[I", .fieldLink RX3 28 "FestoonModel" "slots" "[I"] ++ wsX30)
def wsX3_likeness : List Cond := .code yX3_likeness cX3_likeness 3 (some .int) :: ([.methodLink RX3 78 yX3_isFloat, .instanceMethod yX3_isFloat, .selects RX3 yX3_isFloat yX3_isFloat, .initialized RX3, .code yX3_isFloat cX3_isFloat 2 (some .boolean), .fieldLink RX3 63 "FestoonModel" "floats" "I", .methodLink RX3 59 yX3_in, .static yX3_in, .code yX3_in cX3_in 3 (some .boolean), .methodLink RX3 66 yX3_goes, .instanceMethod yX3_goes, .selects RX3 yX3_goes yX3_goes, .code yX3_goes cX3_goes 4 (some .boolean), .fieldLink RX3 53 "FestoonModel" "last" "I", .methodLink RX3 139 yX3_alike, .instanceMethod yX3_alike, .selects RX3 yX3_alike yX3_alike, .code yX3_alike cX3_alike 6 (some .int), .fieldLink RX3 56 "FestoonModel" "lanterns" "I", .fieldLink RX3 25 "FestoonModel" "hangsOn" "[I", .fieldLink RX3 19 "FestoonModel" "states" "[I", .fieldLink RX3 28 "FestoonModel" "slots" "[I"] ++ wsX30)
def wsX3_prize : List Cond := .code yX3_prize cX3_prize 5 (some .int) :: ([.fieldLink RX3 108 "FestoonModel" "launched" "I", .fieldLink RX3 43 "FestoonModel" "order" "[I", .fieldLink RX3 37 "FestoonModel" "sorts" "[I", .methodLink RX3 59 yX3_in, .static yX3_in, .initialized RX3, .code yX3_in cX3_in 3 (some .boolean), .methodLink RX3 66 yX3_goes, .instanceMethod yX3_goes, .selects RX3 yX3_goes yX3_goes, .code yX3_goes cX3_goes 4 (some .boolean), .fieldLink RX3 53 "FestoonModel" "last" "I", .methodLink RX3 139 yX3_alike, .instanceMethod yX3_alike, .selects RX3 yX3_alike yX3_alike, .code yX3_alike cX3_alike 6 (some .int), .fieldLink RX3 56 "FestoonModel" "lanterns" "I", .fieldLink RX3 25 "FestoonModel" "hangsOn" "[I", .fieldLink RX3 19 "FestoonModel" "states" "[I", .fieldLink RX3 28 "FestoonModel" "slots" "[I"] ++ wsX30)
def wsJ9_max_7cf53 : List Cond := .code yJ9_max_7cf53 cJ9_max_7cf53 2 (some .int) :: ([])
def wsJ9_min_7cf53 : List Cond := .code yJ9_min_7cf53 cJ9_min_7cf53 2 (some .int) :: ([])
def wsL_make_r1 : List Cond := [Cond.classLink RL 13 "java/lang/IllegalArgumentException", Cond.classLink RL 15 "java/lang/IllegalStateException", Cond.methodLink RL 7 yX2_make, Cond.instanceMethod yX2_make, Cond.selects RX2 yX2_make yX2_make, Cond.initialized RX2, Cond.code yX2_make cX2_make 4 (some .int), Cond.classLink RX2 57 "java/lang/IllegalArgumentException", Cond.initialized "java/lang/IllegalArgumentException", Cond.classLink RX2 64 "java/lang/IllegalStateException", Cond.initialized "java/lang/IllegalStateException", Cond.fieldLink RX2 28 "Festoon" "made" "I", Cond.fieldLink RX2 11 "Festoon" "lanterns" "[LFestoon$Lantern;", Cond.classLink RX2 9 RX0, Cond.instantiable RX0 7, Cond.initialized RX0, Cond.methodLink RX2 53 yX2_within, Cond.static yX2_within, Cond.code yX2_within cX2_within 3 (some .boolean), Cond.methodLink RX2 69 yX0_init, Cond.instanceMethod yX0_init, Cond.code yX0_init cX0_init 4 none, Cond.methodLink RX0 3 objectInit, Cond.instanceMethod objectInit]
def wsL_make_r2 : List Cond := [Cond.code objectInit ⟨#[0xb1]⟩ 1 none, Cond.fieldLink RX0 9 "Festoon$Lantern" "state" "I", Cond.fieldLink RX0 15 "Festoon$Lantern" "raft" "LFestoon$Raft;", Cond.fieldLink RX0 19 "Festoon$Lantern" "slot" "I", Cond.fieldLink RX0 22 "Festoon$Lantern" "ribs" "I", Cond.fieldLink RX0 25 "Festoon$Lantern" "paper" "I", Cond.fieldLink RX0 28 "Festoon$Lantern" "candle" "I", Cond.fieldLink RX0 31 "Festoon$Lantern" "left" "I"]
def wsL_make : List Cond := .codeWith yL_make cL_make 6 (some .int) [(0, 12, 15, 13), (0, 12, 19, 15)] :: ((wsL_make_r1 ++ wsL_make_r2) ++ wsX20 ++ wsX00 ++ (vx_atS RX2 61 "java/lang/IllegalArgumentException" ["java/lang/RuntimeException", "java/lang/Exception"]).filter goodWord ++ (vx_atS RX2 68 "java/lang/IllegalStateException" ["java/lang/RuntimeException", "java/lang/Exception"]).filter goodWord)
def wsL_hang_r1 : List Cond := [Cond.classLink RL 20 "java/lang/IndexOutOfBoundsException", Cond.classLink RL 13 "java/lang/IllegalArgumentException", Cond.classLink RL 15 "java/lang/IllegalStateException", Cond.methodLink RL 17 yX2_hang, Cond.instanceMethod yX2_hang, Cond.selects RX2 yX2_hang yX2_hang, Cond.initialized RX2, Cond.code yX2_hang cX2_hang 6 (some .int), Cond.classLink RX2 80 "java/lang/IndexOutOfBoundsException", Cond.initialized "java/lang/IndexOutOfBoundsException", Cond.classLink RX2 57 "java/lang/IllegalArgumentException", Cond.initialized "java/lang/IllegalArgumentException", Cond.classLink RX2 64 "java/lang/IllegalStateException", Cond.initialized "java/lang/IllegalStateException", Cond.fieldLink RX2 90 "Festoon$Lantern" "raft" "LFestoon$Raft;", Cond.fieldLink RX2 94 "Festoon$Raft" "sort" "I", Cond.fieldLink RX2 104 "Festoon$Raft" "bears" "I", Cond.methodLink RX2 72 yX2_lanternNumbered, Cond.instanceMethod yX2_lanternNumbered, Cond.selects RX2 yX2_lanternNumbered yX2_lanternNumbered, Cond.code yX2_lanternNumbered cX2_lanternNumbered 3 (some (.object "Festoon$Lantern")), Cond.fieldLink RX2 11 "Festoon" "lanterns" "[LFestoon$Lantern;", Cond.methodLink RX2 53 yX2_within, Cond.static yX2_within]
def wsL_hang_r2 : List Cond := [Cond.code yX2_within cX2_within 3 (some .boolean), Cond.methodLink RX2 76 yX2_raftNumbered, Cond.instanceMethod yX2_raftNumbered, Cond.selects RX2 yX2_raftNumbered yX2_raftNumbered, Cond.code yX2_raftNumbered cX2_raftNumbered 3 (some (.object "Festoon$Raft")), Cond.fieldLink RX2 17 "Festoon" "rafts" "[LFestoon$Raft;", Cond.methodLink RX2 85 yX1_lanternIn, Cond.instanceMethod yX1_lanternIn, Cond.selects RX1 yX1_lanternIn yX1_lanternIn, Cond.initialized RX1, Cond.code yX1_lanternIn cX1_lanternIn 2 (some (.object "Festoon$Lantern")), Cond.fieldLink RX1 11 "Festoon$Raft" "slots" "[LFestoon$Lantern;", Cond.methodLink RX2 99 yX1_weight, Cond.instanceMethod yX1_weight, Cond.selects RX1 yX1_weight yX1_weight, Cond.code yX1_weight cX1_weight 6 (some .int), Cond.methodLink RX1 47 yX0_weight, Cond.instanceMethod yX0_weight, Cond.selects RX0 yX0_weight yX0_weight, Cond.initialized RX0, Cond.code yX0_weight cX0_weight 1 (some .int), Cond.fieldLink RX0 22 "Festoon$Lantern" "ribs" "I", Cond.fieldLink RX0 25 "Festoon$Lantern" "paper" "I", Cond.fieldLink RX0 28 "Festoon$Lantern" "candle" "I"]
def wsL_hang_r3 : List Cond := [Cond.methodLink RX2 103 yX0_weight, Cond.methodLink RX2 109 yX1_put, Cond.instanceMethod yX1_put, Cond.selects RX1 yX1_put yX1_put, Cond.code yX1_put cX1_put 3 none, Cond.fieldLink RX1 40 "Festoon$Lantern" "raft" "LFestoon$Raft;", Cond.fieldLink RX1 44 "Festoon$Lantern" "slot" "I"]
def wsL_hang : List Cond := .codeWith yL_hang cL_hang 6 (some .int) [(0, 12, 15, 20), (0, 12, 19, 13), (0, 12, 23, 15)] :: ((wsL_hang_r1 ++ (wsL_hang_r2 ++ wsL_hang_r3)) ++ wsX00 ++ wsX10 ++ wsX20 ++ (vx_atS RX2 84 "java/lang/IndexOutOfBoundsException" ["java/lang/RuntimeException", "java/lang/Exception"]).filter goodWord ++ (vx_atS RX2 61 "java/lang/IllegalArgumentException" ["java/lang/RuntimeException", "java/lang/Exception"]).filter goodWord ++ (vx_atS RX2 68 "java/lang/IllegalStateException" ["java/lang/RuntimeException", "java/lang/Exception"]).filter goodWord)
def wsL_takeDown_r1 : List Cond := [Cond.classLink RL 20 "java/lang/IndexOutOfBoundsException", Cond.classLink RL 15 "java/lang/IllegalStateException", Cond.methodLink RL 22 yX2_takeDown, Cond.instanceMethod yX2_takeDown, Cond.selects RX2 yX2_takeDown yX2_takeDown, Cond.initialized RX2, Cond.code yX2_takeDown cX2_takeDown 4 (some .int), Cond.classLink RX2 64 "java/lang/IllegalStateException", Cond.initialized "java/lang/IllegalStateException", Cond.fieldLink RX2 90 "Festoon$Lantern" "raft" "LFestoon$Raft;", Cond.fieldLink RX2 122 "Festoon$Raft" "number" "I", Cond.methodLink RX2 72 yX2_lanternNumbered, Cond.instanceMethod yX2_lanternNumbered, Cond.selects RX2 yX2_lanternNumbered yX2_lanternNumbered, Cond.code yX2_lanternNumbered cX2_lanternNumbered 3 (some (.object "Festoon$Lantern")), Cond.classLink RX2 80 "java/lang/IndexOutOfBoundsException", Cond.initialized "java/lang/IndexOutOfBoundsException", Cond.fieldLink RX2 11 "Festoon" "lanterns" "[LFestoon$Lantern;", Cond.methodLink RX2 53 yX2_within, Cond.static yX2_within, Cond.code yX2_within cX2_within 3 (some .boolean), Cond.methodLink RX2 115 yX1_free, Cond.instanceMethod yX1_free, Cond.selects RX1 yX1_free yX1_free]
def wsL_takeDown_r2 : List Cond := [Cond.initialized RX1, Cond.code yX1_free cX1_free 3 none, Cond.fieldLink RX1 11 "Festoon$Raft" "slots" "[LFestoon$Lantern;", Cond.fieldLink RX1 40 "Festoon$Lantern" "raft" "LFestoon$Raft;", Cond.fieldLink RX1 44 "Festoon$Lantern" "slot" "I", Cond.methodLink RX2 119 yX0_darken, Cond.instanceMethod yX0_darken, Cond.selects RX0 yX0_darken yX0_darken, Cond.initialized RX0, Cond.code yX0_darken cX0_darken 1 none, Cond.fieldLink RX0 9 "Festoon$Lantern" "state" "I"]
def wsL_takeDown : List Cond := .codeWith yL_takeDown cL_takeDown 4 (some .int) [(0, 9, 12, 20), (0, 9, 15, 15)] :: ((wsL_takeDown_r1 ++ wsL_takeDown_r2) ++ wsX00 ++ wsX10 ++ wsX20 ++ (vx_atS RX2 68 "java/lang/IllegalStateException" ["java/lang/RuntimeException", "java/lang/Exception"]).filter goodWord ++ (vx_atS RX2 84 "java/lang/IndexOutOfBoundsException" ["java/lang/RuntimeException", "java/lang/Exception"]).filter goodWord)
def wsL_light_r1 : List Cond := [Cond.classLink RL 20 "java/lang/IndexOutOfBoundsException", Cond.classLink RL 15 "java/lang/IllegalStateException", Cond.methodLink RL 26 yX2_light, Cond.instanceMethod yX2_light, Cond.selects RX2 yX2_light yX2_light, Cond.initialized RX2, Cond.code yX2_light cX2_light 3 (some .int), Cond.classLink RX2 64 "java/lang/IllegalStateException", Cond.initialized "java/lang/IllegalStateException", Cond.fieldLink RX2 125 "Festoon$Lantern" "state" "I", Cond.fieldLink RX2 137 "Festoon$Lantern" "left" "I", Cond.methodLink RX2 72 yX2_lanternNumbered, Cond.instanceMethod yX2_lanternNumbered, Cond.selects RX2 yX2_lanternNumbered yX2_lanternNumbered, Cond.code yX2_lanternNumbered cX2_lanternNumbered 3 (some (.object "Festoon$Lantern")), Cond.classLink RX2 80 "java/lang/IndexOutOfBoundsException", Cond.initialized "java/lang/IndexOutOfBoundsException", Cond.fieldLink RX2 11 "Festoon" "lanterns" "[LFestoon$Lantern;", Cond.methodLink RX2 53 yX2_within, Cond.static yX2_within, Cond.code yX2_within cX2_within 3 (some .boolean), Cond.methodLink RX2 128 yX0_place, Cond.instanceMethod yX0_place, Cond.selects RX0 yX0_place yX0_place]
def wsL_light_r2 : List Cond := [Cond.initialized RX0, Cond.code yX0_place cX0_place 1 (some .int), Cond.fieldLink RX0 15 "Festoon$Lantern" "raft" "LFestoon$Raft;", Cond.fieldLink RX0 34 "Festoon$Raft" "sort" "I", Cond.fieldLink RX0 39 "Festoon$Raft" "front" "I", Cond.fieldLink RX0 19 "Festoon$Lantern" "slot" "I", Cond.methodLink RX2 131 yX2_isCrowded, Cond.instanceMethod yX2_isCrowded, Cond.selects RX2 yX2_isCrowded yX2_isCrowded, Cond.code yX2_isCrowded cX2_isCrowded 5 (some .boolean), Cond.methodLink RX2 233 yX2_isTooNear, Cond.instanceMethod yX2_isTooNear, Cond.selects RX2 yX2_isTooNear yX2_isTooNear, Cond.code yX2_isTooNear cX2_isTooNear 3 (some .boolean), Cond.fieldLink RX2 237 "Festoon$Lantern" "candle" "I", Cond.fieldLink RX2 44 "Festoon" "base" "I", Cond.methodLink RX2 189 yX0_distanceTo, Cond.instanceMethod yX0_distanceTo, Cond.selects RX0 yX0_distanceTo yX0_distanceTo, Cond.code yX0_distanceTo cX0_distanceTo 3 (some .int), Cond.methodLink RX0 42 yX0_place]
def wsL_light : List Cond := .codeWith yL_light cL_light 4 (some .int) [(0, 9, 12, 20), (0, 9, 15, 15)] :: ((wsL_light_r1 ++ wsL_light_r2) ++ wsX00 ++ wsX20 ++ wsX10 ++ (vx_atS RX2 68 "java/lang/IllegalStateException" ["java/lang/RuntimeException", "java/lang/Exception"]).filter goodWord ++ (vx_atS RX2 84 "java/lang/IndexOutOfBoundsException" ["java/lang/RuntimeException", "java/lang/Exception"]).filter goodWord)
def wsL_putOut_r1 : List Cond := [Cond.classLink RL 20 "java/lang/IndexOutOfBoundsException", Cond.classLink RL 15 "java/lang/IllegalStateException", Cond.methodLink RL 29 yX2_putOut, Cond.instanceMethod yX2_putOut, Cond.selects RX2 yX2_putOut yX2_putOut, Cond.initialized RX2, Cond.code yX2_putOut cX2_putOut 3 (some .int), Cond.classLink RX2 64 "java/lang/IllegalStateException", Cond.initialized "java/lang/IllegalStateException", Cond.fieldLink RX2 125 "Festoon$Lantern" "state" "I", Cond.fieldLink RX2 137 "Festoon$Lantern" "left" "I", Cond.methodLink RX2 72 yX2_lanternNumbered, Cond.instanceMethod yX2_lanternNumbered, Cond.selects RX2 yX2_lanternNumbered yX2_lanternNumbered, Cond.code yX2_lanternNumbered cX2_lanternNumbered 3 (some (.object "Festoon$Lantern")), Cond.classLink RX2 80 "java/lang/IndexOutOfBoundsException", Cond.initialized "java/lang/IndexOutOfBoundsException", Cond.fieldLink RX2 11 "Festoon" "lanterns" "[LFestoon$Lantern;", Cond.methodLink RX2 53 yX2_within, Cond.static yX2_within, Cond.code yX2_within cX2_within 3 (some .boolean), Cond.methodLink RX2 119 yX0_darken, Cond.instanceMethod yX0_darken, Cond.selects RX0 yX0_darken yX0_darken]
def wsL_putOut_r2 : List Cond := [Cond.initialized RX0, Cond.code yX0_darken cX0_darken 1 none, Cond.fieldLink RX0 9 "Festoon$Lantern" "state" "I"]
def wsL_putOut : List Cond := .codeWith yL_putOut cL_putOut 4 (some .int) [(0, 9, 12, 20), (0, 9, 15, 15)] :: ((wsL_putOut_r1 ++ wsL_putOut_r2) ++ wsX00 ++ wsX20 ++ (vx_atS RX2 68 "java/lang/IllegalStateException" ["java/lang/RuntimeException", "java/lang/Exception"]).filter goodWord ++ (vx_atS RX2 84 "java/lang/IndexOutOfBoundsException" ["java/lang/RuntimeException", "java/lang/Exception"]).filter goodWord)
def wsL_build_r1 : List Cond := [Cond.classLink RL 13 "java/lang/IllegalArgumentException", Cond.classLink RL 15 "java/lang/IllegalStateException", Cond.methodLink RL 32 yX2_build, Cond.instanceMethod yX2_build, Cond.selects RX2 yX2_build yX2_build, Cond.initialized RX2, Cond.code yX2_build cX2_build 3 (some .int), Cond.classLink RX2 57 "java/lang/IllegalArgumentException", Cond.initialized "java/lang/IllegalArgumentException", Cond.classLink RX2 64 "java/lang/IllegalStateException", Cond.initialized "java/lang/IllegalStateException", Cond.fieldLink RX2 32 "Festoon" "built" "I", Cond.fieldLink RX2 17 "Festoon" "rafts" "[LFestoon$Raft;", Cond.classLink RX2 15 RX1, Cond.instantiable RX1 7, Cond.initialized RX1, Cond.methodLink RX2 53 yX2_within, Cond.static yX2_within, Cond.code yX2_within cX2_within 3 (some .boolean), Cond.methodLink RX2 146 yX1_init, Cond.instanceMethod yX1_init, Cond.code yX1_init cX1_init 4 none, Cond.methodLink RX1 3 objectInit, Cond.instanceMethod objectInit]
def wsL_build_r2 : List Cond := [Cond.code objectInit ⟨#[0xb1]⟩ 1 none, Cond.classLink RX1 9 RX0, Cond.fieldLink RX1 11 "Festoon$Raft" "slots" "[LFestoon$Lantern;", Cond.fieldLink RX1 17 "Festoon$Raft" "sort" "I", Cond.fieldLink RX1 21 "Festoon$Raft" "front" "I", Cond.fieldLink RX1 24 "Festoon$Raft" "order" "I", Cond.fieldLink RX1 27 "Festoon$Raft" "number" "I", Cond.fieldLink RX1 30 "Festoon$Raft" "speed" "I", Cond.fieldLink RX1 33 "Festoon$Raft" "bears" "I"]
def wsL_build : List Cond := .codeWith yL_build cL_build 5 (some .int) [(0, 10, 13, 13), (0, 10, 17, 15)] :: ((wsL_build_r1 ++ wsL_build_r2) ++ wsX20 ++ wsX10 ++ (vx_atS RX2 61 "java/lang/IllegalArgumentException" ["java/lang/RuntimeException", "java/lang/Exception"]).filter goodWord ++ (vx_atS RX2 68 "java/lang/IllegalStateException" ["java/lang/RuntimeException", "java/lang/Exception"]).filter goodWord)
def wsL_launch_r1 : List Cond := [Cond.classLink RL 20 "java/lang/IndexOutOfBoundsException", Cond.classLink RL 15 "java/lang/IllegalStateException", Cond.methodLink RL 36 yX2_launch, Cond.instanceMethod yX2_launch, Cond.selects RX2 yX2_launch yX2_launch, Cond.initialized RX2, Cond.code yX2_launch cX2_launch 3 (some .int), Cond.classLink RX2 64 "java/lang/IllegalStateException", Cond.initialized "java/lang/IllegalStateException", Cond.fieldLink RX2 94 "Festoon$Raft" "sort" "I", Cond.fieldLink RX2 35 "Festoon" "launches" "I", Cond.fieldLink RX2 21 "Festoon" "launched" "[LFestoon$Raft;", Cond.fieldLink RX2 153 "Festoon$Raft" "front" "I", Cond.fieldLink RX2 156 "Festoon$Raft" "order" "I", Cond.methodLink RX2 76 yX2_raftNumbered, Cond.instanceMethod yX2_raftNumbered, Cond.selects RX2 yX2_raftNumbered yX2_raftNumbered, Cond.code yX2_raftNumbered cX2_raftNumbered 3 (some (.object "Festoon$Raft")), Cond.classLink RX2 80 "java/lang/IndexOutOfBoundsException", Cond.initialized "java/lang/IndexOutOfBoundsException", Cond.fieldLink RX2 17 "Festoon" "rafts" "[LFestoon$Raft;", Cond.methodLink RX2 53 yX2_within, Cond.static yX2_within, Cond.code yX2_within cX2_within 3 (some .boolean)]
def wsL_launch_r2 : List Cond := [Cond.methodLink RX2 147 yX2_hasRoomToLaunch, Cond.instanceMethod yX2_hasRoomToLaunch, Cond.selects RX2 yX2_hasRoomToLaunch yX2_hasRoomToLaunch, Cond.code yX2_hasRoomToLaunch cX2_hasRoomToLaunch 6 (some .boolean), Cond.fieldLink RX2 41 "Festoon" "gap" "I", Cond.methodLink RX2 202 yX1_rear, Cond.instanceMethod yX1_rear, Cond.selects RX1 yX1_rear yX1_rear, Cond.initialized RX1, Cond.code yX1_rear cX1_rear 1 (some .int), Cond.fieldLink RX1 21 "Festoon$Raft" "front" "I", Cond.methodLink RX2 159 yX2_raftsOnRiver, Cond.instanceMethod yX2_raftsOnRiver, Cond.selects RX2 yX2_raftsOnRiver yX2_raftsOnRiver, Cond.code yX2_raftsOnRiver cX2_raftsOnRiver 6 (some .int)]
def wsL_launch : List Cond := .codeWith yL_launch cL_launch 4 (some .int) [(0, 9, 12, 20), (0, 9, 15, 15)] :: ((wsL_launch_r1 ++ wsL_launch_r2) ++ wsX10 ++ wsX20 ++ (vx_atS RX2 68 "java/lang/IllegalStateException" ["java/lang/RuntimeException", "java/lang/Exception"]).filter goodWord ++ (vx_atS RX2 84 "java/lang/IndexOutOfBoundsException" ["java/lang/RuntimeException", "java/lang/Exception"]).filter goodWord)
def wsL_setRules : List Cond := .codeWith yL_setRules cL_setRules 5 (some .int) [(0, 10, 13, 13)] :: ([.classLink RL 13 "java/lang/IllegalArgumentException", .methodLink RL 39 yX2_setRules, .instanceMethod yX2_setRules, .selects RX2 yX2_setRules yX2_setRules, .initialized RX2, .code yX2_setRules cX2_setRules 4 (some .int), .classLink RX2 57 "java/lang/IllegalArgumentException", .initialized "java/lang/IllegalArgumentException", .fieldLink RX2 41 "Festoon" "gap" "I", .fieldLink RX2 44 "Festoon" "base" "I", .methodLink RX2 53 yX2_within, .static yX2_within, .code yX2_within cX2_within 3 (some .boolean)] ++ wsX20 ++ (vx_atS RX2 61 "java/lang/IllegalArgumentException" ["java/lang/RuntimeException", "java/lang/Exception"]).filter goodWord)
def wsL_setGust : List Cond := .codeWith yL_setGust cL_setGust 5 (some .int) [(0, 10, 13, 13)] :: ([.classLink RL 13 "java/lang/IllegalArgumentException", .methodLink RL 42 yX2_setGust, .instanceMethod yX2_setGust, .selects RX2 yX2_setGust yX2_setGust, .initialized RX2, .code yX2_setGust cX2_setGust 4 (some .int), .classLink RX2 57 "java/lang/IllegalArgumentException", .initialized "java/lang/IllegalArgumentException", .fieldLink RX2 24 "Festoon" "gusts" "[I", .methodLink RX2 53 yX2_within, .static yX2_within, .code yX2_within cX2_within 3 (some .boolean)] ++ wsX20 ++ (vx_atS RX2 61 "java/lang/IllegalArgumentException" ["java/lang/RuntimeException", "java/lang/Exception"]).filter goodWord)
def wsL_pass_r1 : List Cond := [Cond.classLink RL 13 "java/lang/IllegalArgumentException", Cond.methodLink RL 45 yX2_pass, Cond.instanceMethod yX2_pass, Cond.selects RX2 yX2_pass yX2_pass, Cond.initialized RX2, Cond.code yX2_pass cX2_pass 4 (some .int), Cond.classLink RX2 57 "java/lang/IllegalArgumentException", Cond.initialized "java/lang/IllegalArgumentException", Cond.methodLink RX2 53 yX2_within, Cond.static yX2_within, Cond.code yX2_within cX2_within 3 (some .boolean), Cond.methodLink RX2 168 yX2_litLanterns, Cond.instanceMethod yX2_litLanterns, Cond.selects RX2 yX2_litLanterns yX2_litLanterns, Cond.code yX2_litLanterns cX2_litLanterns 6 (some .int), Cond.fieldLink RX2 11 "Festoon" "lanterns" "[LFestoon$Lantern;", Cond.fieldLink RX2 125 "Festoon$Lantern" "state" "I", Cond.methodLink RX2 171 yX2_passOne, Cond.instanceMethod yX2_passOne, Cond.selects RX2 yX2_passOne yX2_passOne, Cond.code yX2_passOne cX2_passOne 1 none, Cond.fieldLink RX2 38 "Festoon" "now" "I", Cond.methodLink RX2 205 yX2_moveRafts, Cond.instanceMethod yX2_moveRafts]
def wsL_pass_r2 : List Cond := [Cond.selects RX2 yX2_moveRafts yX2_moveRafts, Cond.code yX2_moveRafts cX2_moveRafts 6 none, Cond.fieldLink RX2 21 "Festoon" "launched" "[LFestoon$Raft;", Cond.fieldLink RX2 94 "Festoon$Raft" "sort" "I", Cond.fieldLink RX2 41 "Festoon" "gap" "I", Cond.methodLink RX2 220 yX1_moveBehind, Cond.instanceMethod yX1_moveBehind, Cond.selects RX1 yX1_moveBehind yX1_moveBehind, Cond.initialized RX1, Cond.code yX1_moveBehind cX1_moveBehind 4 none, Cond.fieldLink RX1 21 "Festoon$Raft" "front" "I", Cond.fieldLink RX1 30 "Festoon$Raft" "speed" "I", Cond.methodLink RX1 54 Lib.Math.min.name, Cond.static Lib.Math.min.name, Cond.initialized "java/lang/Math", Cond.code Lib.Math.min.name Lib.Math.min.code 2 (some .int), Cond.methodLink RX1 60 Lib.Math.max.name, Cond.static Lib.Math.max.name, Cond.code Lib.Math.max.name Lib.Math.max.code 2 (some .int), Cond.methodLink RX1 51 yX1_rear, Cond.instanceMethod yX1_rear, Cond.selects RX1 yX1_rear yX1_rear, Cond.code yX1_rear cX1_rear 1 (some .int), Cond.methodLink RX2 208 yX2_letRaftsGo]
def wsL_pass_r3 : List Cond := [Cond.instanceMethod yX2_letRaftsGo, Cond.selects RX2 yX2_letRaftsGo yX2_letRaftsGo, Cond.code yX2_letRaftsGo cX2_letRaftsGo 5 none, Cond.fieldLink RX2 153 "Festoon$Raft" "front" "I", Cond.methodLink RX2 224 yX1_darkenAll, Cond.instanceMethod yX1_darkenAll, Cond.selects RX1 yX1_darkenAll yX1_darkenAll, Cond.code yX1_darkenAll cX1_darkenAll 5 none, Cond.fieldLink RX1 11 "Festoon$Raft" "slots" "[LFestoon$Lantern;", Cond.methodLink RX1 63 yX0_darken, Cond.instanceMethod yX0_darken, Cond.selects RX0 yX0_darken yX0_darken, Cond.initialized RX0, Cond.code yX0_darken cX0_darken 1 none, Cond.fieldLink RX0 9 "Festoon$Lantern" "state" "I", Cond.methodLink RX2 211 yX2_blowGust, Cond.instanceMethod yX2_blowGust, Cond.selects RX2 yX2_blowGust yX2_blowGust, Cond.code yX2_blowGust cX2_blowGust 6 none, Cond.fieldLink RX2 24 "Festoon" "gusts" "[I", Cond.fieldLink RX2 47 "Festoon" "darkByGusts" "I", Cond.methodLink RX2 227 yX0_firmness, Cond.instanceMethod yX0_firmness, Cond.selects RX0 yX0_firmness yX0_firmness]
def wsL_pass_r4 : List Cond := [Cond.code yX0_firmness cX0_firmness 1 (some .int), Cond.fieldLink RX0 25 "Festoon$Lantern" "paper" "I", Cond.fieldLink RX0 22 "Festoon$Lantern" "ribs" "I", Cond.methodLink RX2 119 yX0_darken, Cond.methodLink RX2 214 yX2_burnCandles, Cond.instanceMethod yX2_burnCandles, Cond.selects RX2 yX2_burnCandles yX2_burnCandles, Cond.code yX2_burnCandles cX2_burnCandles 5 none, Cond.methodLink RX2 230 yX0_burnOneMinute, Cond.instanceMethod yX0_burnOneMinute, Cond.selects RX0 yX0_burnOneMinute yX0_burnOneMinute, Cond.code yX0_burnOneMinute cX0_burnOneMinute 1 none, Cond.fieldLink RX0 31 "Festoon$Lantern" "left" "I", Cond.methodLink RX2 217 yX2_sendMarshal, Cond.instanceMethod yX2_sendMarshal, Cond.selects RX2 yX2_sendMarshal yX2_sendMarshal, Cond.code yX2_sendMarshal cX2_sendMarshal 3 none, Cond.fieldLink RX2 50 "Festoon" "darkByMarshal" "I", Cond.methodLink RX2 131 yX2_isCrowded, Cond.instanceMethod yX2_isCrowded, Cond.selects RX2 yX2_isCrowded yX2_isCrowded, Cond.code yX2_isCrowded cX2_isCrowded 5 (some .boolean), Cond.methodLink RX2 233 yX2_isTooNear, Cond.instanceMethod yX2_isTooNear]
def wsL_pass_r5 : List Cond := [Cond.selects RX2 yX2_isTooNear yX2_isTooNear, Cond.code yX2_isTooNear cX2_isTooNear 3 (some .boolean), Cond.fieldLink RX2 237 "Festoon$Lantern" "candle" "I", Cond.fieldLink RX2 44 "Festoon" "base" "I", Cond.methodLink RX2 189 yX0_distanceTo, Cond.instanceMethod yX0_distanceTo, Cond.selects RX0 yX0_distanceTo yX0_distanceTo, Cond.code yX0_distanceTo cX0_distanceTo 3 (some .int), Cond.methodLink RX0 42 yX0_place, Cond.instanceMethod yX0_place, Cond.selects RX0 yX0_place yX0_place, Cond.code yX0_place cX0_place 1 (some .int), Cond.fieldLink RX0 15 "Festoon$Lantern" "raft" "LFestoon$Raft;", Cond.fieldLink RX0 34 "Festoon$Raft" "sort" "I", Cond.fieldLink RX0 39 "Festoon$Raft" "front" "I", Cond.fieldLink RX0 19 "Festoon$Lantern" "slot" "I"]
def wsL_pass : List Cond := .codeWith yL_pass cL_pass 4 (some .int) [(0, 9, 12, 13)] :: ((wsL_pass_r1 ++ (wsL_pass_r2 ++ (wsL_pass_r3 ++ (wsL_pass_r4 ++ wsL_pass_r5)))) ++ wsX20 ++ wsX00 ++ wsX10 ++ (vx_atS RX2 61 "java/lang/IllegalArgumentException" ["java/lang/RuntimeException", "java/lang/Exception"]).filter goodWord)
def wsL_stateOf : List Cond := .codeWith yL_stateOf cL_stateOf 4 (some .int) [(0, 9, 12, 20)] :: ([.classLink RL 20 "java/lang/IndexOutOfBoundsException", .methodLink RL 48 yX2_stateOf, .instanceMethod yX2_stateOf, .selects RX2 yX2_stateOf yX2_stateOf, .initialized RX2, .code yX2_stateOf cX2_stateOf 3 (some .int), .fieldLink RX2 125 "Festoon$Lantern" "state" "I", .methodLink RX2 72 yX2_lanternNumbered, .instanceMethod yX2_lanternNumbered, .selects RX2 yX2_lanternNumbered yX2_lanternNumbered, .code yX2_lanternNumbered cX2_lanternNumbered 3 (some (.object "Festoon$Lantern")), .classLink RX2 80 "java/lang/IndexOutOfBoundsException", .initialized "java/lang/IndexOutOfBoundsException", .fieldLink RX2 11 "Festoon" "lanterns" "[LFestoon$Lantern;", .methodLink RX2 53 yX2_within, .static yX2_within, .code yX2_within cX2_within 3 (some .boolean)] ++ wsX00 ++ wsX20 ++ (vx_atS RX2 84 "java/lang/IndexOutOfBoundsException" ["java/lang/RuntimeException", "java/lang/Exception"]).filter goodWord)
def wsL_left : List Cond := .codeWith yL_left cL_left 4 (some .int) [(0, 9, 12, 20)] :: ([.classLink RL 20 "java/lang/IndexOutOfBoundsException", .methodLink RL 51 yX2_left, .instanceMethod yX2_left, .selects RX2 yX2_left yX2_left, .initialized RX2, .code yX2_left cX2_left 3 (some .int), .fieldLink RX2 137 "Festoon$Lantern" "left" "I", .methodLink RX2 72 yX2_lanternNumbered, .instanceMethod yX2_lanternNumbered, .selects RX2 yX2_lanternNumbered yX2_lanternNumbered, .code yX2_lanternNumbered cX2_lanternNumbered 3 (some (.object "Festoon$Lantern")), .classLink RX2 80 "java/lang/IndexOutOfBoundsException", .initialized "java/lang/IndexOutOfBoundsException", .fieldLink RX2 11 "Festoon" "lanterns" "[LFestoon$Lantern;", .methodLink RX2 53 yX2_within, .static yX2_within, .code yX2_within cX2_within 3 (some .boolean)] ++ wsX00 ++ wsX20 ++ (vx_atS RX2 84 "java/lang/IndexOutOfBoundsException" ["java/lang/RuntimeException", "java/lang/Exception"]).filter goodWord)
def wsL_placeOf_r1 : List Cond := [Cond.classLink RL 20 "java/lang/IndexOutOfBoundsException", Cond.methodLink RL 54 yX2_placeOf, Cond.instanceMethod yX2_placeOf, Cond.selects RX2 yX2_placeOf yX2_placeOf, Cond.initialized RX2, Cond.code yX2_placeOf cX2_placeOf 3 (some .int), Cond.methodLink RX2 72 yX2_lanternNumbered, Cond.instanceMethod yX2_lanternNumbered, Cond.selects RX2 yX2_lanternNumbered yX2_lanternNumbered, Cond.code yX2_lanternNumbered cX2_lanternNumbered 3 (some (.object "Festoon$Lantern")), Cond.classLink RX2 80 "java/lang/IndexOutOfBoundsException", Cond.initialized "java/lang/IndexOutOfBoundsException", Cond.fieldLink RX2 11 "Festoon" "lanterns" "[LFestoon$Lantern;", Cond.methodLink RX2 53 yX2_within, Cond.static yX2_within, Cond.code yX2_within cX2_within 3 (some .boolean), Cond.methodLink RX2 128 yX0_place, Cond.instanceMethod yX0_place, Cond.selects RX0 yX0_place yX0_place, Cond.initialized RX0, Cond.code yX0_place cX0_place 1 (some .int), Cond.fieldLink RX0 15 "Festoon$Lantern" "raft" "LFestoon$Raft;", Cond.fieldLink RX0 34 "Festoon$Raft" "sort" "I", Cond.fieldLink RX0 39 "Festoon$Raft" "front" "I"]
def wsL_placeOf_r2 : List Cond := [Cond.fieldLink RX0 19 "Festoon$Lantern" "slot" "I"]
def wsL_placeOf : List Cond := .codeWith yL_placeOf cL_placeOf 4 (some .int) [(0, 9, 12, 20)] :: ((wsL_placeOf_r1 ++ wsL_placeOf_r2) ++ wsX20 ++ wsX00 ++ wsX10 ++ (vx_atS RX2 84 "java/lang/IndexOutOfBoundsException" ["java/lang/RuntimeException", "java/lang/Exception"]).filter goodWord)
def wsL_nearest_r1 : List Cond := [Cond.classLink RL 20 "java/lang/IndexOutOfBoundsException", Cond.methodLink RL 57 yX2_nearest, Cond.instanceMethod yX2_nearest, Cond.selects RX2 yX2_nearest yX2_nearest, Cond.initialized RX2, Cond.code yX2_nearest cX2_nearest 7 (some .int), Cond.fieldLink RX2 90 "Festoon$Lantern" "raft" "LFestoon$Raft;", Cond.fieldLink RX2 94 "Festoon$Raft" "sort" "I", Cond.fieldLink RX2 156 "Festoon$Raft" "order" "I", Cond.methodLink RX2 72 yX2_lanternNumbered, Cond.instanceMethod yX2_lanternNumbered, Cond.selects RX2 yX2_lanternNumbered yX2_lanternNumbered, Cond.code yX2_lanternNumbered cX2_lanternNumbered 3 (some (.object "Festoon$Lantern")), Cond.classLink RX2 80 "java/lang/IndexOutOfBoundsException", Cond.initialized "java/lang/IndexOutOfBoundsException", Cond.fieldLink RX2 11 "Festoon" "lanterns" "[LFestoon$Lantern;", Cond.methodLink RX2 53 yX2_within, Cond.static yX2_within, Cond.code yX2_within cX2_within 3 (some .boolean), Cond.methodLink RX2 174 yX1_nearestLit, Cond.instanceMethod yX1_nearestLit, Cond.selects RX1 yX1_nearestLit yX1_nearestLit, Cond.initialized RX1, Cond.code yX1_nearestLit cX1_nearestLit 7 (some .int)]
def wsL_nearest_r2 : List Cond := [Cond.fieldLink RX1 11 "Festoon$Raft" "slots" "[LFestoon$Lantern;", Cond.fieldLink RX1 66 "Festoon$Lantern" "state" "I", Cond.methodLink RX1 69 yX0_distanceTo, Cond.instanceMethod yX0_distanceTo, Cond.selects RX0 yX0_distanceTo yX0_distanceTo, Cond.initialized RX0, Cond.code yX0_distanceTo cX0_distanceTo 3 (some .int), Cond.methodLink RX0 42 yX0_place, Cond.instanceMethod yX0_place, Cond.selects RX0 yX0_place yX0_place, Cond.code yX0_place cX0_place 1 (some .int), Cond.fieldLink RX0 15 "Festoon$Lantern" "raft" "LFestoon$Raft;", Cond.fieldLink RX0 34 "Festoon$Raft" "sort" "I", Cond.fieldLink RX0 39 "Festoon$Raft" "front" "I", Cond.fieldLink RX0 19 "Festoon$Lantern" "slot" "I", Cond.static yX2_nearer, Cond.code yX2_nearer cX2_nearer 2 (some .int), Cond.methodLink RX2 245 Lib.Math.max.name, Cond.static Lib.Math.max.name, Cond.initialized "java/lang/Math", Cond.code Lib.Math.max.name Lib.Math.max.code 2 (some .int), Cond.methodLink RX2 240 Lib.Math.min.name, Cond.static Lib.Math.min.name, Cond.code Lib.Math.min.name Lib.Math.min.code 2 (some .int)]
def wsL_nearest_r3 : List Cond := [Cond.methodLink RX2 178 yX2_nearestAhead, Cond.instanceMethod yX2_nearestAhead, Cond.selects RX2 yX2_nearestAhead yX2_nearestAhead, Cond.code yX2_nearestAhead cX2_nearestAhead 6 (some .int), Cond.fieldLink RX2 21 "Festoon" "launched" "[LFestoon$Raft;", Cond.methodLink RX2 182 yX2_nearestBehind, Cond.instanceMethod yX2_nearestBehind, Cond.selects RX2 yX2_nearestBehind yX2_nearestBehind, Cond.code yX2_nearestBehind cX2_nearestBehind 6 (some .int), Cond.methodLink RX2 185 yX2_nearer]
def wsL_nearest : List Cond := .codeWith yL_nearest cL_nearest 4 (some .int) [(0, 9, 12, 20)] :: ((wsL_nearest_r1 ++ (wsL_nearest_r2 ++ wsL_nearest_r3)) ++ wsX00 ++ wsX10 ++ wsX20 ++ (vx_atS RX2 84 "java/lang/IndexOutOfBoundsException" ["java/lang/RuntimeException", "java/lang/Exception"]).filter goodWord)
def wsL_nearestOfAll_r1 : List Cond := [Cond.classLink RL 20 "java/lang/IndexOutOfBoundsException", Cond.methodLink RL 60 yX2_nearestOfAll, Cond.instanceMethod yX2_nearestOfAll, Cond.selects RX2 yX2_nearestOfAll yX2_nearestOfAll, Cond.initialized RX2, Cond.code yX2_nearestOfAll cX2_nearestOfAll 8 (some .int), Cond.fieldLink RX2 11 "Festoon" "lanterns" "[LFestoon$Lantern;", Cond.fieldLink RX2 125 "Festoon$Lantern" "state" "I", Cond.methodLink RX2 72 yX2_lanternNumbered, Cond.instanceMethod yX2_lanternNumbered, Cond.selects RX2 yX2_lanternNumbered yX2_lanternNumbered, Cond.code yX2_lanternNumbered cX2_lanternNumbered 3 (some (.object "Festoon$Lantern")), Cond.classLink RX2 80 "java/lang/IndexOutOfBoundsException", Cond.initialized "java/lang/IndexOutOfBoundsException", Cond.methodLink RX2 53 yX2_within, Cond.static yX2_within, Cond.code yX2_within cX2_within 3 (some .boolean), Cond.methodLink RX2 128 yX0_place, Cond.instanceMethod yX0_place, Cond.selects RX0 yX0_place yX0_place, Cond.initialized RX0, Cond.code yX0_place cX0_place 1 (some .int), Cond.fieldLink RX0 15 "Festoon$Lantern" "raft" "LFestoon$Raft;", Cond.fieldLink RX0 34 "Festoon$Raft" "sort" "I"]
def wsL_nearestOfAll_r2 : List Cond := [Cond.fieldLink RX0 39 "Festoon$Raft" "front" "I", Cond.fieldLink RX0 19 "Festoon$Lantern" "slot" "I", Cond.methodLink RX2 189 yX0_distanceTo, Cond.instanceMethod yX0_distanceTo, Cond.selects RX0 yX0_distanceTo yX0_distanceTo, Cond.code yX0_distanceTo cX0_distanceTo 3 (some .int), Cond.methodLink RX0 42 yX0_place, Cond.methodLink RX2 185 yX2_nearer, Cond.static yX2_nearer, Cond.code yX2_nearer cX2_nearer 2 (some .int), Cond.methodLink RX2 245 Lib.Math.max.name, Cond.static Lib.Math.max.name, Cond.initialized "java/lang/Math", Cond.code Lib.Math.max.name Lib.Math.max.code 2 (some .int), Cond.methodLink RX2 240 Lib.Math.min.name, Cond.static Lib.Math.min.name, Cond.code Lib.Math.min.name Lib.Math.min.code 2 (some .int)]
def wsL_nearestOfAll : List Cond := .codeWith yL_nearestOfAll cL_nearestOfAll 4 (some .int) [(0, 9, 12, 20)] :: ((wsL_nearestOfAll_r1 ++ wsL_nearestOfAll_r2) ++ wsX20 ++ wsX00 ++ wsX10 ++ (vx_atS RX2 84 "java/lang/IndexOutOfBoundsException" ["java/lang/RuntimeException", "java/lang/Exception"]).filter goodWord)
def wsL_sortOf : List Cond := .codeWith yL_sortOf cL_sortOf 4 (some .int) [(0, 9, 12, 20)] :: ([.classLink RL 20 "java/lang/IndexOutOfBoundsException", .methodLink RL 63 yX2_sortOf, .instanceMethod yX2_sortOf, .selects RX2 yX2_sortOf yX2_sortOf, .initialized RX2, .code yX2_sortOf cX2_sortOf 3 (some .int), .fieldLink RX2 94 "Festoon$Raft" "sort" "I", .methodLink RX2 76 yX2_raftNumbered, .instanceMethod yX2_raftNumbered, .selects RX2 yX2_raftNumbered yX2_raftNumbered, .code yX2_raftNumbered cX2_raftNumbered 3 (some (.object "Festoon$Raft")), .classLink RX2 80 "java/lang/IndexOutOfBoundsException", .initialized "java/lang/IndexOutOfBoundsException", .fieldLink RX2 17 "Festoon" "rafts" "[LFestoon$Raft;", .methodLink RX2 53 yX2_within, .static yX2_within, .code yX2_within cX2_within 3 (some .boolean)] ++ wsX10 ++ wsX20 ++ (vx_atS RX2 84 "java/lang/IndexOutOfBoundsException" ["java/lang/RuntimeException", "java/lang/Exception"]).filter goodWord)
def wsL_front : List Cond := .codeWith yL_front cL_front 4 (some .int) [(0, 9, 12, 20)] :: ([.classLink RL 20 "java/lang/IndexOutOfBoundsException", .methodLink RL 66 yX2_front, .instanceMethod yX2_front, .selects RX2 yX2_front yX2_front, .initialized RX2, .code yX2_front cX2_front 3 (some .int), .fieldLink RX2 94 "Festoon$Raft" "sort" "I", .fieldLink RX2 153 "Festoon$Raft" "front" "I", .methodLink RX2 76 yX2_raftNumbered, .instanceMethod yX2_raftNumbered, .selects RX2 yX2_raftNumbered yX2_raftNumbered, .code yX2_raftNumbered cX2_raftNumbered 3 (some (.object "Festoon$Raft")), .classLink RX2 80 "java/lang/IndexOutOfBoundsException", .initialized "java/lang/IndexOutOfBoundsException", .fieldLink RX2 17 "Festoon" "rafts" "[LFestoon$Raft;", .methodLink RX2 53 yX2_within, .static yX2_within, .code yX2_within cX2_within 3 (some .boolean)] ++ wsX10 ++ wsX20 ++ (vx_atS RX2 84 "java/lang/IndexOutOfBoundsException" ["java/lang/RuntimeException", "java/lang/Exception"]).filter goodWord)
def wsL_load_r1 : List Cond := [Cond.classLink RL 20 "java/lang/IndexOutOfBoundsException", Cond.methodLink RL 69 yX2_load, Cond.instanceMethod yX2_load, Cond.selects RX2 yX2_load yX2_load, Cond.initialized RX2, Cond.code yX2_load cX2_load 3 (some .int), Cond.methodLink RX2 76 yX2_raftNumbered, Cond.instanceMethod yX2_raftNumbered, Cond.selects RX2 yX2_raftNumbered yX2_raftNumbered, Cond.code yX2_raftNumbered cX2_raftNumbered 3 (some (.object "Festoon$Raft")), Cond.classLink RX2 80 "java/lang/IndexOutOfBoundsException", Cond.initialized "java/lang/IndexOutOfBoundsException", Cond.fieldLink RX2 17 "Festoon" "rafts" "[LFestoon$Raft;", Cond.methodLink RX2 53 yX2_within, Cond.static yX2_within, Cond.code yX2_within cX2_within 3 (some .boolean), Cond.methodLink RX2 99 yX1_weight, Cond.instanceMethod yX1_weight, Cond.selects RX1 yX1_weight yX1_weight, Cond.initialized RX1, Cond.code yX1_weight cX1_weight 6 (some .int), Cond.fieldLink RX1 11 "Festoon$Raft" "slots" "[LFestoon$Lantern;", Cond.methodLink RX1 47 yX0_weight, Cond.instanceMethod yX0_weight]
def wsL_load_r2 : List Cond := [Cond.selects RX0 yX0_weight yX0_weight, Cond.initialized RX0, Cond.code yX0_weight cX0_weight 1 (some .int), Cond.fieldLink RX0 22 "Festoon$Lantern" "ribs" "I", Cond.fieldLink RX0 25 "Festoon$Lantern" "paper" "I", Cond.fieldLink RX0 28 "Festoon$Lantern" "candle" "I"]
def wsL_load : List Cond := .codeWith yL_load cL_load 4 (some .int) [(0, 9, 12, 20)] :: ((wsL_load_r1 ++ wsL_load_r2) ++ wsX20 ++ wsX10 ++ wsX00 ++ (vx_atS RX2 84 "java/lang/IndexOutOfBoundsException" ["java/lang/RuntimeException", "java/lang/Exception"]).filter goodWord)
def wsL_likeness_r1 : List Cond := [Cond.classLink RL 20 "java/lang/IndexOutOfBoundsException", Cond.classLink RL 13 "java/lang/IllegalArgumentException", Cond.methodLink RL 72 yX2_likeness, Cond.instanceMethod yX2_likeness, Cond.selects RX2 yX2_likeness yX2_likeness, Cond.initialized RX2, Cond.code yX2_likeness cX2_likeness 4 (some .int), Cond.classLink RX2 57 "java/lang/IllegalArgumentException", Cond.initialized "java/lang/IllegalArgumentException", Cond.methodLink RX2 76 yX2_raftNumbered, Cond.instanceMethod yX2_raftNumbered, Cond.selects RX2 yX2_raftNumbered yX2_raftNumbered, Cond.code yX2_raftNumbered cX2_raftNumbered 3 (some (.object "Festoon$Raft")), Cond.classLink RX2 80 "java/lang/IndexOutOfBoundsException", Cond.initialized "java/lang/IndexOutOfBoundsException", Cond.fieldLink RX2 17 "Festoon" "rafts" "[LFestoon$Raft;", Cond.methodLink RX2 53 yX2_within, Cond.static yX2_within, Cond.code yX2_within cX2_within 3 (some .boolean), Cond.methodLink RX2 194 yX1_alike, Cond.instanceMethod yX1_alike, Cond.selects RX1 yX1_alike yX1_alike, Cond.initialized RX1, Cond.code yX1_alike cX1_alike 7 (some .int)]
def wsL_likeness_r2 : List Cond := [Cond.fieldLink RX1 11 "Festoon$Raft" "slots" "[LFestoon$Lantern;", Cond.fieldLink RX1 66 "Festoon$Lantern" "state" "I"]
def wsL_likeness : List Cond := .codeWith yL_likeness cL_likeness 5 (some .int) [(0, 10, 13, 20), (0, 10, 17, 13)] :: ((wsL_likeness_r1 ++ wsL_likeness_r2) ++ wsX20 ++ wsX10 ++ wsX00 ++ (vx_atS RX2 61 "java/lang/IllegalArgumentException" ["java/lang/RuntimeException", "java/lang/Exception"]).filter goodWord ++ (vx_atS RX2 84 "java/lang/IndexOutOfBoundsException" ["java/lang/RuntimeException", "java/lang/Exception"]).filter goodWord)
def wsL_prize : List Cond := .codeWith yL_prize cL_prize 4 (some .int) [(0, 9, 12, 13)] :: ([.classLink RL 13 "java/lang/IllegalArgumentException", .methodLink RL 75 yX2_prize, .instanceMethod yX2_prize, .selects RX2 yX2_prize yX2_prize, .initialized RX2, .code yX2_prize cX2_prize 8 (some .int), .classLink RX2 57 "java/lang/IllegalArgumentException", .initialized "java/lang/IllegalArgumentException", .fieldLink RX2 21 "Festoon" "launched" "[LFestoon$Raft;", .fieldLink RX2 94 "Festoon$Raft" "sort" "I", .fieldLink RX2 122 "Festoon$Raft" "number" "I", .methodLink RX2 53 yX2_within, .static yX2_within, .code yX2_within cX2_within 3 (some .boolean), .methodLink RX2 194 yX1_alike, .instanceMethod yX1_alike, .selects RX1 yX1_alike yX1_alike, .initialized RX1, .code yX1_alike cX1_alike 7 (some .int), .fieldLink RX1 11 "Festoon$Raft" "slots" "[LFestoon$Lantern;", .fieldLink RX1 66 "Festoon$Lantern" "state" "I"] ++ wsX20 ++ wsX10 ++ wsX00 ++ (vx_atS RX2 61 "java/lang/IllegalArgumentException" ["java/lang/RuntimeException", "java/lang/Exception"]).filter goodWord)
def wsL_law0_r1 : List Cond := [Cond.classLink RL 8 RX2, Cond.instantiable RX2 12, Cond.initialized RX2, Cond.classLink RL 79 RX3, Cond.instantiable RX3 22, Cond.initialized RX3, Cond.arrayClass .long, Cond.methodLink RL 78 yX2_init, Cond.instanceMethod yX2_init, Cond.code yX2_init cX2_init 1 none, Cond.methodLink RX2 1 objectInit, Cond.instanceMethod objectInit, Cond.code objectInit ⟨#[0xb1]⟩ 1 none, Cond.classLink RX2 9 RX0, Cond.fieldLink RX2 11 "Festoon" "lanterns" "[LFestoon$Lantern;", Cond.classLink RX2 15 RX1, Cond.fieldLink RX2 17 "Festoon" "rafts" "[LFestoon$Raft;", Cond.fieldLink RX2 21 "Festoon" "launched" "[LFestoon$Raft;", Cond.arrayClass .int, Cond.fieldLink RX2 24 "Festoon" "gusts" "[I", Cond.fieldLink RX2 28 "Festoon" "made" "I", Cond.fieldLink RX2 32 "Festoon" "built" "I", Cond.fieldLink RX2 35 "Festoon" "launches" "I", Cond.fieldLink RX2 38 "Festoon" "now" "I"]
def wsL_law0_r2 : List Cond := [Cond.fieldLink RX2 41 "Festoon" "gap" "I", Cond.fieldLink RX2 44 "Festoon" "base" "I", Cond.fieldLink RX2 47 "Festoon" "darkByGusts" "I", Cond.fieldLink RX2 50 "Festoon" "darkByMarshal" "I", Cond.methodLink RL 81 yX3_init, Cond.instanceMethod yX3_init, Cond.code yX3_init cX3_init 1 none, Cond.methodLink RX3 1 objectInit, Cond.fieldLink RX3 7 "FestoonModel" "ribs" "[I", Cond.fieldLink RX3 13 "FestoonModel" "papers" "[I", Cond.fieldLink RX3 16 "FestoonModel" "candles" "[I", Cond.fieldLink RX3 19 "FestoonModel" "states" "[I", Cond.fieldLink RX3 22 "FestoonModel" "lefts" "[I", Cond.fieldLink RX3 25 "FestoonModel" "hangsOn" "[I", Cond.fieldLink RX3 28 "FestoonModel" "slots" "[I", Cond.fieldLink RX3 31 "FestoonModel" "speeds" "[I", Cond.fieldLink RX3 34 "FestoonModel" "bears" "[I", Cond.fieldLink RX3 37 "FestoonModel" "sorts" "[I", Cond.fieldLink RX3 40 "FestoonModel" "fronts" "[I", Cond.fieldLink RX3 43 "FestoonModel" "order" "[I", Cond.fieldLink RX3 46 "FestoonModel" "gap" "I", Cond.fieldLink RX3 50 "FestoonModel" "gusts" "[I", Cond.methodLink RL 82 yL_make, Cond.static yL_make]
def wsL_law0_r3 : List Cond := [Cond.initialized RL, Cond.codeWith yL_make cL_make 6 (some .int) [(0, 12, 15, 13), (0, 12, 19, 15)], Cond.classLink RL 13 "java/lang/IllegalArgumentException", Cond.classLink RL 15 "java/lang/IllegalStateException", Cond.methodLink RL 7 yX2_make, Cond.instanceMethod yX2_make, Cond.selects RX2 yX2_make yX2_make, Cond.code yX2_make cX2_make 4 (some .int), Cond.classLink RX2 57 "java/lang/IllegalArgumentException", Cond.initialized "java/lang/IllegalArgumentException", Cond.classLink RX2 64 "java/lang/IllegalStateException", Cond.initialized "java/lang/IllegalStateException", Cond.instantiable RX0 7, Cond.initialized RX0, Cond.methodLink RX2 53 yX2_within, Cond.static yX2_within, Cond.code yX2_within cX2_within 3 (some .boolean), Cond.methodLink RX2 69 yX0_init, Cond.instanceMethod yX0_init, Cond.code yX0_init cX0_init 4 none, Cond.methodLink RX0 3 objectInit, Cond.fieldLink RX0 9 "Festoon$Lantern" "state" "I", Cond.fieldLink RX0 15 "Festoon$Lantern" "raft" "LFestoon$Raft;", Cond.fieldLink RX0 19 "Festoon$Lantern" "slot" "I"]
def wsL_law0_r4 : List Cond := [Cond.fieldLink RX0 22 "Festoon$Lantern" "ribs" "I", Cond.fieldLink RX0 25 "Festoon$Lantern" "paper" "I", Cond.fieldLink RX0 28 "Festoon$Lantern" "candle" "I", Cond.fieldLink RX0 31 "Festoon$Lantern" "left" "I", Cond.methodLink RL 87 yX3_make, Cond.instanceMethod yX3_make, Cond.selects RX3 yX3_make yX3_make, Cond.code yX3_make cX3_make 4 (some .int), Cond.fieldLink RX3 56 "FestoonModel" "lanterns" "I", Cond.methodLink RX3 59 yX3_in, Cond.static yX3_in, Cond.code yX3_in cX3_in 3 (some .boolean), Cond.methodLink RX3 66 yX3_goes, Cond.instanceMethod yX3_goes, Cond.selects RX3 yX3_goes yX3_goes, Cond.code yX3_goes cX3_goes 4 (some .boolean), Cond.fieldLink RX3 53 "FestoonModel" "last" "I", Cond.methodLink RL 88 yX3_thrown, Cond.instanceMethod yX3_thrown, Cond.selects RX3 yX3_thrown yX3_thrown, Cond.code yX3_thrown cX3_thrown 1 (some .int), Cond.methodLink RL 92 yL_hang, Cond.static yL_hang, Cond.codeWith yL_hang cL_hang 6 (some .int) [(0, 12, 15, 20), (0, 12, 19, 13), (0, 12, 23, 15)]]
def wsL_law0_r5 : List Cond := [Cond.classLink RL 20 "java/lang/IndexOutOfBoundsException", Cond.methodLink RL 17 yX2_hang, Cond.instanceMethod yX2_hang, Cond.selects RX2 yX2_hang yX2_hang, Cond.code yX2_hang cX2_hang 6 (some .int), Cond.classLink RX2 80 "java/lang/IndexOutOfBoundsException", Cond.initialized "java/lang/IndexOutOfBoundsException", Cond.fieldLink RX2 90 "Festoon$Lantern" "raft" "LFestoon$Raft;", Cond.fieldLink RX2 94 "Festoon$Raft" "sort" "I", Cond.fieldLink RX2 104 "Festoon$Raft" "bears" "I", Cond.methodLink RX2 72 yX2_lanternNumbered, Cond.instanceMethod yX2_lanternNumbered, Cond.selects RX2 yX2_lanternNumbered yX2_lanternNumbered, Cond.code yX2_lanternNumbered cX2_lanternNumbered 3 (some (.object "Festoon$Lantern")), Cond.methodLink RX2 76 yX2_raftNumbered, Cond.instanceMethod yX2_raftNumbered, Cond.selects RX2 yX2_raftNumbered yX2_raftNumbered, Cond.code yX2_raftNumbered cX2_raftNumbered 3 (some (.object "Festoon$Raft")), Cond.methodLink RX2 85 yX1_lanternIn, Cond.instanceMethod yX1_lanternIn, Cond.selects RX1 yX1_lanternIn yX1_lanternIn, Cond.initialized RX1, Cond.code yX1_lanternIn cX1_lanternIn 2 (some (.object "Festoon$Lantern")), Cond.fieldLink RX1 11 "Festoon$Raft" "slots" "[LFestoon$Lantern;"]
def wsL_law0_r6 : List Cond := [Cond.methodLink RX2 99 yX1_weight, Cond.instanceMethod yX1_weight, Cond.selects RX1 yX1_weight yX1_weight, Cond.code yX1_weight cX1_weight 6 (some .int), Cond.methodLink RX1 47 yX0_weight, Cond.instanceMethod yX0_weight, Cond.selects RX0 yX0_weight yX0_weight, Cond.code yX0_weight cX0_weight 1 (some .int), Cond.methodLink RX2 103 yX0_weight, Cond.methodLink RX2 109 yX1_put, Cond.instanceMethod yX1_put, Cond.selects RX1 yX1_put yX1_put, Cond.code yX1_put cX1_put 3 none, Cond.fieldLink RX1 40 "Festoon$Lantern" "raft" "LFestoon$Raft;", Cond.fieldLink RX1 44 "Festoon$Lantern" "slot" "I", Cond.methodLink RL 94 yX3_hang, Cond.instanceMethod yX3_hang, Cond.selects RX3 yX3_hang yX3_hang, Cond.code yX3_hang cX3_hang 6 (some .int), Cond.methodLink RX3 74 yX3_isLantern, Cond.instanceMethod yX3_isLantern, Cond.selects RX3 yX3_isLantern yX3_isLantern, Cond.code yX3_isLantern cX3_isLantern 2 (some .boolean), Cond.methodLink RX3 78 yX3_isFloat]
def wsL_law0_r7 : List Cond := [Cond.instanceMethod yX3_isFloat, Cond.selects RX3 yX3_isFloat yX3_isFloat, Cond.code yX3_isFloat cX3_isFloat 2 (some .boolean), Cond.fieldLink RX3 63 "FestoonModel" "floats" "I", Cond.methodLink RX3 81 yX3_loadOf, Cond.instanceMethod yX3_loadOf, Cond.selects RX3 yX3_loadOf yX3_loadOf, Cond.code yX3_loadOf cX3_loadOf 4 (some .int), Cond.methodLink RX3 70 yX3_weight, Cond.instanceMethod yX3_weight, Cond.selects RX3 yX3_weight yX3_weight, Cond.code yX3_weight cX3_weight 2 (some .int), Cond.methodLink RX3 84 yX3_isTaken, Cond.instanceMethod yX3_isTaken, Cond.selects RX3 yX3_isTaken yX3_isTaken, Cond.code yX3_isTaken cX3_isTaken 5 (some .boolean), Cond.methodLink RL 95 yL_takeDown, Cond.static yL_takeDown, Cond.codeWith yL_takeDown cL_takeDown 4 (some .int) [(0, 9, 12, 20), (0, 9, 15, 15)], Cond.methodLink RL 22 yX2_takeDown, Cond.instanceMethod yX2_takeDown, Cond.selects RX2 yX2_takeDown yX2_takeDown, Cond.code yX2_takeDown cX2_takeDown 4 (some .int), Cond.fieldLink RX2 122 "Festoon$Raft" "number" "I"]
def wsL_law0_r8 : List Cond := [Cond.methodLink RX2 115 yX1_free, Cond.instanceMethod yX1_free, Cond.selects RX1 yX1_free yX1_free, Cond.code yX1_free cX1_free 3 none, Cond.methodLink RX2 119 yX0_darken, Cond.instanceMethod yX0_darken, Cond.selects RX0 yX0_darken yX0_darken, Cond.code yX0_darken cX0_darken 1 none, Cond.methodLink RL 98 yX3_takeDown, Cond.instanceMethod yX3_takeDown, Cond.selects RX3 yX3_takeDown yX3_takeDown, Cond.code yX3_takeDown cX3_takeDown 4 (some .int), Cond.methodLink RX3 88 yX3_darkens, Cond.instanceMethod yX3_darkens, Cond.selects RX3 yX3_darkens yX3_darkens, Cond.code yX3_darkens cX3_darkens 2 none, Cond.methodLink RL 99 yL_light, Cond.static yL_light, Cond.codeWith yL_light cL_light 4 (some .int) [(0, 9, 12, 20), (0, 9, 15, 15)], Cond.methodLink RL 26 yX2_light, Cond.instanceMethod yX2_light, Cond.selects RX2 yX2_light yX2_light, Cond.code yX2_light cX2_light 3 (some .int), Cond.fieldLink RX2 125 "Festoon$Lantern" "state" "I"]
def wsL_law0_r9 : List Cond := [Cond.fieldLink RX2 137 "Festoon$Lantern" "left" "I", Cond.methodLink RX2 128 yX0_place, Cond.instanceMethod yX0_place, Cond.selects RX0 yX0_place yX0_place, Cond.code yX0_place cX0_place 1 (some .int), Cond.fieldLink RX0 34 "Festoon$Raft" "sort" "I", Cond.fieldLink RX0 39 "Festoon$Raft" "front" "I", Cond.methodLink RX2 131 yX2_isCrowded, Cond.instanceMethod yX2_isCrowded, Cond.selects RX2 yX2_isCrowded yX2_isCrowded, Cond.code yX2_isCrowded cX2_isCrowded 5 (some .boolean), Cond.methodLink RX2 233 yX2_isTooNear, Cond.instanceMethod yX2_isTooNear, Cond.selects RX2 yX2_isTooNear yX2_isTooNear, Cond.code yX2_isTooNear cX2_isTooNear 3 (some .boolean), Cond.fieldLink RX2 237 "Festoon$Lantern" "candle" "I", Cond.methodLink RX2 189 yX0_distanceTo, Cond.instanceMethod yX0_distanceTo, Cond.selects RX0 yX0_distanceTo yX0_distanceTo, Cond.code yX0_distanceTo cX0_distanceTo 3 (some .int), Cond.methodLink RX0 42 yX0_place, Cond.methodLink RL 101 yX3_light, Cond.instanceMethod yX3_light, Cond.selects RX3 yX3_light yX3_light]
def wsL_law0_r10 : List Cond := [Cond.code yX3_light cX3_light 4 (some .int), Cond.methodLink RX3 102 yX3_hasPlace, Cond.instanceMethod yX3_hasPlace, Cond.selects RX3 yX3_hasPlace yX3_hasPlace, Cond.code yX3_hasPlace cX3_hasPlace 2 (some .boolean), Cond.methodLink RX3 105 yX3_isNear, Cond.instanceMethod yX3_isNear, Cond.selects RX3 yX3_isNear yX3_isNear, Cond.code yX3_isNear cX3_isNear 5 (some .boolean), Cond.fieldLink RX3 99 "FestoonModel" "base" "I", Cond.methodLink RX3 95 yX3_distance, Cond.instanceMethod yX3_distance, Cond.selects RX3 yX3_distance yX3_distance, Cond.code yX3_distance cX3_distance 4 (some .int), Cond.methodLink RX3 92 yX3_place, Cond.instanceMethod yX3_place, Cond.selects RX3 yX3_place yX3_place, Cond.code yX3_place cX3_place 2 (some .int), Cond.methodLink RL 102 yL_putOut, Cond.static yL_putOut, Cond.codeWith yL_putOut cL_putOut 4 (some .int) [(0, 9, 12, 20), (0, 9, 15, 15)], Cond.methodLink RL 29 yX2_putOut, Cond.instanceMethod yX2_putOut, Cond.selects RX2 yX2_putOut yX2_putOut]
def wsL_law0_r11 : List Cond := [Cond.code yX2_putOut cX2_putOut 3 (some .int), Cond.methodLink RL 104 yX3_putOut, Cond.instanceMethod yX3_putOut, Cond.selects RX3 yX3_putOut yX3_putOut, Cond.code yX3_putOut cX3_putOut 3 (some .int), Cond.methodLink RL 105 yL_build, Cond.static yL_build, Cond.codeWith yL_build cL_build 5 (some .int) [(0, 10, 13, 13), (0, 10, 17, 15)], Cond.methodLink RL 32 yX2_build, Cond.instanceMethod yX2_build, Cond.selects RX2 yX2_build yX2_build, Cond.code yX2_build cX2_build 3 (some .int), Cond.instantiable RX1 7, Cond.methodLink RX2 146 yX1_init, Cond.instanceMethod yX1_init, Cond.code yX1_init cX1_init 4 none, Cond.methodLink RX1 3 objectInit, Cond.classLink RX1 9 RX0, Cond.fieldLink RX1 17 "Festoon$Raft" "sort" "I", Cond.fieldLink RX1 21 "Festoon$Raft" "front" "I", Cond.fieldLink RX1 24 "Festoon$Raft" "order" "I", Cond.fieldLink RX1 27 "Festoon$Raft" "number" "I", Cond.fieldLink RX1 30 "Festoon$Raft" "speed" "I", Cond.fieldLink RX1 33 "Festoon$Raft" "bears" "I"]
def wsL_law0_r12 : List Cond := [Cond.methodLink RL 108 yX3_build, Cond.instanceMethod yX3_build, Cond.selects RX3 yX3_build yX3_build, Cond.code yX3_build cX3_build 3 (some .int), Cond.methodLink RL 109 yL_launch, Cond.static yL_launch, Cond.codeWith yL_launch cL_launch 4 (some .int) [(0, 9, 12, 20), (0, 9, 15, 15)], Cond.methodLink RL 36 yX2_launch, Cond.instanceMethod yX2_launch, Cond.selects RX2 yX2_launch yX2_launch, Cond.code yX2_launch cX2_launch 3 (some .int), Cond.fieldLink RX2 153 "Festoon$Raft" "front" "I", Cond.fieldLink RX2 156 "Festoon$Raft" "order" "I", Cond.methodLink RX2 147 yX2_hasRoomToLaunch, Cond.instanceMethod yX2_hasRoomToLaunch, Cond.selects RX2 yX2_hasRoomToLaunch yX2_hasRoomToLaunch, Cond.code yX2_hasRoomToLaunch cX2_hasRoomToLaunch 6 (some .boolean), Cond.methodLink RX2 202 yX1_rear, Cond.instanceMethod yX1_rear, Cond.selects RX1 yX1_rear yX1_rear, Cond.code yX1_rear cX1_rear 1 (some .int), Cond.methodLink RX2 159 yX2_raftsOnRiver, Cond.instanceMethod yX2_raftsOnRiver, Cond.selects RX2 yX2_raftsOnRiver yX2_raftsOnRiver]
def wsL_law0_r13 : List Cond := [Cond.code yX2_raftsOnRiver cX2_raftsOnRiver 6 (some .int), Cond.methodLink RL 111 yX3_launch, Cond.instanceMethod yX3_launch, Cond.selects RX3 yX3_launch yX3_launch, Cond.code yX3_launch cX3_launch 5 (some .int), Cond.fieldLink RX3 108 "FestoonModel" "launched" "I", Cond.methodLink RX3 111 yX3_rearmost, Cond.instanceMethod yX3_rearmost, Cond.selects RX3 yX3_rearmost yX3_rearmost, Cond.code yX3_rearmost cX3_rearmost 3 (some .int), Cond.methodLink RX3 115 yX3_afloat, Cond.instanceMethod yX3_afloat, Cond.selects RX3 yX3_afloat yX3_afloat, Cond.code yX3_afloat cX3_afloat 3 (some .int), Cond.methodLink RL 112 yL_setRules, Cond.static yL_setRules, Cond.codeWith yL_setRules cL_setRules 5 (some .int) [(0, 10, 13, 13)], Cond.methodLink RL 39 yX2_setRules, Cond.instanceMethod yX2_setRules, Cond.selects RX2 yX2_setRules yX2_setRules, Cond.code yX2_setRules cX2_setRules 4 (some .int), Cond.methodLink RL 114 yX3_setRules, Cond.instanceMethod yX3_setRules, Cond.selects RX3 yX3_setRules yX3_setRules]
def wsL_law0_r14 : List Cond := [Cond.code yX3_setRules cX3_setRules 4 (some .int), Cond.methodLink RL 115 yL_setGust, Cond.static yL_setGust, Cond.codeWith yL_setGust cL_setGust 5 (some .int) [(0, 10, 13, 13)], Cond.methodLink RL 42 yX2_setGust, Cond.instanceMethod yX2_setGust, Cond.selects RX2 yX2_setGust yX2_setGust, Cond.code yX2_setGust cX2_setGust 4 (some .int), Cond.methodLink RL 117 yX3_setGust, Cond.instanceMethod yX3_setGust, Cond.selects RX3 yX3_setGust yX3_setGust, Cond.code yX3_setGust cX3_setGust 4 (some .int), Cond.methodLink RL 118 yL_pass, Cond.static yL_pass, Cond.codeWith yL_pass cL_pass 4 (some .int) [(0, 9, 12, 13)], Cond.methodLink RL 45 yX2_pass, Cond.instanceMethod yX2_pass, Cond.selects RX2 yX2_pass yX2_pass, Cond.code yX2_pass cX2_pass 4 (some .int), Cond.methodLink RX2 168 yX2_litLanterns, Cond.instanceMethod yX2_litLanterns, Cond.selects RX2 yX2_litLanterns yX2_litLanterns, Cond.code yX2_litLanterns cX2_litLanterns 6 (some .int), Cond.methodLink RX2 171 yX2_passOne]
def wsL_law0_r15 : List Cond := [Cond.instanceMethod yX2_passOne, Cond.selects RX2 yX2_passOne yX2_passOne, Cond.code yX2_passOne cX2_passOne 1 none, Cond.methodLink RX2 205 yX2_moveRafts, Cond.instanceMethod yX2_moveRafts, Cond.selects RX2 yX2_moveRafts yX2_moveRafts, Cond.code yX2_moveRafts cX2_moveRafts 6 none, Cond.methodLink RX2 220 yX1_moveBehind, Cond.instanceMethod yX1_moveBehind, Cond.selects RX1 yX1_moveBehind yX1_moveBehind, Cond.code yX1_moveBehind cX1_moveBehind 4 none, Cond.methodLink RX1 54 Lib.Math.min.name, Cond.static Lib.Math.min.name, Cond.initialized "java/lang/Math", Cond.code Lib.Math.min.name Lib.Math.min.code 2 (some .int), Cond.methodLink RX1 60 Lib.Math.max.name, Cond.static Lib.Math.max.name, Cond.code Lib.Math.max.name Lib.Math.max.code 2 (some .int), Cond.methodLink RX1 51 yX1_rear, Cond.methodLink RX2 208 yX2_letRaftsGo, Cond.instanceMethod yX2_letRaftsGo, Cond.selects RX2 yX2_letRaftsGo yX2_letRaftsGo, Cond.code yX2_letRaftsGo cX2_letRaftsGo 5 none, Cond.methodLink RX2 224 yX1_darkenAll]
def wsL_law0_r16 : List Cond := [Cond.instanceMethod yX1_darkenAll, Cond.selects RX1 yX1_darkenAll yX1_darkenAll, Cond.code yX1_darkenAll cX1_darkenAll 5 none, Cond.methodLink RX1 63 yX0_darken, Cond.methodLink RX2 211 yX2_blowGust, Cond.instanceMethod yX2_blowGust, Cond.selects RX2 yX2_blowGust yX2_blowGust, Cond.code yX2_blowGust cX2_blowGust 6 none, Cond.methodLink RX2 227 yX0_firmness, Cond.instanceMethod yX0_firmness, Cond.selects RX0 yX0_firmness yX0_firmness, Cond.code yX0_firmness cX0_firmness 1 (some .int), Cond.methodLink RX2 214 yX2_burnCandles, Cond.instanceMethod yX2_burnCandles, Cond.selects RX2 yX2_burnCandles yX2_burnCandles, Cond.code yX2_burnCandles cX2_burnCandles 5 none, Cond.methodLink RX2 230 yX0_burnOneMinute, Cond.instanceMethod yX0_burnOneMinute, Cond.selects RX0 yX0_burnOneMinute yX0_burnOneMinute, Cond.code yX0_burnOneMinute cX0_burnOneMinute 1 none, Cond.methodLink RX2 217 yX2_sendMarshal, Cond.instanceMethod yX2_sendMarshal, Cond.selects RX2 yX2_sendMarshal yX2_sendMarshal, Cond.code yX2_sendMarshal cX2_sendMarshal 3 none]
def wsL_law0_r17 : List Cond := [Cond.methodLink RL 120 yX3_pass, Cond.instanceMethod yX3_pass, Cond.selects RX3 yX3_pass yX3_pass, Cond.code yX3_pass cX3_pass 4 (some .int), Cond.fieldLink RX3 118 "FestoonModel" "time" "I", Cond.methodLink RX3 127 yX3_lit, Cond.instanceMethod yX3_lit, Cond.selects RX3 yX3_lit yX3_lit, Cond.code yX3_lit cX3_lit 3 (some .int), Cond.methodLink RX3 130 yX3_floatsMove, Cond.instanceMethod yX3_floatsMove, Cond.selects RX3 yX3_floatsMove yX3_floatsMove, Cond.code yX3_floatsMove cX3_floatsMove 6 none, Cond.methodLink RX3 133 yX3_burns, Cond.instanceMethod yX3_burns, Cond.selects RX3 yX3_burns yX3_burns, Cond.code yX3_burns cX3_burns 3 none, Cond.fieldLink RX3 121 "FestoonModel" "blown" "I", Cond.fieldLink RX3 124 "FestoonModel" "ordered" "I", Cond.methodLink RL 121 yX2_time, Cond.instanceMethod yX2_time, Cond.selects RX2 yX2_time yX2_time, Cond.code yX2_time cX2_time 1 (some .int), Cond.methodLink RL 124 yX3_time]
def wsL_law0_r18 : List Cond := [Cond.instanceMethod yX3_time, Cond.selects RX3 yX3_time yX3_time, Cond.code yX3_time cX3_time 1 (some .int), Cond.methodLink RL 125 yX2_lanterns, Cond.instanceMethod yX2_lanterns, Cond.selects RX2 yX2_lanterns yX2_lanterns, Cond.code yX2_lanterns cX2_lanterns 1 (some .int), Cond.methodLink RL 128 yX3_lanterns, Cond.instanceMethod yX3_lanterns, Cond.selects RX3 yX3_lanterns yX3_lanterns, Cond.code yX3_lanterns cX3_lanterns 1 (some .int), Cond.methodLink RL 129 yL_stateOf, Cond.static yL_stateOf, Cond.codeWith yL_stateOf cL_stateOf 4 (some .int) [(0, 9, 12, 20)], Cond.methodLink RL 48 yX2_stateOf, Cond.instanceMethod yX2_stateOf, Cond.selects RX2 yX2_stateOf yX2_stateOf, Cond.code yX2_stateOf cX2_stateOf 3 (some .int), Cond.methodLink RL 131 yX3_stateOf, Cond.instanceMethod yX3_stateOf, Cond.selects RX3 yX3_stateOf yX3_stateOf, Cond.code yX3_stateOf cX3_stateOf 2 (some .int), Cond.methodLink RL 132 yL_left, Cond.static yL_left]
def wsL_law0_r19 : List Cond := [Cond.codeWith yL_left cL_left 4 (some .int) [(0, 9, 12, 20)], Cond.methodLink RL 51 yX2_left, Cond.instanceMethod yX2_left, Cond.selects RX2 yX2_left yX2_left, Cond.code yX2_left cX2_left 3 (some .int), Cond.methodLink RL 134 yX3_left, Cond.instanceMethod yX3_left, Cond.selects RX3 yX3_left yX3_left, Cond.code yX3_left cX3_left 2 (some .int), Cond.methodLink RL 135 yL_placeOf, Cond.static yL_placeOf, Cond.codeWith yL_placeOf cL_placeOf 4 (some .int) [(0, 9, 12, 20)], Cond.methodLink RL 54 yX2_placeOf, Cond.instanceMethod yX2_placeOf, Cond.selects RX2 yX2_placeOf yX2_placeOf, Cond.code yX2_placeOf cX2_placeOf 3 (some .int), Cond.methodLink RL 137 yX3_placeOf, Cond.instanceMethod yX3_placeOf, Cond.selects RX3 yX3_placeOf yX3_placeOf, Cond.code yX3_placeOf cX3_placeOf 2 (some .int), Cond.methodLink RL 138 yL_nearest, Cond.static yL_nearest, Cond.codeWith yL_nearest cL_nearest 4 (some .int) [(0, 9, 12, 20)], Cond.methodLink RL 57 yX2_nearest]
def wsL_law0_r20 : List Cond := [Cond.instanceMethod yX2_nearest, Cond.selects RX2 yX2_nearest yX2_nearest, Cond.code yX2_nearest cX2_nearest 7 (some .int), Cond.methodLink RX2 174 yX1_nearestLit, Cond.instanceMethod yX1_nearestLit, Cond.selects RX1 yX1_nearestLit yX1_nearestLit, Cond.code yX1_nearestLit cX1_nearestLit 7 (some .int), Cond.fieldLink RX1 66 "Festoon$Lantern" "state" "I", Cond.methodLink RX1 69 yX0_distanceTo, Cond.static yX2_nearer, Cond.code yX2_nearer cX2_nearer 2 (some .int), Cond.methodLink RX2 245 Lib.Math.max.name, Cond.methodLink RX2 240 Lib.Math.min.name, Cond.methodLink RX2 178 yX2_nearestAhead, Cond.instanceMethod yX2_nearestAhead, Cond.selects RX2 yX2_nearestAhead yX2_nearestAhead, Cond.code yX2_nearestAhead cX2_nearestAhead 6 (some .int), Cond.methodLink RX2 182 yX2_nearestBehind, Cond.instanceMethod yX2_nearestBehind, Cond.selects RX2 yX2_nearestBehind yX2_nearestBehind, Cond.code yX2_nearestBehind cX2_nearestBehind 6 (some .int), Cond.methodLink RX2 185 yX2_nearer, Cond.methodLink RL 140 yX3_nearest, Cond.instanceMethod yX3_nearest]
def wsL_law0_r21 : List Cond := [Cond.selects RX3 yX3_nearest yX3_nearest, Cond.code yX3_nearest cX3_nearest 5 (some .int), Cond.methodLink RL 141 yL_nearestOfAll, Cond.static yL_nearestOfAll, Cond.codeWith yL_nearestOfAll cL_nearestOfAll 4 (some .int) [(0, 9, 12, 20)], Cond.methodLink RL 60 yX2_nearestOfAll, Cond.instanceMethod yX2_nearestOfAll, Cond.selects RX2 yX2_nearestOfAll yX2_nearestOfAll, Cond.code yX2_nearestOfAll cX2_nearestOfAll 8 (some .int), Cond.methodLink RL 143 yX3_nearestOfAll, Cond.instanceMethod yX3_nearestOfAll, Cond.selects RX3 yX3_nearestOfAll yX3_nearestOfAll, Cond.code yX3_nearestOfAll cX3_nearestOfAll 2 (some .int), Cond.methodLink RX3 136 yX3_nearest, Cond.methodLink RL 144 yX2_blownOut, Cond.instanceMethod yX2_blownOut, Cond.selects RX2 yX2_blownOut yX2_blownOut, Cond.code yX2_blownOut cX2_blownOut 1 (some .int), Cond.methodLink RL 147 yX3_blownOut, Cond.instanceMethod yX3_blownOut, Cond.selects RX3 yX3_blownOut yX3_blownOut, Cond.code yX3_blownOut cX3_blownOut 1 (some .int), Cond.methodLink RL 148 yX2_ordered, Cond.instanceMethod yX2_ordered]
def wsL_law0_r22 : List Cond := [Cond.selects RX2 yX2_ordered yX2_ordered, Cond.code yX2_ordered cX2_ordered 1 (some .int), Cond.methodLink RL 151 yX3_ordered, Cond.instanceMethod yX3_ordered, Cond.selects RX3 yX3_ordered yX3_ordered, Cond.code yX3_ordered cX3_ordered 1 (some .int), Cond.methodLink RL 152 yL_sortOf, Cond.static yL_sortOf, Cond.codeWith yL_sortOf cL_sortOf 4 (some .int) [(0, 9, 12, 20)], Cond.methodLink RL 63 yX2_sortOf, Cond.instanceMethod yX2_sortOf, Cond.selects RX2 yX2_sortOf yX2_sortOf, Cond.code yX2_sortOf cX2_sortOf 3 (some .int), Cond.methodLink RL 154 yX3_sortOf, Cond.instanceMethod yX3_sortOf, Cond.selects RX3 yX3_sortOf yX3_sortOf, Cond.code yX3_sortOf cX3_sortOf 2 (some .int), Cond.methodLink RL 155 yL_front, Cond.static yL_front, Cond.codeWith yL_front cL_front 4 (some .int) [(0, 9, 12, 20)], Cond.methodLink RL 66 yX2_front, Cond.instanceMethod yX2_front, Cond.selects RX2 yX2_front yX2_front, Cond.code yX2_front cX2_front 3 (some .int)]
def wsL_law0_r23 : List Cond := [Cond.methodLink RL 157 yX3_front, Cond.instanceMethod yX3_front, Cond.selects RX3 yX3_front yX3_front, Cond.code yX3_front cX3_front 2 (some .int), Cond.methodLink RL 158 yL_load, Cond.static yL_load, Cond.codeWith yL_load cL_load 4 (some .int) [(0, 9, 12, 20)], Cond.methodLink RL 69 yX2_load, Cond.instanceMethod yX2_load, Cond.selects RX2 yX2_load yX2_load, Cond.code yX2_load cX2_load 3 (some .int), Cond.methodLink RL 160 yX3_load, Cond.instanceMethod yX3_load, Cond.selects RX3 yX3_load yX3_load, Cond.code yX3_load cX3_load 2 (some .int), Cond.methodLink RL 161 yL_likeness, Cond.static yL_likeness, Cond.codeWith yL_likeness cL_likeness 5 (some .int) [(0, 10, 13, 20), (0, 10, 17, 13)], Cond.methodLink RL 72 yX2_likeness, Cond.instanceMethod yX2_likeness, Cond.selects RX2 yX2_likeness yX2_likeness, Cond.code yX2_likeness cX2_likeness 4 (some .int), Cond.methodLink RX2 194 yX1_alike, Cond.instanceMethod yX1_alike]
def wsL_law0_r24 : List Cond := [Cond.selects RX1 yX1_alike yX1_alike, Cond.code yX1_alike cX1_alike 7 (some .int), Cond.methodLink RL 163 yX3_likeness, Cond.instanceMethod yX3_likeness, Cond.selects RX3 yX3_likeness yX3_likeness, Cond.code yX3_likeness cX3_likeness 3 (some .int), Cond.methodLink RX3 139 yX3_alike, Cond.instanceMethod yX3_alike, Cond.selects RX3 yX3_alike yX3_alike, Cond.code yX3_alike cX3_alike 6 (some .int), Cond.methodLink RL 164 yL_prize, Cond.static yL_prize, Cond.codeWith yL_prize cL_prize 4 (some .int) [(0, 9, 12, 13)], Cond.methodLink RL 75 yX2_prize, Cond.instanceMethod yX2_prize, Cond.selects RX2 yX2_prize yX2_prize, Cond.code yX2_prize cX2_prize 8 (some .int), Cond.methodLink RL 166 yX3_prize, Cond.instanceMethod yX3_prize, Cond.selects RX3 yX3_prize yX3_prize, Cond.code yX3_prize cX3_prize 5 (some .int)]
def wsL_law0 : List Cond := (wsL_law0_r1 ++ (wsL_law0_r2 ++ (wsL_law0_r3 ++ (wsL_law0_r4 ++ (wsL_law0_r5 ++ (wsL_law0_r6 ++ (wsL_law0_r7 ++ (wsL_law0_r8 ++ (wsL_law0_r9 ++ (wsL_law0_r10 ++ (wsL_law0_r11 ++ (wsL_law0_r12 ++ (wsL_law0_r13 ++ (wsL_law0_r14 ++ (wsL_law0_r15 ++ (wsL_law0_r16 ++ (wsL_law0_r17 ++ (wsL_law0_r18 ++ (wsL_law0_r19 ++ (wsL_law0_r20 ++ (wsL_law0_r21 ++ (wsL_law0_r22 ++ (wsL_law0_r23 ++ wsL_law0_r24))))))))))))))))))))))) ++ wsX20 ++ wsX30 ++ wsX00 ++ wsX10 ++ ([] : List Cond)
def wsL_law : List Cond := wsL_law0 ++ (vx_atS RX2 61 "java/lang/IllegalArgumentException" ["java/lang/RuntimeException", "java/lang/Exception"]).filter goodWord ++ (vx_atS RX2 68 "java/lang/IllegalStateException" ["java/lang/RuntimeException", "java/lang/Exception"]).filter goodWord ++ (vx_atS RX2 84 "java/lang/IndexOutOfBoundsException" ["java/lang/RuntimeException", "java/lang/Exception"]).filter goodWord
theorem inJ9 : ∀ w ∈ wsJ90, w ∈ lw_tbl := by decide +kernel
theorem inJ0 : ∀ w ∈ wsJ00, w ∈ lw_tbl := by decide +kernel
theorem dX0_init_0 : decode cX0_init 0 = .ok (.aload_n 0, 1) := by decide +kernel
theorem dX0_init_1 : decode cX0_init 1 = .ok (.invokespecial 3, 3) := by decide +kernel
theorem dX0_init_4 : decode cX0_init 4 = .ok (.aload_n 0, 1) := by decide +kernel
theorem dX0_init_5 : decode cX0_init 5 = .ok (.iconst 0, 1) := by decide +kernel
theorem dX0_init_6 : decode cX0_init 6 = .ok (.putfield 9, 3) := by decide +kernel
theorem dX0_init_9 : decode cX0_init 9 = .ok (.aload_n 0, 1) := by decide +kernel
theorem dX0_init_10 : decode cX0_init 10 = .ok (.aconst_null, 1) := by decide +kernel
theorem dX0_init_11 : decode cX0_init 11 = .ok (.putfield 15, 3) := by decide +kernel
theorem dX0_init_14 : decode cX0_init 14 = .ok (.aload_n 0, 1) := by decide +kernel
theorem dX0_init_15 : decode cX0_init 15 = .ok (.iconst (-1), 1) := by decide +kernel
theorem dX0_init_16 : decode cX0_init 16 = .ok (.putfield 19, 3) := by decide +kernel
theorem dX0_init_19 : decode cX0_init 19 = .ok (.aload_n 0, 1) := by decide +kernel
theorem dX0_init_20 : decode cX0_init 20 = .ok (.iload_n 1, 1) := by decide +kernel
theorem dX0_init_21 : decode cX0_init 21 = .ok (.putfield 22, 3) := by decide +kernel
theorem dX0_init_24 : decode cX0_init 24 = .ok (.aload_n 0, 1) := by decide +kernel
theorem dX0_init_25 : decode cX0_init 25 = .ok (.iload_n 2, 1) := by decide +kernel
theorem dX0_init_26 : decode cX0_init 26 = .ok (.putfield 25, 3) := by decide +kernel
theorem dX0_init_29 : decode cX0_init 29 = .ok (.aload_n 0, 1) := by decide +kernel
theorem dX0_init_30 : decode cX0_init 30 = .ok (.iload_n 3, 1) := by decide +kernel
theorem dX0_init_31 : decode cX0_init 31 = .ok (.putfield 28, 3) := by decide +kernel
theorem dX0_init_34 : decode cX0_init 34 = .ok (.aload_n 0, 1) := by decide +kernel
theorem dX0_init_35 : decode cX0_init 35 = .ok (.bipush 20, 2) := by decide +kernel
theorem dX0_init_37 : decode cX0_init 37 = .ok (.iload_n 3, 1) := by decide +kernel
theorem dX0_init_38 : decode cX0_init 38 = .ok (.imul, 1) := by decide +kernel
theorem dX0_init_39 : decode cX0_init 39 = .ok (.putfield 31, 3) := by decide +kernel
theorem dX0_init_42 : decode cX0_init 42 = .ok (.return_, 1) := by decide +kernel
theorem dX0_weight_0 : decode cX0_weight 0 = .ok (.bipush 20, 2) := by decide +kernel
theorem dX0_weight_2 : decode cX0_weight 2 = .ok (.aload_n 0, 1) := by decide +kernel
theorem dX0_weight_3 : decode cX0_weight 3 = .ok (.getfield 22, 3) := by decide +kernel
theorem dX0_weight_6 : decode cX0_weight 6 = .ok (.imul, 1) := by decide +kernel
theorem dX0_weight_7 : decode cX0_weight 7 = .ok (.bipush 30, 2) := by decide +kernel
theorem dX0_weight_9 : decode cX0_weight 9 = .ok (.aload_n 0, 1) := by decide +kernel
theorem dX0_weight_10 : decode cX0_weight 10 = .ok (.getfield 25, 3) := by decide +kernel
theorem dX0_weight_13 : decode cX0_weight 13 = .ok (.imul, 1) := by decide +kernel
theorem dX0_weight_14 : decode cX0_weight 14 = .ok (.iadd, 1) := by decide +kernel
theorem dX0_weight_15 : decode cX0_weight 15 = .ok (.bipush 50, 2) := by decide +kernel
theorem dX0_weight_17 : decode cX0_weight 17 = .ok (.aload_n 0, 1) := by decide +kernel
theorem dX0_weight_18 : decode cX0_weight 18 = .ok (.getfield 28, 3) := by decide +kernel
theorem dX0_weight_21 : decode cX0_weight 21 = .ok (.imul, 1) := by decide +kernel
theorem dX0_weight_22 : decode cX0_weight 22 = .ok (.iadd, 1) := by decide +kernel
theorem dX0_weight_23 : decode cX0_weight 23 = .ok (.ireturn, 1) := by decide +kernel
theorem dX0_firmness_0 : decode cX0_firmness 0 = .ok (.aload_n 0, 1) := by decide +kernel
theorem dX0_firmness_1 : decode cX0_firmness 1 = .ok (.getfield 25, 3) := by decide +kernel
theorem dX0_firmness_4 : decode cX0_firmness 4 = .ok (.aload_n 0, 1) := by decide +kernel
theorem dX0_firmness_5 : decode cX0_firmness 5 = .ok (.getfield 22, 3) := by decide +kernel
theorem dX0_firmness_8 : decode cX0_firmness 8 = .ok (.iconst 3, 1) := by decide +kernel
theorem dX0_firmness_9 : decode cX0_firmness 9 = .ok (.idiv, 1) := by decide +kernel
theorem dX0_firmness_10 : decode cX0_firmness 10 = .ok (.iadd, 1) := by decide +kernel
theorem dX0_firmness_11 : decode cX0_firmness 11 = .ok (.ireturn, 1) := by decide +kernel
theorem dX0_place_0 : decode cX0_place 0 = .ok (.aload_n 0, 1) := by decide +kernel
theorem dX0_place_1 : decode cX0_place 1 = .ok (.getfield 15, 3) := by decide +kernel
theorem dX0_place_4 : decode cX0_place 4 = .ok (.ifnull 14, 3) := by decide +kernel
theorem dX0_place_7 : decode cX0_place 7 = .ok (.aload_n 0, 1) := by decide +kernel
theorem dX0_place_8 : decode cX0_place 8 = .ok (.getfield 15, 3) := by decide +kernel
theorem dX0_place_11 : decode cX0_place 11 = .ok (.getfield 34, 3) := by decide +kernel
theorem dX0_place_14 : decode cX0_place 14 = .ok (.iconst 1, 1) := by decide +kernel
theorem dX0_place_15 : decode cX0_place 15 = .ok (.if_icmp .eq 7, 3) := by decide +kernel
theorem dX0_place_18 : decode cX0_place 18 = .ok (.iconst (-1), 1) := by decide +kernel
theorem dX0_place_19 : decode cX0_place 19 = .ok (.goto 15, 3) := by decide +kernel
theorem dX0_place_22 : decode cX0_place 22 = .ok (.aload_n 0, 1) := by decide +kernel
theorem dX0_place_23 : decode cX0_place 23 = .ok (.getfield 15, 3) := by decide +kernel
theorem dX0_place_26 : decode cX0_place 26 = .ok (.getfield 39, 3) := by decide +kernel
theorem dX0_place_29 : decode cX0_place 29 = .ok (.aload_n 0, 1) := by decide +kernel
theorem dX0_place_30 : decode cX0_place 30 = .ok (.getfield 19, 3) := by decide +kernel
theorem dX0_place_33 : decode cX0_place 33 = .ok (.isub, 1) := by decide +kernel
theorem dX0_place_34 : decode cX0_place 34 = .ok (.ireturn, 1) := by decide +kernel
set_option maxRecDepth 20000 in
theorem ggX0_distanceTo_X0_place : GoodIn wsX0_distanceTo wsX0_place := goodIn_r _ [5, 6, 7, 8, 9, 10, 11, 12, 13, 14, 15, 16, 17, 18, 19, 20, 21, 22, 23] (by decide +kernel) (by decide +kernel)
set_option maxRecDepth 20000 in
theorem gX0_distanceTo_X0_place : GoodIn wsX0_distanceTo (wsV RX0 42 RX0 yX0_place wsX0_place) := goodIn_app (goodIn_of _ (by decide +kernel)) ggX0_distanceTo_X0_place
theorem dX0_distanceTo_0 : decode cX0_distanceTo 0 = .ok (.aload_n 0, 1) := by decide +kernel
theorem dX0_distanceTo_1 : decode cX0_distanceTo 1 = .ok (.invokevirtual 42, 3) := by decide +kernel
theorem dX0_distanceTo_4 : decode cX0_distanceTo 4 = .ok (.aload_n 1, 1) := by decide +kernel
theorem dX0_distanceTo_5 : decode cX0_distanceTo 5 = .ok (.invokevirtual 42, 3) := by decide +kernel
theorem dX0_distanceTo_8 : decode cX0_distanceTo 8 = .ok (.isub, 1) := by decide +kernel
theorem dX0_distanceTo_9 : decode cX0_distanceTo 9 = .ok (.istore_n 2, 1) := by decide +kernel
theorem dX0_distanceTo_10 : decode cX0_distanceTo 10 = .ok (.iload_n 2, 1) := by decide +kernel
theorem dX0_distanceTo_11 : decode cX0_distanceTo 11 = .ok (.ifCond .ge 8, 3) := by decide +kernel
theorem dX0_distanceTo_14 : decode cX0_distanceTo 14 = .ok (.iload_n 2, 1) := by decide +kernel
theorem dX0_distanceTo_15 : decode cX0_distanceTo 15 = .ok (.ineg, 1) := by decide +kernel
theorem dX0_distanceTo_16 : decode cX0_distanceTo 16 = .ok (.goto 4, 3) := by decide +kernel
theorem dX0_distanceTo_19 : decode cX0_distanceTo 19 = .ok (.iload_n 2, 1) := by decide +kernel
theorem dX0_distanceTo_20 : decode cX0_distanceTo 20 = .ok (.ireturn, 1) := by decide +kernel
theorem dX0_darken_0 : decode cX0_darken 0 = .ok (.aload_n 0, 1) := by decide +kernel
theorem dX0_darken_1 : decode cX0_darken 1 = .ok (.getfield 9, 3) := by decide +kernel
theorem dX0_darken_4 : decode cX0_darken 4 = .ok (.iconst 1, 1) := by decide +kernel
theorem dX0_darken_5 : decode cX0_darken 5 = .ok (.if_icmp .ne 8, 3) := by decide +kernel
theorem dX0_darken_8 : decode cX0_darken 8 = .ok (.aload_n 0, 1) := by decide +kernel
theorem dX0_darken_9 : decode cX0_darken 9 = .ok (.iconst 0, 1) := by decide +kernel
theorem dX0_darken_10 : decode cX0_darken 10 = .ok (.putfield 9, 3) := by decide +kernel
theorem dX0_darken_13 : decode cX0_darken 13 = .ok (.return_, 1) := by decide +kernel
theorem dX0_burnOneMinute_0 : decode cX0_burnOneMinute 0 = .ok (.aload_n 0, 1) := by decide +kernel
theorem dX0_burnOneMinute_1 : decode cX0_burnOneMinute 1 = .ok (.dup, 1) := by decide +kernel
theorem dX0_burnOneMinute_2 : decode cX0_burnOneMinute 2 = .ok (.getfield 31, 3) := by decide +kernel
theorem dX0_burnOneMinute_5 : decode cX0_burnOneMinute 5 = .ok (.iconst 1, 1) := by decide +kernel
theorem dX0_burnOneMinute_6 : decode cX0_burnOneMinute 6 = .ok (.isub, 1) := by decide +kernel
theorem dX0_burnOneMinute_7 : decode cX0_burnOneMinute 7 = .ok (.putfield 31, 3) := by decide +kernel
theorem dX0_burnOneMinute_10 : decode cX0_burnOneMinute 10 = .ok (.aload_n 0, 1) := by decide +kernel
theorem dX0_burnOneMinute_11 : decode cX0_burnOneMinute 11 = .ok (.getfield 31, 3) := by decide +kernel
theorem dX0_burnOneMinute_14 : decode cX0_burnOneMinute 14 = .ok (.ifCond .gt 8, 3) := by decide +kernel
theorem dX0_burnOneMinute_17 : decode cX0_burnOneMinute 17 = .ok (.aload_n 0, 1) := by decide +kernel
theorem dX0_burnOneMinute_18 : decode cX0_burnOneMinute 18 = .ok (.iconst 2, 1) := by decide +kernel
theorem dX0_burnOneMinute_19 : decode cX0_burnOneMinute 19 = .ok (.putfield 9, 3) := by decide +kernel
theorem dX0_burnOneMinute_22 : decode cX0_burnOneMinute 22 = .ok (.return_, 1) := by decide +kernel
theorem dX1_init_0 : decode cX1_init 0 = .ok (.aload_n 0, 1) := by decide +kernel
theorem dX1_init_1 : decode cX1_init 1 = .ok (.invokespecial 3, 3) := by decide +kernel
theorem dX1_init_4 : decode cX1_init 4 = .ok (.aload_n 0, 1) := by decide +kernel
theorem dX1_init_5 : decode cX1_init 5 = .ok (.bipush 10, 2) := by decide +kernel
theorem dX1_init_7 : decode cX1_init 7 = .ok (.anewarray 9, 3) := by decide +kernel
theorem dX1_init_10 : decode cX1_init 10 = .ok (.putfield 11, 3) := by decide +kernel
theorem dX1_init_13 : decode cX1_init 13 = .ok (.aload_n 0, 1) := by decide +kernel
theorem dX1_init_14 : decode cX1_init 14 = .ok (.iconst 0, 1) := by decide +kernel
theorem dX1_init_15 : decode cX1_init 15 = .ok (.putfield 17, 3) := by decide +kernel
theorem dX1_init_18 : decode cX1_init 18 = .ok (.aload_n 0, 1) := by decide +kernel
theorem dX1_init_19 : decode cX1_init 19 = .ok (.iconst (-1), 1) := by decide +kernel
theorem dX1_init_20 : decode cX1_init 20 = .ok (.putfield 21, 3) := by decide +kernel
theorem dX1_init_23 : decode cX1_init 23 = .ok (.aload_n 0, 1) := by decide +kernel
theorem dX1_init_24 : decode cX1_init 24 = .ok (.iconst (-1), 1) := by decide +kernel
theorem dX1_init_25 : decode cX1_init 25 = .ok (.putfield 24, 3) := by decide +kernel
theorem dX1_init_28 : decode cX1_init 28 = .ok (.aload_n 0, 1) := by decide +kernel
theorem dX1_init_29 : decode cX1_init 29 = .ok (.iload_n 1, 1) := by decide +kernel
theorem dX1_init_30 : decode cX1_init 30 = .ok (.putfield 27, 3) := by decide +kernel
theorem dX1_init_33 : decode cX1_init 33 = .ok (.aload_n 0, 1) := by decide +kernel
theorem dX1_init_34 : decode cX1_init 34 = .ok (.iload_n 2, 1) := by decide +kernel
theorem dX1_init_35 : decode cX1_init 35 = .ok (.putfield 30, 3) := by decide +kernel
theorem dX1_init_38 : decode cX1_init 38 = .ok (.aload_n 0, 1) := by decide +kernel
theorem dX1_init_39 : decode cX1_init 39 = .ok (.iload_n 3, 1) := by decide +kernel
theorem dX1_init_40 : decode cX1_init 40 = .ok (.putfield 33, 3) := by decide +kernel
theorem dX1_init_43 : decode cX1_init 43 = .ok (.return_, 1) := by decide +kernel
theorem dX1_rear_0 : decode cX1_rear 0 = .ok (.aload_n 0, 1) := by decide +kernel
theorem dX1_rear_1 : decode cX1_rear 1 = .ok (.getfield 21, 3) := by decide +kernel
theorem dX1_rear_4 : decode cX1_rear 4 = .ok (.bipush 9, 2) := by decide +kernel
theorem dX1_rear_6 : decode cX1_rear 6 = .ok (.isub, 1) := by decide +kernel
theorem dX1_rear_7 : decode cX1_rear 7 = .ok (.ireturn, 1) := by decide +kernel
set_option maxRecDepth 20000 in
theorem ggX1_lanternIn_X2_within : GoodIn wsX1_lanternIn wsX2_within := goodIn_r _ [4] (by decide +kernel) (by decide +kernel)
set_option maxRecDepth 20000 in
theorem gX1_lanternIn_X2_within_n36 : GoodIn wsX1_lanternIn (wsX2_within) := ggX1_lanternIn_X2_within
theorem dX1_lanternIn_0 : decode cX1_lanternIn 0 = .ok (.iload_n 1, 1) := by decide +kernel
theorem dX1_lanternIn_1 : decode cX1_lanternIn 1 = .ok (.iconst 0, 1) := by decide +kernel
theorem dX1_lanternIn_2 : decode cX1_lanternIn 2 = .ok (.aload_n 0, 1) := by decide +kernel
theorem dX1_lanternIn_3 : decode cX1_lanternIn 3 = .ok (.getfield 11, 3) := by decide +kernel
theorem dX1_lanternIn_6 : decode cX1_lanternIn 6 = .ok (.arraylength, 1) := by decide +kernel
theorem dX1_lanternIn_7 : decode cX1_lanternIn 7 = .ok (.iconst 1, 1) := by decide +kernel
theorem dX1_lanternIn_8 : decode cX1_lanternIn 8 = .ok (.isub, 1) := by decide +kernel
theorem dX1_lanternIn_9 : decode cX1_lanternIn 9 = .ok (.invokestatic 36, 3) := by decide +kernel
theorem dX1_lanternIn_12 : decode cX1_lanternIn 12 = .ok (.ifCond .eq 12, 3) := by decide +kernel
theorem dX1_lanternIn_15 : decode cX1_lanternIn 15 = .ok (.aload_n 0, 1) := by decide +kernel
theorem dX1_lanternIn_16 : decode cX1_lanternIn 16 = .ok (.getfield 11, 3) := by decide +kernel
theorem dX1_lanternIn_19 : decode cX1_lanternIn 19 = .ok (.iload_n 1, 1) := by decide +kernel
theorem dX1_lanternIn_20 : decode cX1_lanternIn 20 = .ok (.aaload, 1) := by decide +kernel
theorem dX1_lanternIn_21 : decode cX1_lanternIn 21 = .ok (.goto 4, 3) := by decide +kernel
theorem dX1_lanternIn_24 : decode cX1_lanternIn 24 = .ok (.aconst_null, 1) := by decide +kernel
theorem dX1_lanternIn_25 : decode cX1_lanternIn 25 = .ok (.areturn, 1) := by decide +kernel
set_option maxRecDepth 20000 in
theorem ggX1_put_X2_within : GoodIn wsX1_put wsX2_within := goodIn_r _ [6] (by decide +kernel) (by decide +kernel)
set_option maxRecDepth 20000 in
theorem gX1_put_X2_within_n36 : GoodIn wsX1_put (wsX2_within) := ggX1_put_X2_within
theorem dX1_put_0 : decode cX1_put 0 = .ok (.iload_n 2, 1) := by decide +kernel
theorem dX1_put_1 : decode cX1_put 1 = .ok (.iconst 0, 1) := by decide +kernel
theorem dX1_put_2 : decode cX1_put 2 = .ok (.aload_n 0, 1) := by decide +kernel
theorem dX1_put_3 : decode cX1_put 3 = .ok (.getfield 11, 3) := by decide +kernel
theorem dX1_put_6 : decode cX1_put 6 = .ok (.arraylength, 1) := by decide +kernel
theorem dX1_put_7 : decode cX1_put 7 = .ok (.iconst 1, 1) := by decide +kernel
theorem dX1_put_8 : decode cX1_put 8 = .ok (.isub, 1) := by decide +kernel
theorem dX1_put_9 : decode cX1_put 9 = .ok (.invokestatic 36, 3) := by decide +kernel
theorem dX1_put_12 : decode cX1_put 12 = .ok (.ifCond .eq 20, 3) := by decide +kernel
theorem dX1_put_15 : decode cX1_put 15 = .ok (.aload_n 0, 1) := by decide +kernel
theorem dX1_put_16 : decode cX1_put 16 = .ok (.getfield 11, 3) := by decide +kernel
theorem dX1_put_19 : decode cX1_put 19 = .ok (.iload_n 2, 1) := by decide +kernel
theorem dX1_put_20 : decode cX1_put 20 = .ok (.aload_n 1, 1) := by decide +kernel
theorem dX1_put_21 : decode cX1_put 21 = .ok (.aastore, 1) := by decide +kernel
theorem dX1_put_22 : decode cX1_put 22 = .ok (.aload_n 1, 1) := by decide +kernel
theorem dX1_put_23 : decode cX1_put 23 = .ok (.aload_n 0, 1) := by decide +kernel
theorem dX1_put_24 : decode cX1_put 24 = .ok (.putfield 40, 3) := by decide +kernel
theorem dX1_put_27 : decode cX1_put 27 = .ok (.aload_n 1, 1) := by decide +kernel
theorem dX1_put_28 : decode cX1_put 28 = .ok (.iload_n 2, 1) := by decide +kernel
theorem dX1_put_29 : decode cX1_put 29 = .ok (.putfield 44, 3) := by decide +kernel
theorem dX1_put_32 : decode cX1_put 32 = .ok (.return_, 1) := by decide +kernel
theorem dX1_free_0 : decode cX1_free 0 = .ok (.iconst 0, 1) := by decide +kernel
theorem dX1_free_1 : decode cX1_free 1 = .ok (.istore_n 2, 1) := by decide +kernel
theorem dX1_free_2 : decode cX1_free 2 = .ok (.iload_n 2, 1) := by decide +kernel
theorem dX1_free_3 : decode cX1_free 3 = .ok (.aload_n 0, 1) := by decide +kernel
theorem dX1_free_4 : decode cX1_free 4 = .ok (.getfield 11, 3) := by decide +kernel
theorem dX1_free_7 : decode cX1_free 7 = .ok (.arraylength, 1) := by decide +kernel
theorem dX1_free_8 : decode cX1_free 8 = .ok (.if_icmp .ge 26, 3) := by decide +kernel
theorem dX1_free_11 : decode cX1_free 11 = .ok (.aload_n 0, 1) := by decide +kernel
theorem dX1_free_12 : decode cX1_free 12 = .ok (.getfield 11, 3) := by decide +kernel
theorem dX1_free_15 : decode cX1_free 15 = .ok (.iload_n 2, 1) := by decide +kernel
theorem dX1_free_16 : decode cX1_free 16 = .ok (.aaload, 1) := by decide +kernel
theorem dX1_free_17 : decode cX1_free 17 = .ok (.aload_n 1, 1) := by decide +kernel
theorem dX1_free_18 : decode cX1_free 18 = .ok (.if_acmp .ne 10, 3) := by decide +kernel
theorem dX1_free_21 : decode cX1_free 21 = .ok (.aload_n 0, 1) := by decide +kernel
theorem dX1_free_22 : decode cX1_free 22 = .ok (.getfield 11, 3) := by decide +kernel
theorem dX1_free_25 : decode cX1_free 25 = .ok (.iload_n 2, 1) := by decide +kernel
theorem dX1_free_26 : decode cX1_free 26 = .ok (.aconst_null, 1) := by decide +kernel
theorem dX1_free_27 : decode cX1_free 27 = .ok (.aastore, 1) := by decide +kernel
theorem dX1_free_28 : decode cX1_free 28 = .ok (.iinc 2 1, 3) := by decide +kernel
theorem dX1_free_31 : decode cX1_free 31 = .ok (.goto (-29), 3) := by decide +kernel
theorem dX1_free_34 : decode cX1_free 34 = .ok (.aload_n 1, 1) := by decide +kernel
theorem dX1_free_35 : decode cX1_free 35 = .ok (.aconst_null, 1) := by decide +kernel
theorem dX1_free_36 : decode cX1_free 36 = .ok (.putfield 40, 3) := by decide +kernel
theorem dX1_free_39 : decode cX1_free 39 = .ok (.aload_n 1, 1) := by decide +kernel
theorem dX1_free_40 : decode cX1_free 40 = .ok (.iconst (-1), 1) := by decide +kernel
theorem dX1_free_41 : decode cX1_free 41 = .ok (.putfield 44, 3) := by decide +kernel
theorem dX1_free_44 : decode cX1_free 44 = .ok (.return_, 1) := by decide +kernel
set_option maxRecDepth 20000 in
theorem ggX1_weight_X0_weight : GoodIn wsX1_weight wsX0_weight := goodIn_r _ [6, 7, 8, 9, 17, 18, 19, 20, 21, 22, 23] (by decide +kernel) (by decide +kernel)
set_option maxRecDepth 20000 in
theorem gX1_weight_X0_weight : GoodIn wsX1_weight (wsV RX1 47 RX0 yX0_weight wsX0_weight) := goodIn_app (goodIn_of _ (by decide +kernel)) ggX1_weight_X0_weight
theorem dX1_weight_0 : decode cX1_weight 0 = .ok (.iconst 0, 1) := by decide +kernel
theorem dX1_weight_1 : decode cX1_weight 1 = .ok (.istore_n 1, 1) := by decide +kernel
theorem dX1_weight_2 : decode cX1_weight 2 = .ok (.aload_n 0, 1) := by decide +kernel
theorem dX1_weight_3 : decode cX1_weight 3 = .ok (.getfield 11, 3) := by decide +kernel
theorem dX1_weight_6 : decode cX1_weight 6 = .ok (.astore_n 2, 1) := by decide +kernel
theorem dX1_weight_7 : decode cX1_weight 7 = .ok (.aload_n 2, 1) := by decide +kernel
theorem dX1_weight_8 : decode cX1_weight 8 = .ok (.arraylength, 1) := by decide +kernel
theorem dX1_weight_9 : decode cX1_weight 9 = .ok (.istore_n 3, 1) := by decide +kernel
theorem dX1_weight_10 : decode cX1_weight 10 = .ok (.iconst 0, 1) := by decide +kernel
theorem dX1_weight_11 : decode cX1_weight 11 = .ok (.istore 4, 2) := by decide +kernel
theorem dX1_weight_13 : decode cX1_weight 13 = .ok (.iload 4, 2) := by decide +kernel
theorem dX1_weight_15 : decode cX1_weight 15 = .ok (.iload_n 3, 1) := by decide +kernel
theorem dX1_weight_16 : decode cX1_weight 16 = .ok (.if_icmp .ge 28, 3) := by decide +kernel
theorem dX1_weight_19 : decode cX1_weight 19 = .ok (.aload_n 2, 1) := by decide +kernel
theorem dX1_weight_20 : decode cX1_weight 20 = .ok (.iload 4, 2) := by decide +kernel
theorem dX1_weight_22 : decode cX1_weight 22 = .ok (.aaload, 1) := by decide +kernel
theorem dX1_weight_23 : decode cX1_weight 23 = .ok (.astore 5, 2) := by decide +kernel
theorem dX1_weight_25 : decode cX1_weight 25 = .ok (.aload 5, 2) := by decide +kernel
theorem dX1_weight_27 : decode cX1_weight 27 = .ok (.ifnull 11, 3) := by decide +kernel
theorem dX1_weight_30 : decode cX1_weight 30 = .ok (.iload_n 1, 1) := by decide +kernel
theorem dX1_weight_31 : decode cX1_weight 31 = .ok (.aload 5, 2) := by decide +kernel
theorem dX1_weight_33 : decode cX1_weight 33 = .ok (.invokevirtual 47, 3) := by decide +kernel
theorem dX1_weight_36 : decode cX1_weight 36 = .ok (.iadd, 1) := by decide +kernel
theorem dX1_weight_37 : decode cX1_weight 37 = .ok (.istore_n 1, 1) := by decide +kernel
theorem dX1_weight_38 : decode cX1_weight 38 = .ok (.iinc 4 1, 3) := by decide +kernel
theorem dX1_weight_41 : decode cX1_weight 41 = .ok (.goto (-28), 3) := by decide +kernel
theorem dX1_weight_44 : decode cX1_weight 44 = .ok (.iload_n 1, 1) := by decide +kernel
theorem dX1_weight_45 : decode cX1_weight 45 = .ok (.ireturn, 1) := by decide +kernel
set_option maxRecDepth 20000 in
theorem ggX1_moveBehind_X1_rear : GoodIn wsX1_moveBehind wsX1_rear := goodIn_r _ [14, 1, 15, 16, 17, 18, 19, 20, 21] (by decide +kernel) (by decide +kernel)
set_option maxRecDepth 20000 in
theorem gX1_moveBehind_X1_rear : GoodIn wsX1_moveBehind (wsV RX1 51 RX1 yX1_rear wsX1_rear) := goodIn_app (goodIn_of _ (by decide +kernel)) ggX1_moveBehind_X1_rear
theorem dX1_moveBehind_0 : decode cX1_moveBehind 0 = .ok (.aload_n 0, 1) := by decide +kernel
theorem dX1_moveBehind_1 : decode cX1_moveBehind 1 = .ok (.getfield 21, 3) := by decide +kernel
theorem dX1_moveBehind_4 : decode cX1_moveBehind 4 = .ok (.aload_n 0, 1) := by decide +kernel
theorem dX1_moveBehind_5 : decode cX1_moveBehind 5 = .ok (.getfield 30, 3) := by decide +kernel
theorem dX1_moveBehind_8 : decode cX1_moveBehind 8 = .ok (.iadd, 1) := by decide +kernel
theorem dX1_moveBehind_9 : decode cX1_moveBehind 9 = .ok (.istore_n 3, 1) := by decide +kernel
theorem dX1_moveBehind_10 : decode cX1_moveBehind 10 = .ok (.aload_n 1, 1) := by decide +kernel
theorem dX1_moveBehind_11 : decode cX1_moveBehind 11 = .ok (.ifnull 14, 3) := by decide +kernel
theorem dX1_moveBehind_14 : decode cX1_moveBehind 14 = .ok (.iload_n 3, 1) := by decide +kernel
theorem dX1_moveBehind_15 : decode cX1_moveBehind 15 = .ok (.aload_n 1, 1) := by decide +kernel
theorem dX1_moveBehind_16 : decode cX1_moveBehind 16 = .ok (.invokevirtual 51, 3) := by decide +kernel
theorem dX1_moveBehind_19 : decode cX1_moveBehind 19 = .ok (.iload_n 2, 1) := by decide +kernel
theorem dX1_moveBehind_20 : decode cX1_moveBehind 20 = .ok (.isub, 1) := by decide +kernel
theorem dX1_moveBehind_21 : decode cX1_moveBehind 21 = .ok (.invokestatic 54, 3) := by decide +kernel
theorem dX1_moveBehind_24 : decode cX1_moveBehind 24 = .ok (.istore_n 3, 1) := by decide +kernel
theorem dX1_moveBehind_25 : decode cX1_moveBehind 25 = .ok (.aload_n 0, 1) := by decide +kernel
theorem dX1_moveBehind_26 : decode cX1_moveBehind 26 = .ok (.aload_n 0, 1) := by decide +kernel
theorem dX1_moveBehind_27 : decode cX1_moveBehind 27 = .ok (.getfield 21, 3) := by decide +kernel
theorem dX1_moveBehind_30 : decode cX1_moveBehind 30 = .ok (.iload_n 3, 1) := by decide +kernel
theorem dX1_moveBehind_31 : decode cX1_moveBehind 31 = .ok (.invokestatic 60, 3) := by decide +kernel
theorem dX1_moveBehind_34 : decode cX1_moveBehind 34 = .ok (.putfield 21, 3) := by decide +kernel
theorem dX1_moveBehind_37 : decode cX1_moveBehind 37 = .ok (.return_, 1) := by decide +kernel
set_option maxRecDepth 20000 in
theorem ggX1_darkenAll_X0_darken : GoodIn wsX1_darkenAll wsX0_darken := goodIn_r _ [6, 7, 15, 16, 17, 18, 19, 20, 21] (by decide +kernel) (by decide +kernel)
set_option maxRecDepth 20000 in
theorem gX1_darkenAll_X0_darken : GoodIn wsX1_darkenAll (wsV RX1 63 RX0 yX0_darken wsX0_darken) := goodIn_app (goodIn_of _ (by decide +kernel)) ggX1_darkenAll_X0_darken
theorem dX1_darkenAll_0 : decode cX1_darkenAll 0 = .ok (.aload_n 0, 1) := by decide +kernel
theorem dX1_darkenAll_1 : decode cX1_darkenAll 1 = .ok (.getfield 11, 3) := by decide +kernel
theorem dX1_darkenAll_4 : decode cX1_darkenAll 4 = .ok (.astore_n 1, 1) := by decide +kernel
theorem dX1_darkenAll_5 : decode cX1_darkenAll 5 = .ok (.aload_n 1, 1) := by decide +kernel
theorem dX1_darkenAll_6 : decode cX1_darkenAll 6 = .ok (.arraylength, 1) := by decide +kernel
theorem dX1_darkenAll_7 : decode cX1_darkenAll 7 = .ok (.istore_n 2, 1) := by decide +kernel
theorem dX1_darkenAll_8 : decode cX1_darkenAll 8 = .ok (.iconst 0, 1) := by decide +kernel
theorem dX1_darkenAll_9 : decode cX1_darkenAll 9 = .ok (.istore_n 3, 1) := by decide +kernel
theorem dX1_darkenAll_10 : decode cX1_darkenAll 10 = .ok (.iload_n 3, 1) := by decide +kernel
theorem dX1_darkenAll_11 : decode cX1_darkenAll 11 = .ok (.iload_n 2, 1) := by decide +kernel
theorem dX1_darkenAll_12 : decode cX1_darkenAll 12 = .ok (.if_icmp .ge 24, 3) := by decide +kernel
theorem dX1_darkenAll_15 : decode cX1_darkenAll 15 = .ok (.aload_n 1, 1) := by decide +kernel
theorem dX1_darkenAll_16 : decode cX1_darkenAll 16 = .ok (.iload_n 3, 1) := by decide +kernel
theorem dX1_darkenAll_17 : decode cX1_darkenAll 17 = .ok (.aaload, 1) := by decide +kernel
theorem dX1_darkenAll_18 : decode cX1_darkenAll 18 = .ok (.astore 4, 2) := by decide +kernel
theorem dX1_darkenAll_20 : decode cX1_darkenAll 20 = .ok (.aload 4, 2) := by decide +kernel
theorem dX1_darkenAll_22 : decode cX1_darkenAll 22 = .ok (.ifnull 8, 3) := by decide +kernel
theorem dX1_darkenAll_25 : decode cX1_darkenAll 25 = .ok (.aload 4, 2) := by decide +kernel
theorem dX1_darkenAll_27 : decode cX1_darkenAll 27 = .ok (.invokevirtual 63, 3) := by decide +kernel
theorem dX1_darkenAll_30 : decode cX1_darkenAll 30 = .ok (.iinc 3 1, 3) := by decide +kernel
theorem dX1_darkenAll_33 : decode cX1_darkenAll 33 = .ok (.goto (-23), 3) := by decide +kernel
theorem dX1_darkenAll_36 : decode cX1_darkenAll 36 = .ok (.return_, 1) := by decide +kernel
set_option maxRecDepth 20000 in
theorem ggX1_nearestLit_X0_distanceTo : GoodIn wsX1_nearestLit wsX0_distanceTo := goodIn_r _ [7, 8, 9, 10, 6, 11, 12, 13, 14, 15, 33, 34, 35, 36, 37, 38, 39, 26, 27, 28, 29, 30, 31, 32] (by decide +kernel) (by decide +kernel)
set_option maxRecDepth 20000 in
theorem gX1_nearestLit_X0_distanceTo : GoodIn wsX1_nearestLit (wsV RX1 69 RX0 yX0_distanceTo wsX0_distanceTo) := goodIn_app (goodIn_of _ (by decide +kernel)) ggX1_nearestLit_X0_distanceTo
set_option maxRecDepth 20000 in
theorem ggX1_nearestLit_X2_nearer : GoodIn wsX1_nearestLit wsX2_nearer := goodIn_r _ [18, 19, 20, 21, 22, 23, 24, 25] (by decide +kernel) (by decide +kernel)
set_option maxRecDepth 20000 in
theorem gX1_nearestLit_X2_nearer_n73 : GoodIn wsX1_nearestLit (wsX2_nearer) := ggX1_nearestLit_X2_nearer
theorem dX1_nearestLit_0 : decode cX1_nearestLit 0 = .ok (.iconst (-1), 1) := by decide +kernel
theorem dX1_nearestLit_1 : decode cX1_nearestLit 1 = .ok (.istore_n 2, 1) := by decide +kernel
theorem dX1_nearestLit_2 : decode cX1_nearestLit 2 = .ok (.aload_n 0, 1) := by decide +kernel
theorem dX1_nearestLit_3 : decode cX1_nearestLit 3 = .ok (.getfield 11, 3) := by decide +kernel
theorem dX1_nearestLit_6 : decode cX1_nearestLit 6 = .ok (.astore_n 3, 1) := by decide +kernel
theorem dX1_nearestLit_7 : decode cX1_nearestLit 7 = .ok (.aload_n 3, 1) := by decide +kernel
theorem dX1_nearestLit_8 : decode cX1_nearestLit 8 = .ok (.arraylength, 1) := by decide +kernel
theorem dX1_nearestLit_9 : decode cX1_nearestLit 9 = .ok (.istore 4, 2) := by decide +kernel
theorem dX1_nearestLit_11 : decode cX1_nearestLit 11 = .ok (.iconst 0, 1) := by decide +kernel
theorem dX1_nearestLit_12 : decode cX1_nearestLit 12 = .ok (.istore 5, 2) := by decide +kernel
theorem dX1_nearestLit_14 : decode cX1_nearestLit 14 = .ok (.iload 5, 2) := by decide +kernel
theorem dX1_nearestLit_16 : decode cX1_nearestLit 16 = .ok (.iload 4, 2) := by decide +kernel
theorem dX1_nearestLit_18 : decode cX1_nearestLit 18 = .ok (.if_icmp .ge 46, 3) := by decide +kernel
theorem dX1_nearestLit_21 : decode cX1_nearestLit 21 = .ok (.aload_n 3, 1) := by decide +kernel
theorem dX1_nearestLit_22 : decode cX1_nearestLit 22 = .ok (.iload 5, 2) := by decide +kernel
theorem dX1_nearestLit_24 : decode cX1_nearestLit 24 = .ok (.aaload, 1) := by decide +kernel
theorem dX1_nearestLit_25 : decode cX1_nearestLit 25 = .ok (.astore 6, 2) := by decide +kernel
theorem dX1_nearestLit_27 : decode cX1_nearestLit 27 = .ok (.aload 6, 2) := by decide +kernel
theorem dX1_nearestLit_29 : decode cX1_nearestLit 29 = .ok (.ifnull 29, 3) := by decide +kernel
theorem dX1_nearestLit_32 : decode cX1_nearestLit 32 = .ok (.aload 6, 2) := by decide +kernel
theorem dX1_nearestLit_34 : decode cX1_nearestLit 34 = .ok (.aload_n 1, 1) := by decide +kernel
theorem dX1_nearestLit_35 : decode cX1_nearestLit 35 = .ok (.if_acmp .eq 23, 3) := by decide +kernel
theorem dX1_nearestLit_38 : decode cX1_nearestLit 38 = .ok (.aload 6, 2) := by decide +kernel
theorem dX1_nearestLit_40 : decode cX1_nearestLit 40 = .ok (.getfield 66, 3) := by decide +kernel
theorem dX1_nearestLit_43 : decode cX1_nearestLit 43 = .ok (.iconst 1, 1) := by decide +kernel
theorem dX1_nearestLit_44 : decode cX1_nearestLit 44 = .ok (.if_icmp .ne 14, 3) := by decide +kernel
theorem dX1_nearestLit_47 : decode cX1_nearestLit 47 = .ok (.iload_n 2, 1) := by decide +kernel
theorem dX1_nearestLit_48 : decode cX1_nearestLit 48 = .ok (.aload_n 1, 1) := by decide +kernel
theorem dX1_nearestLit_49 : decode cX1_nearestLit 49 = .ok (.aload 6, 2) := by decide +kernel
theorem dX1_nearestLit_51 : decode cX1_nearestLit 51 = .ok (.invokevirtual 69, 3) := by decide +kernel
theorem dX1_nearestLit_54 : decode cX1_nearestLit 54 = .ok (.invokestatic 73, 3) := by decide +kernel
theorem dX1_nearestLit_57 : decode cX1_nearestLit 57 = .ok (.istore_n 2, 1) := by decide +kernel
theorem dX1_nearestLit_58 : decode cX1_nearestLit 58 = .ok (.iinc 5 1, 3) := by decide +kernel
theorem dX1_nearestLit_61 : decode cX1_nearestLit 61 = .ok (.goto (-47), 3) := by decide +kernel
theorem dX1_nearestLit_64 : decode cX1_nearestLit 64 = .ok (.iload_n 2, 1) := by decide +kernel
theorem dX1_nearestLit_65 : decode cX1_nearestLit 65 = .ok (.ireturn, 1) := by decide +kernel
theorem dX1_alike_0 : decode cX1_alike 0 = .ok (.iconst 0, 1) := by decide +kernel
theorem dX1_alike_1 : decode cX1_alike 1 = .ok (.istore_n 2, 1) := by decide +kernel
theorem dX1_alike_2 : decode cX1_alike 2 = .ok (.iconst 0, 1) := by decide +kernel
theorem dX1_alike_3 : decode cX1_alike 3 = .ok (.istore_n 3, 1) := by decide +kernel
theorem dX1_alike_4 : decode cX1_alike 4 = .ok (.iload_n 3, 1) := by decide +kernel
theorem dX1_alike_5 : decode cX1_alike 5 = .ok (.aload_n 0, 1) := by decide +kernel
theorem dX1_alike_6 : decode cX1_alike 6 = .ok (.getfield 11, 3) := by decide +kernel
theorem dX1_alike_9 : decode cX1_alike 9 = .ok (.arraylength, 1) := by decide +kernel
theorem dX1_alike_10 : decode cX1_alike 10 = .ok (.if_icmp .ge 64, 3) := by decide +kernel
theorem dX1_alike_13 : decode cX1_alike 13 = .ok (.aload_n 0, 1) := by decide +kernel
theorem dX1_alike_14 : decode cX1_alike 14 = .ok (.getfield 11, 3) := by decide +kernel
theorem dX1_alike_17 : decode cX1_alike 17 = .ok (.iload_n 3, 1) := by decide +kernel
theorem dX1_alike_18 : decode cX1_alike 18 = .ok (.aaload, 1) := by decide +kernel
theorem dX1_alike_19 : decode cX1_alike 19 = .ok (.astore 4, 2) := by decide +kernel
theorem dX1_alike_21 : decode cX1_alike 21 = .ok (.aload 4, 2) := by decide +kernel
theorem dX1_alike_23 : decode cX1_alike 23 = .ok (.ifnull 16, 3) := by decide +kernel
theorem dX1_alike_26 : decode cX1_alike 26 = .ok (.aload 4, 2) := by decide +kernel
theorem dX1_alike_28 : decode cX1_alike 28 = .ok (.getfield 66, 3) := by decide +kernel
theorem dX1_alike_31 : decode cX1_alike 31 = .ok (.iconst 1, 1) := by decide +kernel
theorem dX1_alike_32 : decode cX1_alike 32 = .ok (.if_icmp .ne 7, 3) := by decide +kernel
theorem dX1_alike_35 : decode cX1_alike 35 = .ok (.iconst 1, 1) := by decide +kernel
theorem dX1_alike_36 : decode cX1_alike 36 = .ok (.goto 4, 3) := by decide +kernel
theorem dX1_alike_39 : decode cX1_alike 39 = .ok (.iconst 0, 1) := by decide +kernel
theorem dX1_alike_40 : decode cX1_alike 40 = .ok (.istore 5, 2) := by decide +kernel
theorem dX1_alike_42 : decode cX1_alike 42 = .ok (.iload_n 1, 1) := by decide +kernel
theorem dX1_alike_43 : decode cX1_alike 43 = .ok (.iload_n 3, 1) := by decide +kernel
theorem dX1_alike_44 : decode cX1_alike 44 = .ok (.ishr, 1) := by decide +kernel
theorem dX1_alike_45 : decode cX1_alike 45 = .ok (.iconst 1, 1) := by decide +kernel
theorem dX1_alike_46 : decode cX1_alike 46 = .ok (.iand, 1) := by decide +kernel
theorem dX1_alike_47 : decode cX1_alike 47 = .ok (.iconst 1, 1) := by decide +kernel
theorem dX1_alike_48 : decode cX1_alike 48 = .ok (.if_icmp .ne 7, 3) := by decide +kernel
theorem dX1_alike_51 : decode cX1_alike 51 = .ok (.iconst 1, 1) := by decide +kernel
theorem dX1_alike_52 : decode cX1_alike 52 = .ok (.goto 4, 3) := by decide +kernel
theorem dX1_alike_55 : decode cX1_alike 55 = .ok (.iconst 0, 1) := by decide +kernel
theorem dX1_alike_56 : decode cX1_alike 56 = .ok (.istore 6, 2) := by decide +kernel
theorem dX1_alike_58 : decode cX1_alike 58 = .ok (.iload 5, 2) := by decide +kernel
theorem dX1_alike_60 : decode cX1_alike 60 = .ok (.iload 6, 2) := by decide +kernel
theorem dX1_alike_62 : decode cX1_alike 62 = .ok (.if_icmp .ne 6, 3) := by decide +kernel
theorem dX1_alike_65 : decode cX1_alike 65 = .ok (.iinc 2 1, 3) := by decide +kernel
theorem dX1_alike_68 : decode cX1_alike 68 = .ok (.iinc 3 1, 3) := by decide +kernel
theorem dX1_alike_71 : decode cX1_alike 71 = .ok (.goto (-67), 3) := by decide +kernel
theorem dX1_alike_74 : decode cX1_alike 74 = .ok (.iload_n 2, 1) := by decide +kernel
theorem dX1_alike_75 : decode cX1_alike 75 = .ok (.ireturn, 1) := by decide +kernel
theorem dX2_init_0 : decode cX2_init 0 = .ok (.aload_n 0, 1) := by decide +kernel
theorem dX2_init_1 : decode cX2_init 1 = .ok (.invokespecial 1, 3) := by decide +kernel
theorem dX2_init_4 : decode cX2_init 4 = .ok (.aload_n 0, 1) := by decide +kernel
theorem dX2_init_5 : decode cX2_init 5 = .ok (.bipush 24, 2) := by decide +kernel
theorem dX2_init_7 : decode cX2_init 7 = .ok (.anewarray 9, 3) := by decide +kernel
theorem dX2_init_10 : decode cX2_init 10 = .ok (.putfield 11, 3) := by decide +kernel
theorem dX2_init_13 : decode cX2_init 13 = .ok (.aload_n 0, 1) := by decide +kernel
theorem dX2_init_14 : decode cX2_init 14 = .ok (.bipush 8, 2) := by decide +kernel
theorem dX2_init_16 : decode cX2_init 16 = .ok (.anewarray 15, 3) := by decide +kernel
theorem dX2_init_19 : decode cX2_init 19 = .ok (.putfield 17, 3) := by decide +kernel
theorem dX2_init_22 : decode cX2_init 22 = .ok (.aload_n 0, 1) := by decide +kernel
theorem dX2_init_23 : decode cX2_init 23 = .ok (.bipush 8, 2) := by decide +kernel
theorem dX2_init_25 : decode cX2_init 25 = .ok (.anewarray 15, 3) := by decide +kernel
theorem dX2_init_28 : decode cX2_init 28 = .ok (.putfield 21, 3) := by decide +kernel
theorem dX2_init_31 : decode cX2_init 31 = .ok (.aload_n 0, 1) := by decide +kernel
theorem dX2_init_32 : decode cX2_init 32 = .ok (.sipush 401, 3) := by decide +kernel
theorem dX2_init_35 : decode cX2_init 35 = .ok (.newarray .int, 2) := by decide +kernel
theorem dX2_init_37 : decode cX2_init 37 = .ok (.putfield 24, 3) := by decide +kernel
theorem dX2_init_40 : decode cX2_init 40 = .ok (.aload_n 0, 1) := by decide +kernel
theorem dX2_init_41 : decode cX2_init 41 = .ok (.iconst 0, 1) := by decide +kernel
theorem dX2_init_42 : decode cX2_init 42 = .ok (.putfield 28, 3) := by decide +kernel
theorem dX2_init_45 : decode cX2_init 45 = .ok (.aload_n 0, 1) := by decide +kernel
theorem dX2_init_46 : decode cX2_init 46 = .ok (.iconst 0, 1) := by decide +kernel
theorem dX2_init_47 : decode cX2_init 47 = .ok (.putfield 32, 3) := by decide +kernel
theorem dX2_init_50 : decode cX2_init 50 = .ok (.aload_n 0, 1) := by decide +kernel
theorem dX2_init_51 : decode cX2_init 51 = .ok (.iconst 0, 1) := by decide +kernel
theorem dX2_init_52 : decode cX2_init 52 = .ok (.putfield 35, 3) := by decide +kernel
theorem dX2_init_55 : decode cX2_init 55 = .ok (.aload_n 0, 1) := by decide +kernel
theorem dX2_init_56 : decode cX2_init 56 = .ok (.iconst 0, 1) := by decide +kernel
theorem dX2_init_57 : decode cX2_init 57 = .ok (.putfield 38, 3) := by decide +kernel
theorem dX2_init_60 : decode cX2_init 60 = .ok (.aload_n 0, 1) := by decide +kernel
theorem dX2_init_61 : decode cX2_init 61 = .ok (.iconst 2, 1) := by decide +kernel
theorem dX2_init_62 : decode cX2_init 62 = .ok (.putfield 41, 3) := by decide +kernel
theorem dX2_init_65 : decode cX2_init 65 = .ok (.aload_n 0, 1) := by decide +kernel
theorem dX2_init_66 : decode cX2_init 66 = .ok (.iconst 0, 1) := by decide +kernel
theorem dX2_init_67 : decode cX2_init 67 = .ok (.putfield 44, 3) := by decide +kernel
theorem dX2_init_70 : decode cX2_init 70 = .ok (.aload_n 0, 1) := by decide +kernel
theorem dX2_init_71 : decode cX2_init 71 = .ok (.iconst 0, 1) := by decide +kernel
theorem dX2_init_72 : decode cX2_init 72 = .ok (.putfield 47, 3) := by decide +kernel
theorem dX2_init_75 : decode cX2_init 75 = .ok (.aload_n 0, 1) := by decide +kernel
theorem dX2_init_76 : decode cX2_init 76 = .ok (.iconst 0, 1) := by decide +kernel
theorem dX2_init_77 : decode cX2_init 77 = .ok (.putfield 50, 3) := by decide +kernel
theorem dX2_init_80 : decode cX2_init 80 = .ok (.return_, 1) := by decide +kernel
set_option maxRecDepth 20000 in
theorem ggX2_make_X2_within : GoodIn wsX2_make wsX2_within := goodIn_r _ [13] (by decide +kernel) (by decide +kernel)
set_option maxRecDepth 20000 in
theorem gX2_make_X2_within : GoodIn wsX2_make (va_wsS RX2 53 yX2_within wsX2_within) := goodIn_app (goodIn_of _ (by decide +kernel)) ggX2_make_X2_within
set_option maxRecDepth 20000 in
theorem ggX2_make_X0_init : GoodIn wsX2_make wsX0_init := goodIn_r _ [16, 17, 18, 19, 20, 21, 22, 23, 24, 25, 26, 39, 40, 41, 42, 43, 44, 45] (by decide +kernel) (by decide +kernel)
set_option maxRecDepth 20000 in
theorem gX2_make_X0_init : GoodIn wsX2_make (wsX0_init) := ggX2_make_X0_init
theorem dX2_make_0 : decode cX2_make 0 = .ok (.iload_n 1, 1) := by decide +kernel
theorem dX2_make_1 : decode cX2_make 1 = .ok (.iconst 4, 1) := by decide +kernel
theorem dX2_make_2 : decode cX2_make 2 = .ok (.bipush 12, 2) := by decide +kernel
theorem dX2_make_4 : decode cX2_make 4 = .ok (.invokestatic 53, 3) := by decide +kernel
theorem dX2_make_7 : decode cX2_make 7 = .ok (.ifCond .eq 21, 3) := by decide +kernel
theorem dX2_make_10 : decode cX2_make 10 = .ok (.iload_n 2, 1) := by decide +kernel
theorem dX2_make_11 : decode cX2_make 11 = .ok (.iconst 0, 1) := by decide +kernel
theorem dX2_make_12 : decode cX2_make 12 = .ok (.iconst 3, 1) := by decide +kernel
theorem dX2_make_13 : decode cX2_make 13 = .ok (.invokestatic 53, 3) := by decide +kernel
theorem dX2_make_16 : decode cX2_make 16 = .ok (.ifCond .eq 12, 3) := by decide +kernel
theorem dX2_make_19 : decode cX2_make 19 = .ok (.iload_n 3, 1) := by decide +kernel
theorem dX2_make_20 : decode cX2_make 20 = .ok (.iconst 1, 1) := by decide +kernel
theorem dX2_make_21 : decode cX2_make 21 = .ok (.iconst 4, 1) := by decide +kernel
theorem dX2_make_22 : decode cX2_make 22 = .ok (.invokestatic 53, 3) := by decide +kernel
theorem dX2_make_25 : decode cX2_make 25 = .ok (.ifCond .ne 13, 3) := by decide +kernel
theorem dX2_make_28 : decode cX2_make 28 = .ok (.new 57, 3) := by decide +kernel
theorem dX2_make_31 : decode cX2_make 31 = .ok (.dup, 1) := by decide +kernel
theorem dX2_make_32 : decode cX2_make 32 = .ok (.ldc 59, 2) := by decide +kernel
theorem dX2_make_34 : decode cX2_make 34 = .ok (.invokespecial 61, 3) := by decide +kernel
theorem dX2_make_37 : decode cX2_make 37 = .ok (.athrow, 1) := by decide +kernel
theorem dX2_make_38 : decode cX2_make 38 = .ok (.aload_n 0, 1) := by decide +kernel
theorem dX2_make_39 : decode cX2_make 39 = .ok (.getfield 28, 3) := by decide +kernel
theorem dX2_make_42 : decode cX2_make 42 = .ok (.aload_n 0, 1) := by decide +kernel
theorem dX2_make_43 : decode cX2_make 43 = .ok (.getfield 11, 3) := by decide +kernel
theorem dX2_make_46 : decode cX2_make 46 = .ok (.arraylength, 1) := by decide +kernel
theorem dX2_make_47 : decode cX2_make 47 = .ok (.if_icmp .lt 13, 3) := by decide +kernel
theorem dX2_make_50 : decode cX2_make 50 = .ok (.new 64, 3) := by decide +kernel
theorem dX2_make_53 : decode cX2_make 53 = .ok (.dup, 1) := by decide +kernel
theorem dX2_make_54 : decode cX2_make 54 = .ok (.ldc 66, 2) := by decide +kernel
theorem dX2_make_56 : decode cX2_make 56 = .ok (.invokespecial 68, 3) := by decide +kernel
theorem dX2_make_59 : decode cX2_make 59 = .ok (.athrow, 1) := by decide +kernel
theorem dX2_make_60 : decode cX2_make 60 = .ok (.aload_n 0, 1) := by decide +kernel
theorem dX2_make_61 : decode cX2_make 61 = .ok (.getfield 11, 3) := by decide +kernel
theorem dX2_make_64 : decode cX2_make 64 = .ok (.aload_n 0, 1) := by decide +kernel
theorem dX2_make_65 : decode cX2_make 65 = .ok (.getfield 28, 3) := by decide +kernel
theorem dX2_make_68 : decode cX2_make 68 = .ok (.new 9, 3) := by decide +kernel
theorem dX2_make_71 : decode cX2_make 71 = .ok (.dup, 1) := by decide +kernel
theorem dX2_make_72 : decode cX2_make 72 = .ok (.iload_n 1, 1) := by decide +kernel
theorem dX2_make_73 : decode cX2_make 73 = .ok (.iload_n 2, 1) := by decide +kernel
theorem dX2_make_74 : decode cX2_make 74 = .ok (.iload_n 3, 1) := by decide +kernel
theorem dX2_make_75 : decode cX2_make 75 = .ok (.invokespecial 69, 3) := by decide +kernel
theorem dX2_make_78 : decode cX2_make 78 = .ok (.aastore, 1) := by decide +kernel
theorem dX2_make_79 : decode cX2_make 79 = .ok (.aload_n 0, 1) := by decide +kernel
theorem dX2_make_80 : decode cX2_make 80 = .ok (.dup, 1) := by decide +kernel
theorem dX2_make_81 : decode cX2_make 81 = .ok (.getfield 28, 3) := by decide +kernel
theorem dX2_make_84 : decode cX2_make 84 = .ok (.iconst 1, 1) := by decide +kernel
theorem dX2_make_85 : decode cX2_make 85 = .ok (.iadd, 1) := by decide +kernel
theorem dX2_make_86 : decode cX2_make 86 = .ok (.putfield 28, 3) := by decide +kernel
theorem dX2_make_89 : decode cX2_make 89 = .ok (.aload_n 0, 1) := by decide +kernel
theorem dX2_make_90 : decode cX2_make 90 = .ok (.getfield 28, 3) := by decide +kernel
theorem dX2_make_93 : decode cX2_make 93 = .ok (.iconst 1, 1) := by decide +kernel
theorem dX2_make_94 : decode cX2_make 94 = .ok (.isub, 1) := by decide +kernel
theorem dX2_make_95 : decode cX2_make 95 = .ok (.ireturn, 1) := by decide +kernel
set_option maxRecDepth 20000 in
theorem ggX2_hang_X2_lanternNumbered : GoodIn wsX2_hang wsX2_lanternNumbered := goodIn_ca (goodIn_r _ [14, 1, 2, 15, 16, 17, 13, 18, 63, 64, 65, 66, 67, 68, 69, 70, 71, 72, 73, 74] (by decide +kernel) (by decide +kernel)) (goodIn_sub (fun _ h => List.mem_cons_of_mem _ (List.mem_append_left _ (List.mem_append_left _ (List.mem_append_right _ h)))) (by decide +kernel))
set_option maxRecDepth 20000 in
theorem gX2_hang_X2_lanternNumbered : GoodIn wsX2_hang (wsV RX2 72 RX2 yX2_lanternNumbered wsX2_lanternNumbered) := goodIn_app (goodIn_of _ (by decide +kernel)) ggX2_hang_X2_lanternNumbered
set_option maxRecDepth 20000 in
theorem ggX2_hang_X2_raftNumbered : GoodIn wsX2_hang wsX2_raftNumbered := goodIn_ca (goodIn_r _ [22, 1, 2, 23, 16, 17, 13, 18, 63, 64, 65, 66, 67, 68, 69, 70, 71, 72, 73, 74] (by decide +kernel) (by decide +kernel)) (goodIn_sub (fun _ h => List.mem_cons_of_mem _ (List.mem_append_left _ (List.mem_append_left _ (List.mem_append_right _ h)))) (by decide +kernel))
set_option maxRecDepth 20000 in
theorem gX2_hang_X2_raftNumbered : GoodIn wsX2_hang (wsV RX2 76 RX2 yX2_raftNumbered wsX2_raftNumbered) := goodIn_app (goodIn_of _ (by decide +kernel)) ggX2_hang_X2_raftNumbered
set_option maxRecDepth 20000 in
theorem ggX2_hang_X2_within : GoodIn wsX2_hang wsX2_within := goodIn_r _ [18] (by decide +kernel) (by decide +kernel)
set_option maxRecDepth 20000 in
theorem gX2_hang_X2_within : GoodIn wsX2_hang (va_wsS RX2 53 yX2_within wsX2_within) := goodIn_app (goodIn_of _ (by decide +kernel)) ggX2_hang_X2_within
set_option maxRecDepth 20000 in
theorem ggX2_hang_X1_lanternIn : GoodIn wsX2_hang wsX1_lanternIn := goodIn_r _ [28, 29, 17, 13, 18, 56, 57, 58, 59, 60, 61, 62] (by decide +kernel) (by decide +kernel)
set_option maxRecDepth 20000 in
theorem gX2_hang_X1_lanternIn : GoodIn wsX2_hang (wsV RX2 85 RX1 yX1_lanternIn wsX1_lanternIn) := goodIn_app (goodIn_of _ (by decide +kernel)) ggX2_hang_X1_lanternIn
set_option maxRecDepth 20000 in
theorem ggX2_hang_X1_weight : GoodIn wsX2_hang wsX1_weight := goodIn_r _ [33, 29, 34, 35, 36, 37, 38, 39, 40, 41, 56, 57, 58, 59, 60, 61, 62, 49, 50, 51, 52, 53, 54, 55] (by decide +kernel) (by decide +kernel)
set_option maxRecDepth 20000 in
theorem gX2_hang_X1_weight : GoodIn wsX2_hang (wsV RX2 99 RX1 yX1_weight wsX1_weight) := goodIn_app (goodIn_of _ (by decide +kernel)) ggX2_hang_X1_weight
set_option maxRecDepth 20000 in
theorem ggX2_hang_X0_weight : GoodIn wsX2_hang wsX0_weight := goodIn_r _ [38, 39, 40, 41, 49, 50, 51, 52, 53, 54, 55] (by decide +kernel) (by decide +kernel)
set_option maxRecDepth 20000 in
theorem gX2_hang_X0_weight : GoodIn wsX2_hang (wsV RX2 103 RX0 yX0_weight wsX0_weight) := goodIn_app (goodIn_of _ (by decide +kernel)) ggX2_hang_X0_weight
set_option maxRecDepth 20000 in
theorem ggX2_hang_X1_put : GoodIn wsX2_hang wsX1_put := goodIn_r _ [46, 29, 47, 48, 17, 13, 18, 56, 57, 58, 59, 60, 61, 62, 49, 50, 51, 52, 53, 54, 55] (by decide +kernel) (by decide +kernel)
set_option maxRecDepth 20000 in
theorem gX2_hang_X1_put : GoodIn wsX2_hang (wsV RX2 109 RX1 yX1_put wsX1_put) := goodIn_app (goodIn_of _ (by decide +kernel)) ggX2_hang_X1_put
theorem dX2_hang_0 : decode cX2_hang 0 = .ok (.aload_n 0, 1) := by decide +kernel
theorem dX2_hang_1 : decode cX2_hang 1 = .ok (.iload_n 1, 1) := by decide +kernel
theorem dX2_hang_2 : decode cX2_hang 2 = .ok (.invokevirtual 72, 3) := by decide +kernel
theorem dX2_hang_5 : decode cX2_hang 5 = .ok (.astore 4, 2) := by decide +kernel
theorem dX2_hang_7 : decode cX2_hang 7 = .ok (.aload_n 0, 1) := by decide +kernel
theorem dX2_hang_8 : decode cX2_hang 8 = .ok (.iload_n 2, 1) := by decide +kernel
theorem dX2_hang_9 : decode cX2_hang 9 = .ok (.invokevirtual 76, 3) := by decide +kernel
theorem dX2_hang_12 : decode cX2_hang 12 = .ok (.astore 5, 2) := by decide +kernel
theorem dX2_hang_14 : decode cX2_hang 14 = .ok (.iload_n 3, 1) := by decide +kernel
theorem dX2_hang_15 : decode cX2_hang 15 = .ok (.iconst 0, 1) := by decide +kernel
theorem dX2_hang_16 : decode cX2_hang 16 = .ok (.bipush 9, 2) := by decide +kernel
theorem dX2_hang_18 : decode cX2_hang 18 = .ok (.invokestatic 53, 3) := by decide +kernel
theorem dX2_hang_21 : decode cX2_hang 21 = .ok (.ifCond .ne 13, 3) := by decide +kernel
theorem dX2_hang_24 : decode cX2_hang 24 = .ok (.new 80, 3) := by decide +kernel
theorem dX2_hang_27 : decode cX2_hang 27 = .ok (.dup, 1) := by decide +kernel
theorem dX2_hang_28 : decode cX2_hang 28 = .ok (.ldc 82, 2) := by decide +kernel
theorem dX2_hang_30 : decode cX2_hang 30 = .ok (.invokespecial 84, 3) := by decide +kernel
theorem dX2_hang_33 : decode cX2_hang 33 = .ok (.athrow, 1) := by decide +kernel
theorem dX2_hang_34 : decode cX2_hang 34 = .ok (.aload 5, 2) := by decide +kernel
theorem dX2_hang_36 : decode cX2_hang 36 = .ok (.iload_n 3, 1) := by decide +kernel
theorem dX2_hang_37 : decode cX2_hang 37 = .ok (.invokevirtual 85, 3) := by decide +kernel
theorem dX2_hang_40 : decode cX2_hang 40 = .ok (.ifnull 13, 3) := by decide +kernel
theorem dX2_hang_43 : decode cX2_hang 43 = .ok (.new 57, 3) := by decide +kernel
theorem dX2_hang_46 : decode cX2_hang 46 = .ok (.dup, 1) := by decide +kernel
theorem dX2_hang_47 : decode cX2_hang 47 = .ok (.ldc 88, 2) := by decide +kernel
theorem dX2_hang_49 : decode cX2_hang 49 = .ok (.invokespecial 61, 3) := by decide +kernel
theorem dX2_hang_52 : decode cX2_hang 52 = .ok (.athrow, 1) := by decide +kernel
theorem dX2_hang_53 : decode cX2_hang 53 = .ok (.aload 4, 2) := by decide +kernel
theorem dX2_hang_55 : decode cX2_hang 55 = .ok (.getfield 90, 3) := by decide +kernel
theorem dX2_hang_58 : decode cX2_hang 58 = .ok (.ifnonnull 12, 3) := by decide +kernel
theorem dX2_hang_61 : decode cX2_hang 61 = .ok (.aload 5, 2) := by decide +kernel
theorem dX2_hang_63 : decode cX2_hang 63 = .ok (.getfield 94, 3) := by decide +kernel
theorem dX2_hang_66 : decode cX2_hang 66 = .ok (.iconst 2, 1) := by decide +kernel
theorem dX2_hang_67 : decode cX2_hang 67 = .ok (.if_icmp .ne 13, 3) := by decide +kernel
theorem dX2_hang_70 : decode cX2_hang 70 = .ok (.new 64, 3) := by decide +kernel
theorem dX2_hang_73 : decode cX2_hang 73 = .ok (.dup, 1) := by decide +kernel
theorem dX2_hang_74 : decode cX2_hang 74 = .ok (.ldc 97, 2) := by decide +kernel
theorem dX2_hang_76 : decode cX2_hang 76 = .ok (.invokespecial 68, 3) := by decide +kernel
theorem dX2_hang_79 : decode cX2_hang 79 = .ok (.athrow, 1) := by decide +kernel
theorem dX2_hang_80 : decode cX2_hang 80 = .ok (.aload 5, 2) := by decide +kernel
theorem dX2_hang_82 : decode cX2_hang 82 = .ok (.invokevirtual 99, 3) := by decide +kernel
theorem dX2_hang_85 : decode cX2_hang 85 = .ok (.aload 4, 2) := by decide +kernel
theorem dX2_hang_87 : decode cX2_hang 87 = .ok (.invokevirtual 103, 3) := by decide +kernel
theorem dX2_hang_90 : decode cX2_hang 90 = .ok (.iadd, 1) := by decide +kernel
theorem dX2_hang_91 : decode cX2_hang 91 = .ok (.aload 5, 2) := by decide +kernel
theorem dX2_hang_93 : decode cX2_hang 93 = .ok (.getfield 104, 3) := by decide +kernel
theorem dX2_hang_96 : decode cX2_hang 96 = .ok (.if_icmp .le 13, 3) := by decide +kernel
theorem dX2_hang_99 : decode cX2_hang 99 = .ok (.new 64, 3) := by decide +kernel
theorem dX2_hang_102 : decode cX2_hang 102 = .ok (.dup, 1) := by decide +kernel
theorem dX2_hang_103 : decode cX2_hang 103 = .ok (.ldc 107, 2) := by decide +kernel
theorem dX2_hang_105 : decode cX2_hang 105 = .ok (.invokespecial 68, 3) := by decide +kernel
theorem dX2_hang_108 : decode cX2_hang 108 = .ok (.athrow, 1) := by decide +kernel
theorem dX2_hang_109 : decode cX2_hang 109 = .ok (.aload 5, 2) := by decide +kernel
theorem dX2_hang_111 : decode cX2_hang 111 = .ok (.aload 4, 2) := by decide +kernel
theorem dX2_hang_113 : decode cX2_hang 113 = .ok (.iload_n 3, 1) := by decide +kernel
theorem dX2_hang_114 : decode cX2_hang 114 = .ok (.invokevirtual 109, 3) := by decide +kernel
theorem dX2_hang_117 : decode cX2_hang 117 = .ok (.aload 5, 2) := by decide +kernel
theorem dX2_hang_119 : decode cX2_hang 119 = .ok (.invokevirtual 99, 3) := by decide +kernel
theorem dX2_hang_122 : decode cX2_hang 122 = .ok (.ireturn, 1) := by decide +kernel
set_option maxRecDepth 20000 in
theorem ggX2_takeDown_X2_lanternNumbered : GoodIn wsX2_takeDown wsX2_lanternNumbered := goodIn_ca (goodIn_r _ [9, 10, 11, 12, 13, 14, 8, 15, 44, 45, 46, 47, 48, 49, 50, 51, 52, 53, 54, 55] (by decide +kernel) (by decide +kernel)) (goodIn_sub (fun _ h => List.mem_cons_of_mem _ (List.mem_append_right _ h)) (by decide +kernel))
set_option maxRecDepth 20000 in
theorem gX2_takeDown_X2_lanternNumbered : GoodIn wsX2_takeDown (wsV RX2 72 RX2 yX2_lanternNumbered wsX2_lanternNumbered) := goodIn_app (goodIn_of _ (by decide +kernel)) ggX2_takeDown_X2_lanternNumbered
set_option maxRecDepth 20000 in
theorem ggX2_takeDown_X1_free : GoodIn wsX2_takeDown wsX1_free := goodIn_r _ [20, 21, 22, 23, 37, 38, 39, 40, 41, 42, 43, 30, 31, 32, 33, 34, 35, 36] (by decide +kernel) (by decide +kernel)
set_option maxRecDepth 20000 in
theorem gX2_takeDown_X1_free : GoodIn wsX2_takeDown (wsV RX2 115 RX1 yX1_free wsX1_free) := goodIn_app (goodIn_of _ (by decide +kernel)) ggX2_takeDown_X1_free
set_option maxRecDepth 20000 in
theorem ggX2_takeDown_X0_darken : GoodIn wsX2_takeDown wsX0_darken := goodIn_r _ [28, 29, 30, 31, 32, 33, 34, 35, 36] (by decide +kernel) (by decide +kernel)
set_option maxRecDepth 20000 in
theorem gX2_takeDown_X0_darken : GoodIn wsX2_takeDown (wsV RX2 119 RX0 yX0_darken wsX0_darken) := goodIn_app (goodIn_of _ (by decide +kernel)) ggX2_takeDown_X0_darken
theorem dX2_takeDown_0 : decode cX2_takeDown 0 = .ok (.aload_n 0, 1) := by decide +kernel
theorem dX2_takeDown_1 : decode cX2_takeDown 1 = .ok (.iload_n 1, 1) := by decide +kernel
theorem dX2_takeDown_2 : decode cX2_takeDown 2 = .ok (.invokevirtual 72, 3) := by decide +kernel
theorem dX2_takeDown_5 : decode cX2_takeDown 5 = .ok (.astore_n 2, 1) := by decide +kernel
theorem dX2_takeDown_6 : decode cX2_takeDown 6 = .ok (.aload_n 2, 1) := by decide +kernel
theorem dX2_takeDown_7 : decode cX2_takeDown 7 = .ok (.getfield 90, 3) := by decide +kernel
theorem dX2_takeDown_10 : decode cX2_takeDown 10 = .ok (.astore_n 3, 1) := by decide +kernel
theorem dX2_takeDown_11 : decode cX2_takeDown 11 = .ok (.aload_n 3, 1) := by decide +kernel
theorem dX2_takeDown_12 : decode cX2_takeDown 12 = .ok (.ifnonnull 13, 3) := by decide +kernel
theorem dX2_takeDown_15 : decode cX2_takeDown 15 = .ok (.new 64, 3) := by decide +kernel
theorem dX2_takeDown_18 : decode cX2_takeDown 18 = .ok (.dup, 1) := by decide +kernel
theorem dX2_takeDown_19 : decode cX2_takeDown 19 = .ok (.ldc 113, 2) := by decide +kernel
theorem dX2_takeDown_21 : decode cX2_takeDown 21 = .ok (.invokespecial 68, 3) := by decide +kernel
theorem dX2_takeDown_24 : decode cX2_takeDown 24 = .ok (.athrow, 1) := by decide +kernel
theorem dX2_takeDown_25 : decode cX2_takeDown 25 = .ok (.aload_n 3, 1) := by decide +kernel
theorem dX2_takeDown_26 : decode cX2_takeDown 26 = .ok (.aload_n 2, 1) := by decide +kernel
theorem dX2_takeDown_27 : decode cX2_takeDown 27 = .ok (.invokevirtual 115, 3) := by decide +kernel
theorem dX2_takeDown_30 : decode cX2_takeDown 30 = .ok (.aload_n 2, 1) := by decide +kernel
theorem dX2_takeDown_31 : decode cX2_takeDown 31 = .ok (.invokevirtual 119, 3) := by decide +kernel
theorem dX2_takeDown_34 : decode cX2_takeDown 34 = .ok (.aload_n 3, 1) := by decide +kernel
theorem dX2_takeDown_35 : decode cX2_takeDown 35 = .ok (.getfield 122, 3) := by decide +kernel
theorem dX2_takeDown_38 : decode cX2_takeDown 38 = .ok (.ireturn, 1) := by decide +kernel
set_option maxRecDepth 20000 in
theorem ggX2_light_X2_lanternNumbered : GoodIn wsX2_light wsX2_lanternNumbered := goodIn_ca (goodIn_r _ [9, 10, 11, 12, 13, 14, 8, 15, 47, 48, 49, 50, 51, 52, 53, 54, 55, 56, 57, 58] (by decide +kernel) (by decide +kernel)) (goodIn_sub (fun _ h => List.mem_cons_of_mem _ (List.mem_append_right _ h)) (by decide +kernel))
set_option maxRecDepth 20000 in
theorem gX2_light_X2_lanternNumbered : GoodIn wsX2_light (wsV RX2 72 RX2 yX2_lanternNumbered wsX2_lanternNumbered) := goodIn_app (goodIn_of _ (by decide +kernel)) ggX2_light_X2_lanternNumbered
set_option maxRecDepth 20000 in
theorem ggX2_light_X0_place : GoodIn wsX2_light wsX0_place := goodIn_r _ [20, 21, 22, 23, 24, 40, 41, 42, 43, 44, 45, 46, 59, 60, 61, 62, 63, 64, 65] (by decide +kernel) (by decide +kernel)
set_option maxRecDepth 20000 in
theorem gX2_light_X0_place : GoodIn wsX2_light (wsV RX2 128 RX0 yX0_place wsX0_place) := goodIn_app (goodIn_of _ (by decide +kernel)) ggX2_light_X0_place
set_option maxRecDepth 20000 in
theorem ggX2_light_X2_isCrowded : GoodIn wsX2_light wsX2_isCrowded := goodIn_r _ [28, 12, 3, 29, 30, 31, 8, 32, 33, 34, 35, 36, 37, 19, 38, 39, 17, 18, 20, 21, 22, 23, 24, 47, 48, 49, 50, 51, 52, 53, 54, 55, 56, 57, 58, 40, 41, 42, 43, 44, 45, 46, 59, 60, 61, 62, 63, 64, 65] (by decide +kernel) (by decide +kernel)
set_option maxRecDepth 20000 in
theorem gX2_light_X2_isCrowded : GoodIn wsX2_light (wsV RX2 131 RX2 yX2_isCrowded wsX2_isCrowded) := goodIn_app (goodIn_of _ (by decide +kernel)) ggX2_light_X2_isCrowded
theorem dX2_light_0 : decode cX2_light 0 = .ok (.aload_n 0, 1) := by decide +kernel
theorem dX2_light_1 : decode cX2_light 1 = .ok (.iload_n 1, 1) := by decide +kernel
theorem dX2_light_2 : decode cX2_light 2 = .ok (.invokevirtual 72, 3) := by decide +kernel
theorem dX2_light_5 : decode cX2_light 5 = .ok (.astore_n 2, 1) := by decide +kernel
theorem dX2_light_6 : decode cX2_light 6 = .ok (.aload_n 2, 1) := by decide +kernel
theorem dX2_light_7 : decode cX2_light 7 = .ok (.getfield 125, 3) := by decide +kernel
theorem dX2_light_10 : decode cX2_light 10 = .ok (.ifCond .ne 21, 3) := by decide +kernel
theorem dX2_light_13 : decode cX2_light 13 = .ok (.aload_n 2, 1) := by decide +kernel
theorem dX2_light_14 : decode cX2_light 14 = .ok (.invokevirtual 128, 3) := by decide +kernel
theorem dX2_light_17 : decode cX2_light 17 = .ok (.iconst (-1), 1) := by decide +kernel
theorem dX2_light_18 : decode cX2_light 18 = .ok (.if_icmp .eq 13, 3) := by decide +kernel
theorem dX2_light_21 : decode cX2_light 21 = .ok (.aload_n 0, 1) := by decide +kernel
theorem dX2_light_22 : decode cX2_light 22 = .ok (.aload_n 2, 1) := by decide +kernel
theorem dX2_light_23 : decode cX2_light 23 = .ok (.bipush 24, 2) := by decide +kernel
theorem dX2_light_25 : decode cX2_light 25 = .ok (.invokevirtual 131, 3) := by decide +kernel
theorem dX2_light_28 : decode cX2_light 28 = .ok (.ifCond .eq 13, 3) := by decide +kernel
theorem dX2_light_31 : decode cX2_light 31 = .ok (.new 64, 3) := by decide +kernel
theorem dX2_light_34 : decode cX2_light 34 = .ok (.dup, 1) := by decide +kernel
theorem dX2_light_35 : decode cX2_light 35 = .ok (.ldc 135, 2) := by decide +kernel
theorem dX2_light_37 : decode cX2_light 37 = .ok (.invokespecial 68, 3) := by decide +kernel
theorem dX2_light_40 : decode cX2_light 40 = .ok (.athrow, 1) := by decide +kernel
theorem dX2_light_41 : decode cX2_light 41 = .ok (.aload_n 2, 1) := by decide +kernel
theorem dX2_light_42 : decode cX2_light 42 = .ok (.iconst 1, 1) := by decide +kernel
theorem dX2_light_43 : decode cX2_light 43 = .ok (.putfield 125, 3) := by decide +kernel
theorem dX2_light_46 : decode cX2_light 46 = .ok (.aload_n 2, 1) := by decide +kernel
theorem dX2_light_47 : decode cX2_light 47 = .ok (.getfield 137, 3) := by decide +kernel
theorem dX2_light_50 : decode cX2_light 50 = .ok (.ireturn, 1) := by decide +kernel
set_option maxRecDepth 20000 in
theorem ggX2_putOut_X2_lanternNumbered : GoodIn wsX2_putOut wsX2_lanternNumbered := goodIn_ca (goodIn_r _ [9, 10, 11, 12, 13, 14, 8, 15, 29, 30, 31, 32, 33, 34, 35, 36, 37, 38, 39, 40] (by decide +kernel) (by decide +kernel)) (goodIn_sub (fun _ h => List.mem_cons_of_mem _ (List.mem_append_right _ h)) (by decide +kernel))
set_option maxRecDepth 20000 in
theorem gX2_putOut_X2_lanternNumbered : GoodIn wsX2_putOut (wsV RX2 72 RX2 yX2_lanternNumbered wsX2_lanternNumbered) := goodIn_app (goodIn_of _ (by decide +kernel)) ggX2_putOut_X2_lanternNumbered
set_option maxRecDepth 20000 in
theorem ggX2_putOut_X0_darken : GoodIn wsX2_putOut wsX0_darken := goodIn_r _ [20, 21, 22, 23, 24, 25, 26, 27, 28] (by decide +kernel) (by decide +kernel)
set_option maxRecDepth 20000 in
theorem gX2_putOut_X0_darken : GoodIn wsX2_putOut (wsV RX2 119 RX0 yX0_darken wsX0_darken) := goodIn_app (goodIn_of _ (by decide +kernel)) ggX2_putOut_X0_darken
theorem dX2_putOut_0 : decode cX2_putOut 0 = .ok (.aload_n 0, 1) := by decide +kernel
theorem dX2_putOut_1 : decode cX2_putOut 1 = .ok (.iload_n 1, 1) := by decide +kernel
theorem dX2_putOut_2 : decode cX2_putOut 2 = .ok (.invokevirtual 72, 3) := by decide +kernel
theorem dX2_putOut_5 : decode cX2_putOut 5 = .ok (.astore_n 2, 1) := by decide +kernel
theorem dX2_putOut_6 : decode cX2_putOut 6 = .ok (.aload_n 2, 1) := by decide +kernel
theorem dX2_putOut_7 : decode cX2_putOut 7 = .ok (.getfield 125, 3) := by decide +kernel
theorem dX2_putOut_10 : decode cX2_putOut 10 = .ok (.iconst 1, 1) := by decide +kernel
theorem dX2_putOut_11 : decode cX2_putOut 11 = .ok (.if_icmp .eq 13, 3) := by decide +kernel
theorem dX2_putOut_14 : decode cX2_putOut 14 = .ok (.new 64, 3) := by decide +kernel
theorem dX2_putOut_17 : decode cX2_putOut 17 = .ok (.dup, 1) := by decide +kernel
theorem dX2_putOut_18 : decode cX2_putOut 18 = .ok (.ldc 140, 2) := by decide +kernel
theorem dX2_putOut_20 : decode cX2_putOut 20 = .ok (.invokespecial 68, 3) := by decide +kernel
theorem dX2_putOut_23 : decode cX2_putOut 23 = .ok (.athrow, 1) := by decide +kernel
theorem dX2_putOut_24 : decode cX2_putOut 24 = .ok (.aload_n 2, 1) := by decide +kernel
theorem dX2_putOut_25 : decode cX2_putOut 25 = .ok (.invokevirtual 119, 3) := by decide +kernel
theorem dX2_putOut_28 : decode cX2_putOut 28 = .ok (.aload_n 2, 1) := by decide +kernel
theorem dX2_putOut_29 : decode cX2_putOut 29 = .ok (.getfield 137, 3) := by decide +kernel
theorem dX2_putOut_32 : decode cX2_putOut 32 = .ok (.ireturn, 1) := by decide +kernel
set_option maxRecDepth 20000 in
theorem ggX2_build_X2_within : GoodIn wsX2_build wsX2_within := goodIn_r _ [13] (by decide +kernel) (by decide +kernel)
set_option maxRecDepth 20000 in
theorem gX2_build_X2_within : GoodIn wsX2_build (va_wsS RX2 53 yX2_within wsX2_within) := goodIn_app (goodIn_of _ (by decide +kernel)) ggX2_build_X2_within
set_option maxRecDepth 20000 in
theorem ggX2_build_X1_init : GoodIn wsX2_build wsX1_init := goodIn_r _ [16, 17, 18, 19, 20, 21, 22, 23, 24, 25, 26, 27, 40, 41, 42, 43, 44, 45, 46] (by decide +kernel) (by decide +kernel)
set_option maxRecDepth 20000 in
theorem gX2_build_X1_init : GoodIn wsX2_build (wsX1_init) := ggX2_build_X1_init
theorem dX2_build_0 : decode cX2_build 0 = .ok (.iload_n 1, 1) := by decide +kernel
theorem dX2_build_1 : decode cX2_build 1 = .ok (.iconst 1, 1) := by decide +kernel
theorem dX2_build_2 : decode cX2_build 2 = .ok (.bipush 9, 2) := by decide +kernel
theorem dX2_build_4 : decode cX2_build 4 = .ok (.invokestatic 53, 3) := by decide +kernel
theorem dX2_build_7 : decode cX2_build 7 = .ok (.ifCond .eq 15, 3) := by decide +kernel
theorem dX2_build_10 : decode cX2_build 10 = .ok (.iload_n 2, 1) := by decide +kernel
theorem dX2_build_11 : decode cX2_build 11 = .ok (.bipush 100, 2) := by decide +kernel
theorem dX2_build_13 : decode cX2_build 13 = .ok (.sipush 9999, 3) := by decide +kernel
theorem dX2_build_16 : decode cX2_build 16 = .ok (.invokestatic 53, 3) := by decide +kernel
theorem dX2_build_19 : decode cX2_build 19 = .ok (.ifCond .ne 13, 3) := by decide +kernel
theorem dX2_build_22 : decode cX2_build 22 = .ok (.new 57, 3) := by decide +kernel
theorem dX2_build_25 : decode cX2_build 25 = .ok (.dup, 1) := by decide +kernel
theorem dX2_build_26 : decode cX2_build 26 = .ok (.ldc 142, 2) := by decide +kernel
theorem dX2_build_28 : decode cX2_build 28 = .ok (.invokespecial 61, 3) := by decide +kernel
theorem dX2_build_31 : decode cX2_build 31 = .ok (.athrow, 1) := by decide +kernel
theorem dX2_build_32 : decode cX2_build 32 = .ok (.aload_n 0, 1) := by decide +kernel
theorem dX2_build_33 : decode cX2_build 33 = .ok (.getfield 32, 3) := by decide +kernel
theorem dX2_build_36 : decode cX2_build 36 = .ok (.aload_n 0, 1) := by decide +kernel
theorem dX2_build_37 : decode cX2_build 37 = .ok (.getfield 17, 3) := by decide +kernel
theorem dX2_build_40 : decode cX2_build 40 = .ok (.arraylength, 1) := by decide +kernel
theorem dX2_build_41 : decode cX2_build 41 = .ok (.if_icmp .lt 13, 3) := by decide +kernel
theorem dX2_build_44 : decode cX2_build 44 = .ok (.new 64, 3) := by decide +kernel
theorem dX2_build_47 : decode cX2_build 47 = .ok (.dup, 1) := by decide +kernel
theorem dX2_build_48 : decode cX2_build 48 = .ok (.ldc 144, 2) := by decide +kernel
theorem dX2_build_50 : decode cX2_build 50 = .ok (.invokespecial 68, 3) := by decide +kernel
theorem dX2_build_53 : decode cX2_build 53 = .ok (.athrow, 1) := by decide +kernel
theorem dX2_build_54 : decode cX2_build 54 = .ok (.aload_n 0, 1) := by decide +kernel
theorem dX2_build_55 : decode cX2_build 55 = .ok (.getfield 17, 3) := by decide +kernel
theorem dX2_build_58 : decode cX2_build 58 = .ok (.aload_n 0, 1) := by decide +kernel
theorem dX2_build_59 : decode cX2_build 59 = .ok (.getfield 32, 3) := by decide +kernel
theorem dX2_build_62 : decode cX2_build 62 = .ok (.new 15, 3) := by decide +kernel
theorem dX2_build_65 : decode cX2_build 65 = .ok (.dup, 1) := by decide +kernel
theorem dX2_build_66 : decode cX2_build 66 = .ok (.aload_n 0, 1) := by decide +kernel
theorem dX2_build_67 : decode cX2_build 67 = .ok (.getfield 32, 3) := by decide +kernel
theorem dX2_build_70 : decode cX2_build 70 = .ok (.iload_n 1, 1) := by decide +kernel
theorem dX2_build_71 : decode cX2_build 71 = .ok (.iload_n 2, 1) := by decide +kernel
theorem dX2_build_72 : decode cX2_build 72 = .ok (.invokespecial 146, 3) := by decide +kernel
theorem dX2_build_75 : decode cX2_build 75 = .ok (.aastore, 1) := by decide +kernel
theorem dX2_build_76 : decode cX2_build 76 = .ok (.aload_n 0, 1) := by decide +kernel
theorem dX2_build_77 : decode cX2_build 77 = .ok (.dup, 1) := by decide +kernel
theorem dX2_build_78 : decode cX2_build 78 = .ok (.getfield 32, 3) := by decide +kernel
theorem dX2_build_81 : decode cX2_build 81 = .ok (.iconst 1, 1) := by decide +kernel
theorem dX2_build_82 : decode cX2_build 82 = .ok (.iadd, 1) := by decide +kernel
theorem dX2_build_83 : decode cX2_build 83 = .ok (.putfield 32, 3) := by decide +kernel
theorem dX2_build_86 : decode cX2_build 86 = .ok (.aload_n 0, 1) := by decide +kernel
theorem dX2_build_87 : decode cX2_build 87 = .ok (.getfield 32, 3) := by decide +kernel
theorem dX2_build_90 : decode cX2_build 90 = .ok (.iconst 1, 1) := by decide +kernel
theorem dX2_build_91 : decode cX2_build 91 = .ok (.isub, 1) := by decide +kernel
theorem dX2_build_92 : decode cX2_build 92 = .ok (.ireturn, 1) := by decide +kernel
set_option maxRecDepth 20000 in
theorem ggX2_launch_X2_raftNumbered : GoodIn wsX2_launch wsX2_raftNumbered := goodIn_ca (goodIn_r _ [12, 13, 14, 15, 16, 17, 11, 18, 41, 42, 43, 44, 45, 46, 47, 48, 49, 50, 51, 52] (by decide +kernel) (by decide +kernel)) (goodIn_sub (fun _ h => List.mem_cons_of_mem _ (List.mem_append_right _ h)) (by decide +kernel))
set_option maxRecDepth 20000 in
theorem gX2_launch_X2_raftNumbered : GoodIn wsX2_launch (wsV RX2 76 RX2 yX2_raftNumbered wsX2_raftNumbered) := goodIn_app (goodIn_of _ (by decide +kernel)) ggX2_launch_X2_raftNumbered
set_option maxRecDepth 20000 in
theorem ggX2_launch_X2_hasRoomToLaunch : GoodIn wsX2_launch wsX2_hasRoomToLaunch := goodIn_r _ [22, 5, 3, 23, 24, 25, 26, 27, 28, 29, 41, 42, 43, 44, 45, 46, 47, 48, 49, 50, 51, 52, 34, 35, 36, 37, 38, 39, 40] (by decide +kernel) (by decide +kernel)
set_option maxRecDepth 20000 in
theorem gX2_launch_X2_hasRoomToLaunch : GoodIn wsX2_launch (wsV RX2 147 RX2 yX2_hasRoomToLaunch wsX2_hasRoomToLaunch) := goodIn_app (goodIn_of _ (by decide +kernel)) ggX2_launch_X2_hasRoomToLaunch
set_option maxRecDepth 20000 in
theorem ggX2_launch_X2_raftsOnRiver : GoodIn wsX2_launch wsX2_raftsOnRiver := goodIn_r _ [33, 5, 3, 41, 42, 43, 44, 45, 46, 47, 48, 49, 50, 51, 52, 34, 35, 36, 37, 38, 39, 40] (by decide +kernel) (by decide +kernel)
set_option maxRecDepth 20000 in
theorem gX2_launch_X2_raftsOnRiver : GoodIn wsX2_launch (wsV RX2 159 RX2 yX2_raftsOnRiver wsX2_raftsOnRiver) := goodIn_app (goodIn_of _ (by decide +kernel)) ggX2_launch_X2_raftsOnRiver
theorem dX2_launch_0 : decode cX2_launch 0 = .ok (.aload_n 0, 1) := by decide +kernel
theorem dX2_launch_1 : decode cX2_launch 1 = .ok (.iload_n 1, 1) := by decide +kernel
theorem dX2_launch_2 : decode cX2_launch 2 = .ok (.invokevirtual 76, 3) := by decide +kernel
theorem dX2_launch_5 : decode cX2_launch 5 = .ok (.astore_n 2, 1) := by decide +kernel
theorem dX2_launch_6 : decode cX2_launch 6 = .ok (.aload_n 2, 1) := by decide +kernel
theorem dX2_launch_7 : decode cX2_launch 7 = .ok (.getfield 94, 3) := by decide +kernel
theorem dX2_launch_10 : decode cX2_launch 10 = .ok (.ifCond .ne 22, 3) := by decide +kernel
theorem dX2_launch_13 : decode cX2_launch 13 = .ok (.aload_n 0, 1) := by decide +kernel
theorem dX2_launch_14 : decode cX2_launch 14 = .ok (.invokevirtual 147, 3) := by decide +kernel
theorem dX2_launch_17 : decode cX2_launch 17 = .ok (.ifCond .eq 15, 3) := by decide +kernel
theorem dX2_launch_20 : decode cX2_launch 20 = .ok (.aload_n 0, 1) := by decide +kernel
theorem dX2_launch_21 : decode cX2_launch 21 = .ok (.getfield 35, 3) := by decide +kernel
theorem dX2_launch_24 : decode cX2_launch 24 = .ok (.aload_n 0, 1) := by decide +kernel
theorem dX2_launch_25 : decode cX2_launch 25 = .ok (.getfield 21, 3) := by decide +kernel
theorem dX2_launch_28 : decode cX2_launch 28 = .ok (.arraylength, 1) := by decide +kernel
theorem dX2_launch_29 : decode cX2_launch 29 = .ok (.if_icmp .lt 13, 3) := by decide +kernel
theorem dX2_launch_32 : decode cX2_launch 32 = .ok (.new 64, 3) := by decide +kernel
theorem dX2_launch_35 : decode cX2_launch 35 = .ok (.dup, 1) := by decide +kernel
theorem dX2_launch_36 : decode cX2_launch 36 = .ok (.ldc 151, 2) := by decide +kernel
theorem dX2_launch_38 : decode cX2_launch 38 = .ok (.invokespecial 68, 3) := by decide +kernel
theorem dX2_launch_41 : decode cX2_launch 41 = .ok (.athrow, 1) := by decide +kernel
theorem dX2_launch_42 : decode cX2_launch 42 = .ok (.aload_n 2, 1) := by decide +kernel
theorem dX2_launch_43 : decode cX2_launch 43 = .ok (.iconst 1, 1) := by decide +kernel
theorem dX2_launch_44 : decode cX2_launch 44 = .ok (.putfield 94, 3) := by decide +kernel
theorem dX2_launch_47 : decode cX2_launch 47 = .ok (.aload_n 2, 1) := by decide +kernel
theorem dX2_launch_48 : decode cX2_launch 48 = .ok (.bipush 9, 2) := by decide +kernel
theorem dX2_launch_50 : decode cX2_launch 50 = .ok (.putfield 153, 3) := by decide +kernel
theorem dX2_launch_53 : decode cX2_launch 53 = .ok (.aload_n 2, 1) := by decide +kernel
theorem dX2_launch_54 : decode cX2_launch 54 = .ok (.aload_n 0, 1) := by decide +kernel
theorem dX2_launch_55 : decode cX2_launch 55 = .ok (.getfield 35, 3) := by decide +kernel
theorem dX2_launch_58 : decode cX2_launch 58 = .ok (.putfield 156, 3) := by decide +kernel
theorem dX2_launch_61 : decode cX2_launch 61 = .ok (.aload_n 0, 1) := by decide +kernel
theorem dX2_launch_62 : decode cX2_launch 62 = .ok (.getfield 21, 3) := by decide +kernel
theorem dX2_launch_65 : decode cX2_launch 65 = .ok (.aload_n 0, 1) := by decide +kernel
theorem dX2_launch_66 : decode cX2_launch 66 = .ok (.getfield 35, 3) := by decide +kernel
theorem dX2_launch_69 : decode cX2_launch 69 = .ok (.aload_n 2, 1) := by decide +kernel
theorem dX2_launch_70 : decode cX2_launch 70 = .ok (.aastore, 1) := by decide +kernel

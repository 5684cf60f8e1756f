def RX0 : String := "SmokeWard$Act"
def TX0 : u_T := fun k => match k with
  | 0 => ("SmokeWard$Act", "kind", "I", true)
  | 1 => ("SmokeWard$Act", "a", "I", true)
  | 2 => ("SmokeWard$Act", "b", "I", true)
  | 3 => ("SmokeWard$Act", "c", "I", true)
  | _ => ("SmokeWard$Act", "d", "I", true)
def tyX0 : Nat → FieldType := fun k => match k with
  | 0 => .int
  | 1 => .int
  | 2 => .int
  | 3 => .int
  | _ => .int
abbrev wsX00 : List Cond := u_ws RX0 TX0 5
theorem nmX0 : ∀ a, a < 5 → ∀ b, b < 5 → a ≠ b → (TX0 a).2.1 ≠ (TX0 b).2.1 := by decide +kernel
theorem tyX0_ok : ∀ k, k < 5 → parseFieldDescriptor (TX0 k).2.2.1 = some (tyX0 k) := by decide +kernel
abbrev cX0_init : ByteArray := prog_2_method_1_code
def yX0_init : MethodName := ⟨RX0, "<init>", "(IIIII)V"⟩
def RX1 : String := "SmokeWard$Land"
def TX1 : u_T := fun k => match k with
  | 0 => ("SmokeWard$Land", "fuel", "[I", true)
  | 1 => ("SmokeWard$Land", "fire", "[I", true)
  | 2 => ("SmokeWard$Land", "smoke", "[I", true)
  | 3 => ("SmokeWard$Land", "line", "[Z", true)
  | 4 => ("SmokeWard$Land", "crewHours", "[I", true)
  | 5 => ("SmokeWard$Land", "crewPlaces", "[I", true)
  | 6 => ("SmokeWard$Land", "brought", "[I", true)
  | 7 => ("SmokeWard$Land", "windX", "I", false)
  | 8 => ("SmokeWard$Land", "windY", "I", false)
  | 9 => ("SmokeWard$Land", "windStrength", "I", false)
  | 10 => ("SmokeWard$Land", "rain", "I", false)
  | 11 => ("SmokeWard$Land", "smokeMade", "J", false)
  | 12 => ("SmokeWard$Land", "smokeBlown", "J", false)
  | _ => ("SmokeWard$Land", "smokeSettled", "J", false)
def tyX1 : Nat → FieldType := fun k => match k with
  | 0 => .array .int
  | 1 => .array .int
  | 2 => .array .int
  | 3 => .array .boolean
  | 4 => .array .int
  | 5 => .array .int
  | 6 => .array .int
  | 7 => .int
  | 8 => .int
  | 9 => .int
  | 10 => .int
  | 11 => .long
  | 12 => .long
  | _ => .long
abbrev wsX10 : List Cond := u_ws RX1 TX1 14
theorem nmX1 : ∀ a, a < 14 → ∀ b, b < 14 → a ≠ b → (TX1 a).2.1 ≠ (TX1 b).2.1 := by decide +kernel
theorem tyX1_ok : ∀ k, k < 14 → parseFieldDescriptor (TX1 k).2.2.1 = some (tyX1 k) := by decide +kernel
abbrev cX1_init : ByteArray := prog_3_method_1_code
def yX1_init : MethodName := ⟨RX1, "<init>", "()V"⟩
abbrev cX1_copyFrom : ByteArray := prog_3_method_2_code
def yX1_copyFrom : MethodName := ⟨RX1, "copyFrom", "(LSmokeWard$Land;)V"⟩
abbrev cX1_replaceFuel : ByteArray := prog_3_method_3_code
def yX1_replaceFuel : MethodName := ⟨RX1, "replaceFuel", "(II)I"⟩
abbrev cX1_kindle : ByteArray := prog_3_method_4_code
def yX1_kindle : MethodName := ⟨RX1, "kindle", "(II)I"⟩
abbrev cX1_turnWind : ByteArray := prog_3_method_5_code
def yX1_turnWind : MethodName := ⟨RX1, "turnWind", "(III)I"⟩
abbrev cX1_changeRain : ByteArray := prog_3_method_6_code
def yX1_changeRain : MethodName := ⟨RX1, "changeRain", "(I)I"⟩
abbrev cX1_sendCrew : ByteArray := prog_3_method_7_code
def yX1_sendCrew : MethodName := ⟨RX1, "sendCrew", "(II)I"⟩
abbrev cX1_smokeInAll : ByteArray := prog_3_method_8_code
def yX1_smokeInAll : MethodName := ⟨RX1, "smokeInAll", "()J"⟩
abbrev cX1_runModel : ByteArray := prog_3_method_9_code
def yX1_runModel : MethodName := ⟨RX1, "runModel", "()V"⟩
abbrev cX1_dig : ByteArray := prog_3_method_10_code
def yX1_dig : MethodName := ⟨RX1, "dig", "()V"⟩
abbrev cX1_burn : ByteArray := prog_3_method_11_code
def yX1_burn : MethodName := ⟨RX1, "burn", "()V"⟩
abbrev cX1_spread : ByteArray := prog_3_method_12_code
def yX1_spread : MethodName := ⟨RX1, "spread", "()V"⟩
abbrev cX1_tell : ByteArray := prog_3_method_13_code
def yX1_tell : MethodName := ⟨RX1, "tell", "(III)V"⟩
abbrev cX1_carry : ByteArray := prog_3_method_14_code
def yX1_carry : MethodName := ⟨RX1, "carry", "()V"⟩
abbrev cX1_settle : ByteArray := prog_3_method_15_code
def yX1_settle : MethodName := ⟨RX1, "settle", "()V"⟩
def RX2 : String := "SmokeWard$Outlook"
def TX2 : u_T := fun k => match k with
  | 0 => ("SmokeWard$Outlook", "ahead", "LSmokeWard$Land;", true)
  | _ => ("SmokeWard$Outlook", "peaks", "[I", true)
def tyX2 : Nat → FieldType := fun k => match k with
  | 0 => .object "SmokeWard$Land"
  | _ => .array .int
abbrev wsX20 : List Cond := u_ws RX2 TX2 2
theorem nmX2 : ∀ a, a < 2 → ∀ b, b < 2 → a ≠ b → (TX2 a).2.1 ≠ (TX2 b).2.1 := by decide +kernel
theorem tyX2_ok : ∀ k, k < 2 → parseFieldDescriptor (TX2 k).2.2.1 = some (tyX2 k) := by decide +kernel
abbrev cX2_init : ByteArray := prog_4_method_1_code
def yX2_init : MethodName := ⟨RX2, "<init>", "()V"⟩
abbrev cX2_look : ByteArray := prog_4_method_2_code
def yX2_look : MethodName := ⟨RX2, "look", "(LSmokeWard$Land;I)V"⟩
def RX3 : String := "SmokeWard$Schools"
def TX3 : u_T := fun k => match k with
  | 0 => ("SmokeWard$Schools", "open", "[Z", true)
  | 1 => ("SmokeWard$Schools", "places", "[I", true)
  | 2 => ("SmokeWard$Schools", "bounds", "[I", true)
  | 3 => ("SmokeWard$Schools", "count", "I", false)
  | _ => ("SmokeWard$Schools", "closed", "I", false)
def tyX3 : Nat → FieldType := fun k => match k with
  | 0 => .array .boolean
  | 1 => .array .int
  | 2 => .array .int
  | 3 => .int
  | _ => .int
abbrev wsX30 : List Cond := u_ws RX3 TX3 5
theorem nmX3 : ∀ a, a < 5 → ∀ b, b < 5 → a ≠ b → (TX3 a).2.1 ≠ (TX3 b).2.1 := by decide +kernel
theorem tyX3_ok : ∀ k, k < 5 → parseFieldDescriptor (TX3 k).2.2.1 = some (tyX3 k) := by decide +kernel
abbrev cX3_init : ByteArray := prog_5_method_1_code
def yX3_init : MethodName := ⟨RX3, "<init>", "()V"⟩
abbrev cX3_enter : ByteArray := prog_5_method_2_code
def yX3_enter : MethodName := ⟨RX3, "enter", "(II)I"⟩
abbrev cX3_decide : ByteArray := prog_5_method_3_code
def yX3_decide : MethodName := ⟨RX3, "decide", "(LSmokeWard$Outlook;)V"⟩
def RX4 : String := "SmokeWard$Sensors"
def TX4 : u_T := fun k => match k with
  | 0 => ("SmokeWard$Sensors", "trusts", "[I", true)
  | 1 => ("SmokeWard$Sensors", "places", "[I", true)
  | 2 => ("SmokeWard$Sensors", "hasRead", "[Z", true)
  | 3 => ("SmokeWard$Sensors", "values", "[I", true)
  | 4 => ("SmokeWard$Sensors", "leftOut", "[Z", true)
  | 5 => ("SmokeWard$Sensors", "doubtsInRow", "[I", true)
  | 6 => ("SmokeWard$Sensors", "agreementsInRow", "[I", true)
  | 7 => ("SmokeWard$Sensors", "verdicts", "[I", true)
  | 8 => ("SmokeWard$Sensors", "count", "I", false)
  | _ => ("SmokeWard$Sensors", "smokeMended", "J", false)
def tyX4 : Nat → FieldType := fun k => match k with
  | 0 => .array .int
  | 1 => .array .int
  | 2 => .array .boolean
  | 3 => .array .int
  | 4 => .array .boolean
  | 5 => .array .int
  | 6 => .array .int
  | 7 => .array .int
  | 8 => .int
  | _ => .long
abbrev wsX40 : List Cond := u_ws RX4 TX4 10
theorem nmX4 : ∀ a, a < 10 → ∀ b, b < 10 → a ≠ b → (TX4 a).2.1 ≠ (TX4 b).2.1 := by decide +kernel
theorem tyX4_ok : ∀ k, k < 10 → parseFieldDescriptor (TX4 k).2.2.1 = some (tyX4 k) := by decide +kernel
abbrev cX4_init : ByteArray := prog_6_method_1_code
def yX4_init : MethodName := ⟨RX4, "<init>", "()V"⟩
abbrev cX4_enter : ByteArray := prog_6_method_2_code
def yX4_enter : MethodName := ⟨RX4, "enter", "(I)I"⟩
abbrev cX4_take : ByteArray := prog_6_method_3_code
def yX4_take : MethodName := ⟨RX4, "take", "(II)I"⟩
abbrev cX4_forgetReadings : ByteArray := prog_6_method_4_code
def yX4_forgetReadings : MethodName := ⟨RX4, "forgetReadings", "()V"⟩
abbrev cX4_sign : ByteArray := prog_6_method_5_code
def yX4_sign : MethodName := ⟨RX4, "sign", "(I)C"⟩
abbrev cX4_counting : ByteArray := prog_6_method_6_code
def yX4_counting : MethodName := ⟨RX4, "counting", "()I"⟩
abbrev cX4_meanAround : ByteArray := prog_6_method_7_code
def yX4_meanAround : MethodName := ⟨RX4, "meanAround", "(I)I"⟩
abbrev cX4_isNear : ByteArray := prog_6_method_8_code
def yX4_isNear : MethodName := ⟨RX4, "isNear", "(II)Z"⟩
abbrev cX4_judgeAll : ByteArray := prog_6_method_9_code
def yX4_judgeAll : MethodName := ⟨RX4, "judgeAll", "()V"⟩
abbrev cX4_verdictOn : ByteArray := prog_6_method_10_code
def yX4_verdictOn : MethodName := ⟨RX4, "verdictOn", "(I)I"⟩
abbrev cX4_believe : ByteArray := prog_6_method_11_code
def yX4_believe : MethodName := ⟨RX4, "believe", "(I)V"⟩
abbrev cX4_doubt : ByteArray := prog_6_method_12_code
def yX4_doubt : MethodName := ⟨RX4, "doubt", "(I)V"⟩
abbrev cX4_mendAll : ByteArray := prog_6_method_13_code
def yX4_mendAll : MethodName := ⟨RX4, "mendAll", "(LSmokeWard$Land;)V"⟩
abbrev cX4_trustsAreLike : ByteArray := prog_6_method_14_code
def yX4_trustsAreLike : MethodName := ⟨RX4, "trustsAreLike", "(LSmokeWard$Sensors;)Z"⟩
def RX5 : String := "SmokeWard$Subscribers"
def TX5 : u_T := fun k => match k with
  | 0 => ("SmokeWard$Subscribers", "warned", "[Z", true)
  | 1 => ("SmokeWard$Subscribers", "places", "[I", true)
  | 2 => ("SmokeWard$Subscribers", "bounds", "[I", true)
  | 3 => ("SmokeWard$Subscribers", "firstHours", "[I", true)
  | 4 => ("SmokeWard$Subscribers", "lastHours", "[I", true)
  | 5 => ("SmokeWard$Subscribers", "count", "I", false)
  | 6 => ("SmokeWard$Subscribers", "sentAt", "[I", false)
  | 7 => ("SmokeWard$Subscribers", "sentTo", "[I", false)
  | 8 => ("SmokeWard$Subscribers", "sentBy", "[I", false)
  | _ => ("SmokeWard$Subscribers", "sent", "I", false)
def tyX5 : Nat → FieldType := fun k => match k with
  | 0 => .array .boolean
  | 1 => .array .int
  | 2 => .array .int
  | 3 => .array .int
  | 4 => .array .int
  | 5 => .int
  | 6 => .array .int
  | 7 => .array .int
  | 8 => .array .int
  | _ => .int
abbrev wsX50 : List Cond := u_ws RX5 TX5 10
theorem nmX5 : ∀ a, a < 10 → ∀ b, b < 10 → a ≠ b → (TX5 a).2.1 ≠ (TX5 b).2.1 := by decide +kernel
theorem tyX5_ok : ∀ k, k < 10 → parseFieldDescriptor (TX5 k).2.2.1 = some (tyX5 k) := by decide +kernel
abbrev cX5_init : ByteArray := prog_7_method_1_code
def yX5_init : MethodName := ⟨RX5, "<init>", "()V"⟩
abbrev cX5_enter : ByteArray := prog_7_method_2_code
def yX5_enter : MethodName := ⟨RX5, "enter", "(IIII)I"⟩
abbrev cX5_warnAll : ByteArray := prog_7_method_3_code
def yX5_warnAll : MethodName := ⟨RX5, "warnAll", "(LSmokeWard$Land;II)V"⟩
abbrev cX5_hasHour : ByteArray := prog_7_method_4_code
def yX5_hasHour : MethodName := ⟨RX5, "hasHour", "(II)Z"⟩
abbrev cX5_send : ByteArray := prog_7_method_5_code
def yX5_send : MethodName := ⟨RX5, "send", "(III)V"⟩
abbrev cX5_sentAreLike : ByteArray := prog_7_method_6_code
def yX5_sentAreLike : MethodName := ⟨RX5, "sentAreLike", "(LSmokeWard$Subscribers;)Z"⟩
def RX6 : String := "SmokeWard$World"
def TX6 : u_T := fun k => match k with
  | 0 => ("SmokeWard$World", "land", "LSmokeWard$Land;", true)
  | 1 => ("SmokeWard$World", "outlook", "LSmokeWard$Outlook;", true)
  | 2 => ("SmokeWard$World", "sensors", "LSmokeWard$Sensors;", true)
  | 3 => ("SmokeWard$World", "subscribers", "LSmokeWard$Subscribers;", true)
  | 4 => ("SmokeWard$World", "schools", "LSmokeWard$Schools;", true)
  | _ => ("SmokeWard$World", "hour", "I", false)
def tyX6 : Nat → FieldType := fun k => match k with
  | 0 => .object "SmokeWard$Land"
  | 1 => .object "SmokeWard$Outlook"
  | 2 => .object "SmokeWard$Sensors"
  | 3 => .object "SmokeWard$Subscribers"
  | 4 => .object "SmokeWard$Schools"
  | _ => .int
abbrev wsX60 : List Cond := u_ws RX6 TX6 6
theorem nmX6 : ∀ a, a < 6 → ∀ b, b < 6 → a ≠ b → (TX6 a).2.1 ≠ (TX6 b).2.1 := by decide +kernel
theorem tyX6_ok : ∀ k, k < 6 → parseFieldDescriptor (TX6 k).2.2.1 = some (tyX6 k) := by decide +kernel
abbrev cX6_init : ByteArray := prog_8_method_1_code
def yX6_init : MethodName := ⟨RX6, "<init>", "()V"⟩
abbrev cX6_perform : ByteArray := prog_8_method_2_code
def yX6_perform : MethodName := ⟨RX6, "perform", "(LSmokeWard$Act;)I"⟩
abbrev cX6_runHour : ByteArray := prog_8_method_3_code
def yX6_runHour : MethodName := ⟨RX6, "runHour", "()V"⟩
abbrev cX6_isLike : ByteArray := prog_8_method_4_code
def yX6_isLike : MethodName := ⟨RX6, "isLike", "(LSmokeWard$World;)Z"⟩
def RX7 : String := "SmokeWard"
def TX7 : u_T := fun k => match k with
  | 0 => ("SmokeWard", "now", "LSmokeWard$World;", true)
  | 1 => ("SmokeWard", "again", "LSmokeWard$World;", true)
  | 2 => ("SmokeWard", "acts", "[LSmokeWard$Act;", true)
  | 3 => ("SmokeWard", "actCount", "I", false)
  | _ => ("SmokeWard", "redone", "I", false)
def tyX7 : Nat → FieldType := fun k => match k with
  | 0 => .object "SmokeWard$World"
  | 1 => .object "SmokeWard$World"
  | 2 => .array (.object "SmokeWard$Act")
  | 3 => .int
  | _ => .int
abbrev wsX70 : List Cond := u_ws RX7 TX7 5
theorem nmX7 : ∀ a, a < 5 → ∀ b, b < 5 → a ≠ b → (TX7 a).2.1 ≠ (TX7 b).2.1 := by decide +kernel
theorem tyX7_ok : ∀ k, k < 5 → parseFieldDescriptor (TX7 k).2.2.1 = some (tyX7 k) := by decide +kernel
abbrev cX7_init : ByteArray := prog_1_method_1_code
def yX7_init : MethodName := ⟨RX7, "<init>", "()V"⟩
abbrev cX7_setFuel : ByteArray := prog_1_method_2_code
def yX7_setFuel : MethodName := ⟨RX7, "setFuel", "(III)I"⟩
abbrev cX7_light : ByteArray := prog_1_method_3_code
def yX7_light : MethodName := ⟨RX7, "light", "(III)Z"⟩
abbrev cX7_setWind : ByteArray := prog_1_method_4_code
def yX7_setWind : MethodName := ⟨RX7, "setWind", "(III)I"⟩
abbrev cX7_setRain : ByteArray := prog_1_method_5_code
def yX7_setRain : MethodName := ⟨RX7, "setRain", "(I)I"⟩
abbrev cX7_digLine : ByteArray := prog_1_method_6_code
def yX7_digLine : MethodName := ⟨RX7, "digLine", "(III)I"⟩
abbrev cX7_addSensor : ByteArray := prog_1_method_7_code
def yX7_addSensor : MethodName := ⟨RX7, "addSensor", "(II)I"⟩
abbrev cX7_read : ByteArray := prog_1_method_8_code
def yX7_read : MethodName := ⟨RX7, "read", "(II)I"⟩
abbrev cX7_trust : ByteArray := prog_1_method_9_code
def yX7_trust : MethodName := ⟨RX7, "trust", "(I)I"⟩
abbrev cX7_stateOf : ByteArray := prog_1_method_10_code
def yX7_stateOf : MethodName := ⟨RX7, "stateOf", "(I)C"⟩
abbrev cX7_judged : ByteArray := prog_1_method_11_code
def yX7_judged : MethodName := ⟨RX7, "judged", "(I)I"⟩
abbrev cX7_subscribe : ByteArray := prog_1_method_12_code
def yX7_subscribe : MethodName := ⟨RX7, "subscribe", "(IIIII)I"⟩
abbrev cX7_addSchool : ByteArray := prog_1_method_13_code
def yX7_addSchool : MethodName := ⟨RX7, "addSchool", "(III)I"⟩
abbrev cX7_isOpen : ByteArray := prog_1_method_14_code
def yX7_isOpen : MethodName := ⟨RX7, "isOpen", "(I)Z"⟩
abbrev cX7_isWarned : ByteArray := prog_1_method_15_code
def yX7_isWarned : MethodName := ⟨RX7, "isWarned", "(I)Z"⟩
abbrev cX7_pass : ByteArray := prog_1_method_16_code
def yX7_pass : MethodName := ⟨RX7, "pass", "(I)I"⟩
abbrev cX7_hour : ByteArray := prog_1_method_17_code
def yX7_hour : MethodName := ⟨RX7, "hour", "()I"⟩
abbrev cX7_fuel : ByteArray := prog_1_method_18_code
def yX7_fuel : MethodName := ⟨RX7, "fuel", "(II)I"⟩
abbrev cX7_fire : ByteArray := prog_1_method_19_code
def yX7_fire : MethodName := ⟨RX7, "fire", "(II)I"⟩
abbrev cX7_smoke : ByteArray := prog_1_method_20_code
def yX7_smoke : MethodName := ⟨RX7, "smoke", "(II)I"⟩
abbrev cX7_hasLine : ByteArray := prog_1_method_21_code
def yX7_hasLine : MethodName := ⟨RX7, "hasLine", "(II)Z"⟩
abbrev cX7_left : ByteArray := prog_1_method_22_code
def yX7_left : MethodName := ⟨RX7, "left", "(I)I"⟩
abbrev cX7_forecast : ByteArray := prog_1_method_23_code
def yX7_forecast : MethodName := ⟨RX7, "forecast", "(III)I"⟩
abbrev cX7_worst : ByteArray := prog_1_method_24_code
def yX7_worst : MethodName := ⟨RX7, "worst", "(III)I"⟩
abbrev cX7_warnings : ByteArray := prog_1_method_25_code
def yX7_warnings : MethodName := ⟨RX7, "warnings", "()I"⟩
abbrev cX7_warnedAt : ByteArray := prog_1_method_26_code
def yX7_warnedAt : MethodName := ⟨RX7, "warnedAt", "(I)I"⟩
abbrev cX7_warnedWhom : ByteArray := prog_1_method_27_code
def yX7_warnedWhom : MethodName := ⟨RX7, "warnedWhom", "(I)I"⟩
abbrev cX7_warnedBy : ByteArray := prog_1_method_28_code
def yX7_warnedBy : MethodName := ⟨RX7, "warnedBy", "(I)I"⟩
abbrev cX7_closings : ByteArray := prog_1_method_29_code
def yX7_closings : MethodName := ⟨RX7, "closings", "()I"⟩
abbrev cX7_made : ByteArray := prog_1_method_30_code
def yX7_made : MethodName := ⟨RX7, "made", "()J"⟩
abbrev cX7_blown : ByteArray := prog_1_method_31_code
def yX7_blown : MethodName := ⟨RX7, "blown", "()J"⟩
abbrev cX7_settled : ByteArray := prog_1_method_32_code
def yX7_settled : MethodName := ⟨RX7, "settled", "()J"⟩
abbrev cX7_mended : ByteArray := prog_1_method_33_code
def yX7_mended : MethodName := ⟨RX7, "mended", "()J"⟩
abbrev cX7_trustShare : ByteArray := prog_1_method_34_code
def yX7_trustShare : MethodName := ⟨RX7, "trustShare", "()F"⟩
abbrev cX7_meanSmoke : ByteArray := prog_1_method_35_code
def yX7_meanSmoke : MethodName := ⟨RX7, "meanSmoke", "()D"⟩
abbrev cX7_isKept : ByteArray := prog_1_method_36_code
def yX7_isKept : MethodName := ⟨RX7, "isKept", "()Z"⟩
abbrev cX7_isSame : ByteArray := prog_1_method_37_code
def yX7_isSame : MethodName := ⟨RX7, "isSame", "()Z"⟩
abbrev cX7_isCell : ByteArray := prog_1_method_38_code
def yX7_isCell : MethodName := ⟨RX7, "isCell", "(II)Z"⟩
abbrev cX7_placeOf : ByteArray := prog_1_method_39_code
def yX7_placeOf : MethodName := ⟨RX7, "placeOf", "(II)I"⟩
abbrev cX7_checkNumber : ByteArray := prog_1_method_40_code
def yX7_checkNumber : MethodName := ⟨RX7, "checkNumber", "(II)V"⟩
abbrev cX7_checkRange : ByteArray := prog_1_method_41_code
def yX7_checkRange : MethodName := ⟨RX7, "checkRange", "(III)V"⟩
abbrev cX7_checkRoom : ByteArray := prog_1_method_42_code
def yX7_checkRoom : MethodName := ⟨RX7, "checkRoom", "(II)V"⟩
abbrev cX7_noted : ByteArray := prog_1_method_43_code
def yX7_noted : MethodName := ⟨RX7, "noted", "(IIIII)LSmokeWard$Act;"⟩
def RX8 : String := "SmokeWardModel$Land"
def TX8 : u_T := fun k => match k with
  | 0 => ("SmokeWardModel$Land", "fuels", "[I", true)
  | 1 => ("SmokeWardModel$Land", "crewLeft", "[I", true)
  | 2 => ("SmokeWardModel$Land", "crewAt", "[I", true)
  | 3 => ("SmokeWardModel$Land", "fires", "[I", false)
  | 4 => ("SmokeWardModel$Land", "smokes", "[I", false)
  | 5 => ("SmokeWardModel$Land", "lines", "[Z", true)
  | 6 => ("SmokeWardModel$Land", "dx", "I", false)
  | 7 => ("SmokeWardModel$Land", "dy", "I", false)
  | 8 => ("SmokeWardModel$Land", "strength", "I", false)
  | 9 => ("SmokeWardModel$Land", "rain", "I", false)
  | 10 => ("SmokeWardModel$Land", "made", "J", false)
  | 11 => ("SmokeWardModel$Land", "blown", "J", false)
  | _ => ("SmokeWardModel$Land", "settled", "J", false)
def tyX8 : Nat → FieldType := fun k => match k with
  | 0 => .array .int
  | 1 => .array .int
  | 2 => .array .int
  | 3 => .array .int
  | 4 => .array .int
  | 5 => .array .boolean
  | 6 => .int
  | 7 => .int
  | 8 => .int
  | 9 => .int
  | 10 => .long
  | 11 => .long
  | _ => .long
abbrev wsX80 : List Cond := u_ws RX8 TX8 13
theorem nmX8 : ∀ a, a < 13 → ∀ b, b < 13 → a ≠ b → (TX8 a).2.1 ≠ (TX8 b).2.1 := by decide +kernel
theorem tyX8_ok : ∀ k, k < 13 → parseFieldDescriptor (TX8 k).2.2.1 = some (tyX8 k) := by decide +kernel
abbrev cX8_init : ByteArray := prog_11_method_1_code
def yX8_init : MethodName := ⟨RX8, "<init>", "()V"⟩
abbrev cX8_init_ : ByteArray := prog_11_method_2_code
def yX8_init_ : MethodName := ⟨RX8, "<init>", "(LSmokeWardModel$Land;)V"⟩
abbrev cX8_dig : ByteArray := prog_11_method_3_code
def yX8_dig : MethodName := ⟨RX8, "dig", "()V"⟩
abbrev cX8_burn : ByteArray := prog_11_method_4_code
def yX8_burn : MethodName := ⟨RX8, "burn", "()V"⟩
abbrev cX8_fireAt : ByteArray := prog_11_method_5_code
def yX8_fireAt : MethodName := ⟨RX8, "fireAt", "(II)I"⟩
abbrev cX8_spread : ByteArray := prog_11_method_6_code
def yX8_spread : MethodName := ⟨RX8, "spread", "()V"⟩
abbrev cX8_carry : ByteArray := prog_11_method_7_code
def yX8_carry : MethodName := ⟨RX8, "carry", "()V"⟩
abbrev cX8_settle : ByteArray := prog_11_method_8_code
def yX8_settle : MethodName := ⟨RX8, "settle", "()V"⟩
abbrev cX8_hour : ByteArray := prog_11_method_9_code
def yX8_hour : MethodName := ⟨RX8, "hour", "()V"⟩
def RX9 : String := "SmokeWardModel$School"
def TX9 : u_T := fun k => match k with
  | 0 => ("SmokeWardModel$School", "at", "I", true)
  | 1 => ("SmokeWardModel$School", "bound", "I", true)
  | _ => ("SmokeWardModel$School", "isClosed", "Z", false)
def tyX9 : Nat → FieldType := fun k => match k with
  | 0 => .int
  | 1 => .int
  | _ => .boolean
abbrev wsX90 : List Cond := u_ws RX9 TX9 3
theorem nmX9 : ∀ a, a < 3 → ∀ b, b < 3 → a ≠ b → (TX9 a).2.1 ≠ (TX9 b).2.1 := by decide +kernel
theorem tyX9_ok : ∀ k, k < 3 → parseFieldDescriptor (TX9 k).2.2.1 = some (tyX9 k) := by decide +kernel
abbrev cX9_init : ByteArray := prog_12_method_1_code
def yX9_init : MethodName := ⟨RX9, "<init>", "(II)V"⟩
def RX10 : String := "SmokeWardModel$Sensor"
def TX10 : u_T := fun k => match k with
  | 0 => ("SmokeWardModel$Sensor", "x", "I", true)
  | 1 => ("SmokeWardModel$Sensor", "y", "I", true)
  | 2 => ("SmokeWardModel$Sensor", "trust", "I", false)
  | 3 => ("SmokeWardModel$Sensor", "value", "I", false)
  | 4 => ("SmokeWardModel$Sensor", "row", "I", false)
  | 5 => ("SmokeWardModel$Sensor", "isOut", "Z", false)
  | _ => ("SmokeWardModel$Sensor", "wasDoubted", "Z", false)
def tyX10 : Nat → FieldType := fun k => match k with
  | 0 => .int
  | 1 => .int
  | 2 => .int
  | 3 => .int
  | 4 => .int
  | 5 => .boolean
  | _ => .boolean
abbrev wsX100 : List Cond := u_ws RX10 TX10 7
theorem nmX10 : ∀ a, a < 7 → ∀ b, b < 7 → a ≠ b → (TX10 a).2.1 ≠ (TX10 b).2.1 := by decide +kernel
theorem tyX10_ok : ∀ k, k < 7 → parseFieldDescriptor (TX10 k).2.2.1 = some (tyX10 k) := by decide +kernel
abbrev cX10_init : ByteArray := prog_13_method_1_code
def yX10_init : MethodName := ⟨RX10, "<init>", "(II)V"⟩
abbrev cX10_hasRead : ByteArray := prog_13_method_2_code
def yX10_hasRead : MethodName := ⟨RX10, "hasRead", "()Z"⟩
def RX11 : String := "SmokeWardModel$Subscriber"
def TX11 : u_T := fun k => match k with
  | 0 => ("SmokeWardModel$Subscriber", "at", "I", true)
  | 1 => ("SmokeWardModel$Subscriber", "bound", "I", true)
  | 2 => ("SmokeWardModel$Subscriber", "from", "I", true)
  | 3 => ("SmokeWardModel$Subscriber", "till", "I", true)
  | _ => ("SmokeWardModel$Subscriber", "isWarned", "Z", false)
def tyX11 : Nat → FieldType := fun k => match k with
  | 0 => .int
  | 1 => .int
  | 2 => .int
  | 3 => .int
  | _ => .boolean
abbrev wsX110 : List Cond := u_ws RX11 TX11 5
theorem nmX11 : ∀ a, a < 5 → ∀ b, b < 5 → a ≠ b → (TX11 a).2.1 ≠ (TX11 b).2.1 := by decide +kernel
theorem tyX11_ok : ∀ k, k < 5 → parseFieldDescriptor (TX11 k).2.2.1 = some (tyX11 k) := by decide +kernel
abbrev cX11_init : ByteArray := prog_14_method_1_code
def yX11_init : MethodName := ⟨RX11, "<init>", "(IIII)V"⟩
abbrev cX11_has : ByteArray := prog_14_method_2_code
def yX11_has : MethodName := ⟨RX11, "has", "(I)Z"⟩
def RX12 : String := "SmokeWardModel"
def TX12 : u_T := fun k => match k with
  | 0 => ("SmokeWardModel", "thrown", "I", false)
  | 1 => ("SmokeWardModel", "land", "LSmokeWardModel$Land;", true)
  | 2 => ("SmokeWardModel", "hour", "I", false)
  | 3 => ("SmokeWardModel", "mended", "J", false)
  | 4 => ("SmokeWardModel", "sensors", "Ljava/util/List;", true)
  | 5 => ("SmokeWardModel", "subscribers", "Ljava/util/List;", true)
  | 6 => ("SmokeWardModel", "schools", "Ljava/util/List;", true)
  | 7 => ("SmokeWardModel", "warnings", "Ljava/util/List;", true)
  | _ => ("SmokeWardModel", "closings", "I", false)
def tyX12 : Nat → FieldType := fun k => match k with
  | 0 => .int
  | 1 => .object "SmokeWardModel$Land"
  | 2 => .int
  | 3 => .long
  | 4 => .object "java/util/List"
  | 5 => .object "java/util/List"
  | 6 => .object "java/util/List"
  | 7 => .object "java/util/List"
  | _ => .int
abbrev wsX120 : List Cond := u_ws RX12 TX12 9
theorem nmX12 : ∀ a, a < 9 → ∀ b, b < 9 → a ≠ b → (TX12 a).2.1 ≠ (TX12 b).2.1 := by decide +kernel
theorem tyX12_ok : ∀ k, k < 9 → parseFieldDescriptor (TX12 k).2.2.1 = some (tyX12 k) := by decide +kernel
abbrev cX12_init : ByteArray := prog_10_method_1_code
def yX12_init : MethodName := ⟨RX12, "<init>", "()V"⟩
abbrev cX12_isWrong : ByteArray := prog_10_method_3_code
def yX12_isWrong : MethodName := ⟨RX12, "isWrong", "(I)Z"⟩
abbrev cX12_isBetween : ByteArray := prog_10_method_4_code
def yX12_isBetween : MethodName := ⟨RX12, "isBetween", "(III)Z"⟩
abbrev cX12_isCell : ByteArray := prog_10_method_5_code
def yX12_isCell : MethodName := ⟨RX12, "isCell", "(II)Z"⟩
abbrev cX12_isCrew : ByteArray := prog_10_method_6_code
def yX12_isCrew : MethodName := ⟨RX12, "isCrew", "(I)Z"⟩
abbrev cX12_at : ByteArray := prog_10_method_7_code
def yX12_at : MethodName := ⟨RX12, "at", "(II)I"⟩
abbrev cX12_setFuel : ByteArray := prog_10_method_8_code
def yX12_setFuel : MethodName := ⟨RX12, "setFuel", "(III)I"⟩
abbrev cX12_light : ByteArray := prog_10_method_9_code
def yX12_light : MethodName := ⟨RX12, "light", "(III)Z"⟩
abbrev cX12_setWind : ByteArray := prog_10_method_10_code
def yX12_setWind : MethodName := ⟨RX12, "setWind", "(III)I"⟩
abbrev cX12_setRain : ByteArray := prog_10_method_11_code
def yX12_setRain : MethodName := ⟨RX12, "setRain", "(I)I"⟩
abbrev cX12_digLine : ByteArray := prog_10_method_12_code
def yX12_digLine : MethodName := ⟨RX12, "digLine", "(III)I"⟩
abbrev cX12_isSensor : ByteArray := prog_10_method_13_code
def yX12_isSensor : MethodName := ⟨RX12, "isSensor", "(I)Z"⟩
abbrev cX12_addSensor : ByteArray := prog_10_method_14_code
def yX12_addSensor : MethodName := ⟨RX12, "addSensor", "(II)I"⟩
abbrev cX12_read : ByteArray := prog_10_method_15_code
def yX12_read : MethodName := ⟨RX12, "read", "(II)I"⟩
abbrev cX12_trust : ByteArray := prog_10_method_16_code
def yX12_trust : MethodName := ⟨RX12, "trust", "(I)I"⟩
abbrev cX12_stateOf : ByteArray := prog_10_method_17_code
def yX12_stateOf : MethodName := ⟨RX12, "stateOf", "(I)C"⟩
abbrev cX12_meanOf : ByteArray := prog_10_method_18_code
def yX12_meanOf : MethodName := ⟨RX12, "meanOf", "(LSmokeWardModel$Sensor;)I"⟩
abbrev cX12_judged : ByteArray := prog_10_method_19_code
def yX12_judged : MethodName := ⟨RX12, "judged", "(I)I"⟩
abbrev cX12_judge : ByteArray := prog_10_method_20_code
def yX12_judge : MethodName := ⟨RX12, "judge", "()V"⟩
abbrev cX12_judge_ : ByteArray := prog_10_method_21_code
def yX12_judge_ : MethodName := ⟨RX12, "judge", "(LSmokeWardModel$Sensor;I)V"⟩
abbrev cX12_mend : ByteArray := prog_10_method_22_code
def yX12_mend : MethodName := ⟨RX12, "mend", "()V"⟩
abbrev cX12_subscribe : ByteArray := prog_10_method_23_code
def yX12_subscribe : MethodName := ⟨RX12, "subscribe", "(IIIII)I"⟩
abbrev cX12_addSchool : ByteArray := prog_10_method_24_code
def yX12_addSchool : MethodName := ⟨RX12, "addSchool", "(III)I"⟩
abbrev cX12_isOpen : ByteArray := prog_10_method_25_code
def yX12_isOpen : MethodName := ⟨RX12, "isOpen", "(I)Z"⟩
abbrev cX12_isWarned : ByteArray := prog_10_method_26_code
def yX12_isWarned : MethodName := ⟨RX12, "isWarned", "(I)Z"⟩
abbrev cX12_warn : ByteArray := prog_10_method_27_code
def yX12_warn : MethodName := ⟨RX12, "warn", "()V"⟩
abbrev cX12_close : ByteArray := prog_10_method_28_code
def yX12_close : MethodName := ⟨RX12, "close", "()V"⟩
abbrev cX12_pass : ByteArray := prog_10_method_29_code
def yX12_pass : MethodName := ⟨RX12, "pass", "(I)I"⟩
abbrev cX12_hour : ByteArray := prog_10_method_30_code
def yX12_hour : MethodName := ⟨RX12, "hour", "()I"⟩
abbrev cX12_isNoCell : ByteArray := prog_10_method_31_code
def yX12_isNoCell : MethodName := ⟨RX12, "isNoCell", "(II)Z"⟩
abbrev cX12_fuel : ByteArray := prog_10_method_32_code
def yX12_fuel : MethodName := ⟨RX12, "fuel", "(II)I"⟩
abbrev cX12_fire : ByteArray := prog_10_method_33_code
def yX12_fire : MethodName := ⟨RX12, "fire", "(II)I"⟩
abbrev cX12_smoke : ByteArray := prog_10_method_34_code
def yX12_smoke : MethodName := ⟨RX12, "smoke", "(II)I"⟩
abbrev cX12_hasLine : ByteArray := prog_10_method_35_code
def yX12_hasLine : MethodName := ⟨RX12, "hasLine", "(II)Z"⟩
abbrev cX12_left : ByteArray := prog_10_method_36_code
def yX12_left : MethodName := ⟨RX12, "left", "(I)I"⟩
abbrev cX12_worstOf : ByteArray := prog_10_method_37_code
def yX12_worstOf : MethodName := ⟨RX12, "worstOf", "(II)I"⟩
abbrev cX12_forecast : ByteArray := prog_10_method_38_code
def yX12_forecast : MethodName := ⟨RX12, "forecast", "(III)I"⟩
abbrev cX12_worst : ByteArray := prog_10_method_39_code
def yX12_worst : MethodName := ⟨RX12, "worst", "(III)I"⟩
abbrev cX12_warnings : ByteArray := prog_10_method_40_code
def yX12_warnings : MethodName := ⟨RX12, "warnings", "()I"⟩
abbrev cX12_warned : ByteArray := prog_10_method_41_code
def yX12_warned : MethodName := ⟨RX12, "warned", "(II)I"⟩
abbrev cX12_warnedAt : ByteArray := prog_10_method_42_code
def yX12_warnedAt : MethodName := ⟨RX12, "warnedAt", "(I)I"⟩
abbrev cX12_warnedWhom : ByteArray := prog_10_method_43_code
def yX12_warnedWhom : MethodName := ⟨RX12, "warnedWhom", "(I)I"⟩
abbrev cX12_warnedBy : ByteArray := prog_10_method_44_code
def yX12_warnedBy : MethodName := ⟨RX12, "warnedBy", "(I)I"⟩
abbrev cX12_closings : ByteArray := prog_10_method_45_code
def yX12_closings : MethodName := ⟨RX12, "closings", "()I"⟩
abbrev cX12_made : ByteArray := prog_10_method_46_code
def yX12_made : MethodName := ⟨RX12, "made", "()J"⟩
abbrev cX12_blown : ByteArray := prog_10_method_47_code
def yX12_blown : MethodName := ⟨RX12, "blown", "()J"⟩
abbrev cX12_settled : ByteArray := prog_10_method_48_code
def yX12_settled : MethodName := ⟨RX12, "settled", "()J"⟩
abbrev cX12_mended : ByteArray := prog_10_method_49_code
def yX12_mended : MethodName := ⟨RX12, "mended", "()J"⟩
abbrev cX12_trustShare : ByteArray := prog_10_method_50_code
def yX12_trustShare : MethodName := ⟨RX12, "trustShare", "()F"⟩
abbrev cX12_meanSmoke : ByteArray := prog_10_method_51_code
def yX12_meanSmoke : MethodName := ⟨RX12, "meanSmoke", "()D"⟩
abbrev cX12_isKept : ByteArray := prog_10_method_52_code
def yX12_isKept : MethodName := ⟨RX12, "isKept", "()Z"⟩
abbrev cX12_isSame : ByteArray := prog_10_method_53_code
def yX12_isSame : MethodName := ⟨RX12, "isSame", "()Z"⟩
def RJx145de : String := "java/io/Serializable"
def TJx145de : u_T := fun k => match k with
  | _ => ("", "", "", false)
def tyJx145de : Nat → FieldType := fun k => match k with
  | _ => .int
abbrev wsJx145de0 : List Cond := u_ws RJx145de TJx145de 0
theorem nmJx145de : ∀ a, a < 0 → ∀ b, b < 0 → a ≠ b → (TJx145de a).2.1 ≠ (TJx145de b).2.1 := by decide +kernel
theorem tyJx145de_ok : ∀ k, k < 0 → parseFieldDescriptor (TJx145de k).2.2.1 = some (tyJx145de k) := by decide +kernel
def RJx00060 : String := "java/lang/ArrayIndexOutOfBoundsException"
def TJx00060 : u_T := fun k => match k with
  | 0 => ("java/lang/Throwable", "backtrace", "Ljava/lang/Object;", false)
  | 1 => ("java/lang/Throwable", "detailMessage", "Ljava/lang/String;", false)
  | 2 => ("java/lang/Throwable", "cause", "Ljava/lang/Throwable;", false)
  | 3 => ("java/lang/Throwable", "stackTrace", "[Ljava/lang/StackTraceElement;", false)
  | 4 => ("java/lang/Throwable", "depth", "I", false)
  | _ => ("java/lang/Throwable", "suppressedExceptions", "Ljava/util/List;", false)
def tyJx00060 : Nat → FieldType := fun k => match k with
  | 0 => .object "java/lang/Object"
  | 1 => .object "java/lang/String"
  | 2 => .object "java/lang/Throwable"
  | 3 => .array (.object "java/lang/StackTraceElement")
  | 4 => .int
  | _ => .object "java/util/List"
abbrev wsJx000600 : List Cond := u_ws RJx00060 TJx00060 6
theorem nmJx00060 : ∀ a, a < 6 → ∀ b, b < 6 → a ≠ b → (TJx00060 a).2.1 ≠ (TJx00060 b).2.1 := by decide +kernel
theorem tyJx00060_ok : ∀ k, k < 6 → parseFieldDescriptor (TJx00060 k).2.2.1 = some (tyJx00060 k) := by decide +kernel
abbrev cJx00060_init_a7421 : ByteArray := prog_17_method_2_code
def yJx00060_init_a7421 : MethodName := ⟨RJx00060, "<init>", "(Ljava/lang/String;)V"⟩
def RJx8e188 : String := "java/lang/Cloneable"
def TJx8e188 : u_T := fun k => match k with
  | _ => ("", "", "", false)
def tyJx8e188 : Nat → FieldType := fun k => match k with
  | _ => .int
abbrev wsJx8e1880 : List Cond := u_ws RJx8e188 TJx8e188 0
theorem nmJx8e188 : ∀ a, a < 0 → ∀ b, b < 0 → a ≠ b → (TJx8e188 a).2.1 ≠ (TJx8e188 b).2.1 := by decide +kernel
theorem tyJx8e188_ok : ∀ k, k < 0 → parseFieldDescriptor (TJx8e188 k).2.2.1 = some (tyJx8e188 k) := by decide +kernel
def RJxab1ab : String := "java/lang/Iterable"
def TJxab1ab : u_T := fun k => match k with
  | _ => ("", "", "", false)
def tyJxab1ab : Nat → FieldType := fun k => match k with
  | _ => .int
abbrev wsJxab1ab0 : List Cond := u_ws RJxab1ab TJxab1ab 0
theorem nmJxab1ab : ∀ a, a < 0 → ∀ b, b < 0 → a ≠ b → (TJxab1ab a).2.1 ≠ (TJxab1ab b).2.1 := by decide +kernel
theorem tyJxab1ab_ok : ∀ k, k < 0 → parseFieldDescriptor (TJxab1ab k).2.2.1 = some (tyJxab1ab k) := by decide +kernel
def RJ9 : String := "java/lang/Math"
def TJ9 : u_T := fun k => match k with
  | _ => ("", "", "", false)
def tyJ9 : Nat → FieldType := fun k => match k with
  | _ => .int
abbrev wsJ90 : List Cond := u_ws RJ9 TJ9 0
theorem nmJ9 : ∀ a, a < 0 → ∀ b, b < 0 → a ≠ b → (TJ9 a).2.1 ≠ (TJ9 b).2.1 := by decide +kernel
theorem tyJ9_ok : ∀ k, k < 0 → parseFieldDescriptor (TJ9 k).2.2.1 = some (tyJ9 k) := by decide +kernel
abbrev cJ9_abs_0f7a4 : ByteArray := prog_24_method_59_code
def yJ9_abs_0f7a4 : MethodName := ⟨RJ9, "abs", "(I)I"⟩
abbrev cJ9_max_7cf53 : ByteArray := prog_24_method_65_code
def yJ9_max_7cf53 : MethodName := ⟨RJ9, "max", "(II)I"⟩
abbrev cJ9_min_7cf53 : ByteArray := prog_24_method_69_code
def yJ9_min_7cf53 : MethodName := ⟨RJ9, "min", "(II)I"⟩
def RJ0 : String := "java/lang/String"
def TJ0 : u_T := fun k => match k with
  | 0 => ("java/lang/String", "value", "[B", true)
  | _ => ("java/lang/String", "coder", "B", true)
def tyJ0 : Nat → FieldType := fun k => match k with
  | 0 => .array .byte
  | _ => .byte
abbrev wsJ00 : List Cond := u_ws RJ0 TJ0 2
theorem nmJ0 : ∀ a, a < 2 → ∀ b, b < 2 → a ≠ b → (TJ0 a).2.1 ≠ (TJ0 b).2.1 := by decide +kernel
theorem tyJ0_ok : ∀ k, k < 2 → parseFieldDescriptor (TJ0 k).2.2.1 = some (tyJ0 k) := by decide +kernel
def RJ10 : String := "java/lang/System"
def TJ10 : u_T := fun k => match k with
  | _ => ("", "", "", false)
def tyJ10 : Nat → FieldType := fun k => match k with
  | _ => .int
abbrev wsJ100 : List Cond := u_ws RJ10 TJ10 0
theorem nmJ10 : ∀ a, a < 0 → ∀ b, b < 0 → a ≠ b → (TJ10 a).2.1 ≠ (TJ10 b).2.1 := by decide +kernel
theorem tyJ10_ok : ∀ k, k < 0 → parseFieldDescriptor (TJ10 k).2.2.1 = some (tyJ10 k) := by decide +kernel
def RJxa1e45 : String := "java/util/AbstractCollection"
def TJxa1e45 : u_T := fun k => match k with
  | _ => ("", "", "", false)
def tyJxa1e45 : Nat → FieldType := fun k => match k with
  | _ => .int
abbrev wsJxa1e450 : List Cond := u_ws RJxa1e45 TJxa1e45 0
theorem nmJxa1e45 : ∀ a, a < 0 → ∀ b, b < 0 → a ≠ b → (TJxa1e45 a).2.1 ≠ (TJxa1e45 b).2.1 := by decide +kernel
theorem tyJxa1e45_ok : ∀ k, k < 0 → parseFieldDescriptor (TJxa1e45 k).2.2.1 = some (tyJxa1e45 k) := by decide +kernel
abbrev cJxa1e45_init_da8c8 : ByteArray := prog_30_method_1_code
def yJxa1e45_init_da8c8 : MethodName := ⟨RJxa1e45, "<init>", "()V"⟩
def RJxc12de : String := "java/util/AbstractList"
def TJxc12de : u_T := fun k => match k with
  | _ => ("", "", "", false)
def tyJxc12de : Nat → FieldType := fun k => match k with
  | _ => .int
abbrev wsJxc12de0 : List Cond := u_ws RJxc12de TJxc12de 0
theorem nmJxc12de : ∀ a, a < 0 → ∀ b, b < 0 → a ≠ b → (TJxc12de a).2.1 ≠ (TJxc12de b).2.1 := by decide +kernel
theorem tyJxc12de_ok : ∀ k, k < 0 → parseFieldDescriptor (TJxc12de k).2.2.1 = some (tyJxc12de k) := by decide +kernel
abbrev cJxc12de_init_da8c8 : ByteArray := prog_31_method_1_code
def yJxc12de_init_da8c8 : MethodName := ⟨RJxc12de, "<init>", "()V"⟩
def RJx35411 : String := "java/util/ArrayList$Itr"
def TJx35411 : u_T := fun k => match k with
  | 0 => ("java/util/ArrayList$Itr", "cursor", "I", false)
  | 1 => ("java/util/ArrayList$Itr", "lastRet", "I", false)
  | 2 => ("java/util/ArrayList$Itr", "expectedModCount", "I", false)
  | _ => ("java/util/ArrayList$Itr", "this$0", "Ljava/util/ArrayList;", true)
def tyJx35411 : Nat → FieldType := fun k => match k with
  | 0 => .int
  | 1 => .int
  | 2 => .int
  | _ => .object "java/util/ArrayList"
abbrev wsJx354110 : List Cond := u_ws RJx35411 TJx35411 4
theorem nmJx35411 : ∀ a, a < 4 → ∀ b, b < 4 → a ≠ b → (TJx35411 a).2.1 ≠ (TJx35411 b).2.1 := by decide +kernel
theorem tyJx35411_ok : ∀ k, k < 4 → parseFieldDescriptor (TJx35411 k).2.2.1 = some (tyJx35411 k) := by decide +kernel
abbrev cJx35411_init_45d68 : ByteArray := prog_33_method_1_code
def yJx35411_init_45d68 : MethodName := ⟨RJx35411, "<init>", "(Ljava/util/ArrayList;)V"⟩
abbrev cJx35411_hasNext_aae02 : ByteArray := prog_33_method_2_code
def yJx35411_hasNext_aae02 : MethodName := ⟨RJx35411, "hasNext", "()Z"⟩
abbrev cJx35411_next_0502b : ByteArray := prog_33_method_3_code
def yJx35411_next_0502b : MethodName := ⟨RJx35411, "next", "()Ljava/lang/Object;"⟩
abbrev cJx35411_checkForComodification_da8c8 : ByteArray := prog_33_method_6_code
def yJx35411_checkForComodification_da8c8 : MethodName := ⟨RJx35411, "checkForComodification", "()V"⟩
def RJx4a65c : String := "java/util/ArrayList"
def TJx4a65c : u_T := fun k => match k with
  | 0 => ("java/util/AbstractList", "modCount", "I", false)
  | 1 => ("java/util/ArrayList", "elementData", "[Ljava/lang/Object;", false)
  | _ => ("java/util/ArrayList", "size", "I", false)
def tyJx4a65c : Nat → FieldType := fun k => match k with
  | 0 => .int
  | 1 => .array (.object "java/lang/Object")
  | _ => .int
abbrev wsJx4a65c0 : List Cond := u_ws RJx4a65c TJx4a65c 3
theorem nmJx4a65c : ∀ a, a < 3 → ∀ b, b < 3 → a ≠ b → (TJx4a65c a).2.1 ≠ (TJx4a65c b).2.1 := by decide +kernel
theorem tyJx4a65c_ok : ∀ k, k < 3 → parseFieldDescriptor (TJx4a65c k).2.2.1 = some (tyJx4a65c k) := by decide +kernel
abbrev cJx4a65c_init_da8c8 : ByteArray := prog_32_method_2_code
def yJx4a65c_init_da8c8 : MethodName := ⟨RJx4a65c, "<init>", "()V"⟩
abbrev cJx4a65c_grow_92f84 : ByteArray := prog_32_method_6_code
def yJx4a65c_grow_92f84 : MethodName := ⟨RJx4a65c, "grow", "(I)[Ljava/lang/Object;"⟩
abbrev cJx4a65c_grow_d5877 : ByteArray := prog_32_method_7_code
def yJx4a65c_grow_d5877 : MethodName := ⟨RJx4a65c, "grow", "()[Ljava/lang/Object;"⟩
abbrev cJx4a65c_size_8abf5 : ByteArray := prog_32_method_8_code
def yJx4a65c_size_8abf5 : MethodName := ⟨RJx4a65c, "size", "()I"⟩
abbrev cJx4a65c_isEmpty_aae02 : ByteArray := prog_32_method_9_code
def yJx4a65c_isEmpty_aae02 : MethodName := ⟨RJx4a65c, "isEmpty", "()Z"⟩
abbrev cJx4a65c_elementData_915e3 : ByteArray := prog_32_method_18_code
def yJx4a65c_elementData_915e3 : MethodName := ⟨RJx4a65c, "elementData", "(I)Ljava/lang/Object;"⟩
abbrev cJx4a65c_get_915e3 : ByteArray := prog_32_method_20_code
def yJx4a65c_get_915e3 : MethodName := ⟨RJx4a65c, "get", "(I)Ljava/lang/Object;"⟩
abbrev cJx4a65c_add_72be8 : ByteArray := prog_32_method_24_code
def yJx4a65c_add_72be8 : MethodName := ⟨RJx4a65c, "add", "(Ljava/lang/Object;[Ljava/lang/Object;I)V"⟩
abbrev cJx4a65c_add_9ea2d : ByteArray := prog_32_method_25_code
def yJx4a65c_add_9ea2d : MethodName := ⟨RJx4a65c, "add", "(Ljava/lang/Object;)Z"⟩
abbrev cJx4a65c_iterator_32c93 : ByteArray := prog_32_method_55_code
def yJx4a65c_iterator_32c93 : MethodName := ⟨RJx4a65c, "iterator", "()Ljava/util/Iterator;"⟩
def RJ7 : String := "java/util/Arrays"
def TJ7 : u_T := fun k => match k with
  | _ => ("", "", "", false)
def tyJ7 : Nat → FieldType := fun k => match k with
  | _ => .int
abbrev wsJ70 : List Cond := u_ws RJ7 TJ7 0
theorem nmJ7 : ∀ a, a < 0 → ∀ b, b < 0 → a ≠ b → (TJ7 a).2.1 ≠ (TJ7 b).2.1 := by decide +kernel
theorem tyJ7_ok : ∀ k, k < 0 → parseFieldDescriptor (TJ7 k).2.2.1 = some (tyJ7 k) := by decide +kernel
abbrev cJ7_fill_53178 : ByteArray := prog_34_method_103_code
def yJ7_fill_53178 : MethodName := ⟨RJ7, "fill", "([II)V"⟩
abbrev cJ7_copyOf_1904c : ByteArray := prog_34_method_119_code
def yJ7_copyOf_1904c : MethodName := ⟨RJ7, "copyOf", "([Ljava/lang/Object;I)[Ljava/lang/Object;"⟩
abbrev cJ7_copyOf_6403c : ByteArray := prog_34_method_120_code
def yJ7_copyOf_6403c : MethodName := ⟨RJ7, "copyOf", "([Ljava/lang/Object;ILjava/lang/Class;)[Ljava/lang/Object;"⟩
abbrev cJ7_copyOf_59c91 : ByteArray := prog_34_method_123_code
def yJ7_copyOf_59c91 : MethodName := ⟨RJ7, "copyOf", "([II)[I"⟩
def RJx5ef63 : String := "java/util/Collection"
def TJx5ef63 : u_T := fun k => match k with
  | _ => ("", "", "", false)
def tyJx5ef63 : Nat → FieldType := fun k => match k with
  | _ => .int
abbrev wsJx5ef630 : List Cond := u_ws RJx5ef63 TJx5ef63 0
theorem nmJx5ef63 : ∀ a, a < 0 → ∀ b, b < 0 → a ≠ b → (TJx5ef63 a).2.1 ≠ (TJx5ef63 b).2.1 := by decide +kernel
theorem tyJx5ef63_ok : ∀ k, k < 0 → parseFieldDescriptor (TJx5ef63 k).2.2.1 = some (tyJx5ef63 k) := by decide +kernel
def RJx4d0d8 : String := "java/util/Iterator"
def TJx4d0d8 : u_T := fun k => match k with
  | _ => ("", "", "", false)
def tyJx4d0d8 : Nat → FieldType := fun k => match k with
  | _ => .int
abbrev wsJx4d0d80 : List Cond := u_ws RJx4d0d8 TJx4d0d8 0
theorem nmJx4d0d8 : ∀ a, a < 0 → ∀ b, b < 0 → a ≠ b → (TJx4d0d8 a).2.1 ≠ (TJx4d0d8 b).2.1 := by decide +kernel
theorem tyJx4d0d8_ok : ∀ k, k < 0 → parseFieldDescriptor (TJx4d0d8 k).2.2.1 = some (tyJx4d0d8 k) := by decide +kernel
def RJxbd725 : String := "java/util/List"
def TJxbd725 : u_T := fun k => match k with
  | _ => ("", "", "", false)
def tyJxbd725 : Nat → FieldType := fun k => match k with
  | _ => .int
abbrev wsJxbd7250 : List Cond := u_ws RJxbd725 TJxbd725 0
theorem nmJxbd725 : ∀ a, a < 0 → ∀ b, b < 0 → a ≠ b → (TJxbd725 a).2.1 ≠ (TJxbd725 b).2.1 := by decide +kernel
theorem tyJxbd725_ok : ∀ k, k < 0 → parseFieldDescriptor (TJxbd725 k).2.2.1 = some (tyJxbd725 k) := by decide +kernel
def RJ15 : String := "java/util/Objects"
def TJ15 : u_T := fun k => match k with
  | _ => ("", "", "", false)
def tyJ15 : Nat → FieldType := fun k => match k with
  | _ => .int
abbrev wsJ150 : List Cond := u_ws RJ15 TJ15 0
theorem nmJ15 : ∀ a, a < 0 → ∀ b, b < 0 → a ≠ b → (TJ15 a).2.1 ≠ (TJ15 b).2.1 := by decide +kernel
theorem tyJ15_ok : ∀ k, k < 0 → parseFieldDescriptor (TJ15 k).2.2.1 = some (tyJ15 k) := by decide +kernel
abbrev cJ15_checkIndex_7cf53 : ByteArray := prog_38_method_17_code
def yJ15_checkIndex_7cf53 : MethodName := ⟨RJ15, "checkIndex", "(II)I"⟩
def RJxf0a74 : String := "java/util/RandomAccess"
def TJxf0a74 : u_T := fun k => match k with
  | _ => ("", "", "", false)
def tyJxf0a74 : Nat → FieldType := fun k => match k with
  | _ => .int
abbrev wsJxf0a740 : List Cond := u_ws RJxf0a74 TJxf0a74 0
theorem nmJxf0a74 : ∀ a, a < 0 → ∀ b, b < 0 → a ≠ b → (TJxf0a74 a).2.1 ≠ (TJxf0a74 b).2.1 := by decide +kernel
theorem tyJxf0a74_ok : ∀ k, k < 0 → parseFieldDescriptor (TJxf0a74 k).2.2.1 = some (tyJxf0a74 k) := by decide +kernel
def RJxa66e6 : String := "java/util/SequencedCollection"
def TJxa66e6 : u_T := fun k => match k with
  | _ => ("", "", "", false)
def tyJxa66e6 : Nat → FieldType := fun k => match k with
  | _ => .int
abbrev wsJxa66e60 : List Cond := u_ws RJxa66e6 TJxa66e6 0
theorem nmJxa66e6 : ∀ a, a < 0 → ∀ b, b < 0 → a ≠ b → (TJxa66e6 a).2.1 ≠ (TJxa66e6 b).2.1 := by decide +kernel
theorem tyJxa66e6_ok : ∀ k, k < 0 → parseFieldDescriptor (TJxa66e6 k).2.2.1 = some (tyJxa66e6 k) := by decide +kernel
def RJ8 : String := "jdk/internal/util/ArraysSupport"
def TJ8 : u_T := fun k => match k with
  | _ => ("", "", "", false)
def tyJ8 : Nat → FieldType := fun k => match k with
  | _ => .int
abbrev wsJ80 : List Cond := u_ws RJ8 TJ8 0
theorem nmJ8 : ∀ a, a < 0 → ∀ b, b < 0 → a ≠ b → (TJ8 a).2.1 ≠ (TJ8 b).2.1 := by decide +kernel
theorem tyJ8_ok : ∀ k, k < 0 → parseFieldDescriptor (TJ8 k).2.2.1 = some (tyJ8 k) := by decide +kernel
abbrev cJ8_newLength_cabcc : ByteArray := prog_41_method_27_code
def yJ8_newLength_cabcc : MethodName := ⟨RJ8, "newLength", "(III)I"⟩
abbrev cJ8_hugeLength_7cf53 : ByteArray := prog_41_method_28_code
def yJ8_hugeLength_7cf53 : MethodName := ⟨RJ8, "hugeLength", "(II)I"⟩
def RJ3 : String := "jdk/internal/util/Preconditions"
def TJ3 : u_T := fun k => match k with
  | _ => ("", "", "", false)
def tyJ3 : Nat → FieldType := fun k => match k with
  | _ => .int
abbrev wsJ30 : List Cond := u_ws RJ3 TJ3 0
theorem nmJ3 : ∀ a, a < 0 → ∀ b, b < 0 → a ≠ b → (TJ3 a).2.1 ≠ (TJ3 b).2.1 := by decide +kernel
theorem tyJ3_ok : ∀ k, k < 0 → parseFieldDescriptor (TJ3 k).2.2.1 = some (tyJ3 k) := by decide +kernel
abbrev cJ3_checkIndex_8e157 : ByteArray := prog_42_method_11_code
def yJ3_checkIndex_8e157 : MethodName := ⟨RJ3, "checkIndex", "(IILjava/util/function/BiFunction;)I"⟩
def RL : String := "SmokeWardLaw"
abbrev cL_setFuel : ByteArray := method_3_code
def yL_setFuel : MethodName := ⟨RL, "setFuel", "(LSmokeWard;III[J)I"⟩
abbrev cL_light : ByteArray := method_4_code
def yL_light : MethodName := ⟨RL, "light", "(LSmokeWard;III[J)I"⟩
abbrev cL_setWind : ByteArray := method_5_code
def yL_setWind : MethodName := ⟨RL, "setWind", "(LSmokeWard;III[J)I"⟩
abbrev cL_setRain : ByteArray := method_6_code
def yL_setRain : MethodName := ⟨RL, "setRain", "(LSmokeWard;I[J)I"⟩
abbrev cL_digLine : ByteArray := method_7_code
def yL_digLine : MethodName := ⟨RL, "digLine", "(LSmokeWard;III[J)I"⟩
abbrev cL_addSensor : ByteArray := method_8_code
def yL_addSensor : MethodName := ⟨RL, "addSensor", "(LSmokeWard;II[J)I"⟩
abbrev cL_read : ByteArray := method_9_code
def yL_read : MethodName := ⟨RL, "read", "(LSmokeWard;II[J)I"⟩
abbrev cL_trust : ByteArray := method_10_code
def yL_trust : MethodName := ⟨RL, "trust", "(LSmokeWard;I[J)I"⟩
abbrev cL_stateOf : ByteArray := method_11_code
def yL_stateOf : MethodName := ⟨RL, "stateOf", "(LSmokeWard;I[J)I"⟩
abbrev cL_judged : ByteArray := method_12_code
def yL_judged : MethodName := ⟨RL, "judged", "(LSmokeWard;I[J)I"⟩
abbrev cL_subscribe : ByteArray := method_13_code
def yL_subscribe : MethodName := ⟨RL, "subscribe", "(LSmokeWard;IIIII[J)I"⟩
abbrev cL_addSchool : ByteArray := method_14_code
def yL_addSchool : MethodName := ⟨RL, "addSchool", "(LSmokeWard;III[J)I"⟩
abbrev cL_isOpen : ByteArray := method_15_code
def yL_isOpen : MethodName := ⟨RL, "isOpen", "(LSmokeWard;I[J)I"⟩
abbrev cL_isWarned : ByteArray := method_16_code
def yL_isWarned : MethodName := ⟨RL, "isWarned", "(LSmokeWard;I[J)I"⟩
abbrev cL_pass : ByteArray := method_17_code
def yL_pass : MethodName := ⟨RL, "pass", "(LSmokeWard;I[J)I"⟩
abbrev cL_fuel : ByteArray := method_18_code
def yL_fuel : MethodName := ⟨RL, "fuel", "(LSmokeWard;II[J)I"⟩
abbrev cL_fire : ByteArray := method_19_code
def yL_fire : MethodName := ⟨RL, "fire", "(LSmokeWard;II[J)I"⟩
abbrev cL_smoke : ByteArray := method_20_code
def yL_smoke : MethodName := ⟨RL, "smoke", "(LSmokeWard;II[J)I"⟩
abbrev cL_hasLine : ByteArray := method_21_code
def yL_hasLine : MethodName := ⟨RL, "hasLine", "(LSmokeWard;II[J)I"⟩
abbrev cL_left : ByteArray := method_22_code
def yL_left : MethodName := ⟨RL, "left", "(LSmokeWard;I[J)I"⟩
abbrev cL_forecast : ByteArray := method_23_code
def yL_forecast : MethodName := ⟨RL, "forecast", "(LSmokeWard;III[J)I"⟩
abbrev cL_worst : ByteArray := method_24_code
def yL_worst : MethodName := ⟨RL, "worst", "(LSmokeWard;III[J)I"⟩
abbrev cL_warnedAt : ByteArray := method_25_code
def yL_warnedAt : MethodName := ⟨RL, "warnedAt", "(LSmokeWard;I[J)I"⟩
abbrev cL_warnedWhom : ByteArray := method_26_code
def yL_warnedWhom : MethodName := ⟨RL, "warnedWhom", "(LSmokeWard;I[J)I"⟩
abbrev cL_warnedBy : ByteArray := method_27_code
def yL_warnedBy : MethodName := ⟨RL, "warnedBy", "(LSmokeWard;I[J)I"⟩
abbrev cL_trustShare : ByteArray := method_28_code
def yL_trustShare : MethodName := ⟨RL, "trustShare", "(LSmokeWard;[D)I"⟩
abbrev cL_law : ByteArray := code
def yL_law : MethodName := ⟨RL, "law", "([I)Z"⟩
abbrev vwCl : List vw_C := [(RJ0, TJ0, 2), (RJx00060, TJx00060, 6), (RJx35411, TJx35411, 4), (RJx4a65c, TJx4a65c, 3), (RX0, TX0, 5), (RX1, TX1, 14), (RX2, TX2, 2), (RX3, TX3, 5), (RX4, TX4, 10), (RX5, TX5, 10), (RX6, TX6, 6), (RX7, TX7, 5), (RX8, TX8, 13), (RX9, TX9, 3), (RX10, TX10, 7), (RX11, TX11, 5), (RX12, TX12, 9)]

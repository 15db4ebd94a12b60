/-! ===== BEGIN printed: names, fields, word lists, decode rows ===== -/
def RX0 : String := "IcePad$Aircraft"
def TX0 : u_T := fun k => match k with
  | 0 => ("IcePad$Aircraft", "span", "I", true)
  | 1 => ("IcePad$Aircraft", "slot", "I", true)
  | 2 => ("IcePad$Aircraft", "duty", "I", true)
  | 3 => ("IcePad$Aircraft", "state", "I", false)
  | 4 => ("IcePad$Aircraft", "leftMinute", "I", false)
  | 5 => ("IcePad$Aircraft", "treatments", "I", false)
  | 6 => ("IcePad$Aircraft", "litresOn", "I", false)
  | 7 => ("IcePad$Aircraft", "pad", "I", false)
  | 8 => ("IcePad$Aircraft", "fluid", "I", false)
  | 9 => ("IcePad$Aircraft", "strength", "I", false)
  | 10 => ("IcePad$Aircraft", "clockBegan", "I", false)
  | _ => ("IcePad$Aircraft", "cleanMinute", "I", false)
def tyX0 : Nat → FieldType := fun k => match k with
  | 0 => .int
  | 1 => .int
  | 2 => .int
  | 3 => .int
  | 4 => .int
  | 5 => .int
  | 6 => .int
  | 7 => .int
  | 8 => .int
  | 9 => .int
  | 10 => .int
  | _ => .int
abbrev wsX00 : List Cond := u_ws RX0 TX0 12
theorem nmX0 : ∀ a, a < 12 → ∀ b, b < 12 → a ≠ b → (TX0 a).2.1 ≠ (TX0 b).2.1 := by decide +kernel
theorem tyX0_ok : ∀ k, k < 12 → parseFieldDescriptor (TX0 k).2.2.1 = some (tyX0 k) := by decide +kernel
abbrev cX0_init : ByteArray := prog_2_method_1_code
def yX0_init : MethodName := ⟨RX0, "<init>", "(III)V"⟩
abbrev cX0_isOver : ByteArray := prog_2_method_2_code
def yX0_isOver : MethodName := ⟨RX0, "isOver", "()Z"⟩
abbrev cX0_beginTreatment : ByteArray := prog_2_method_3_code
def yX0_beginTreatment : MethodName := ⟨RX0, "beginTreatment", "(III)I"⟩
def RX1 : String := "IcePad$Basin"
def TX1 : u_T := fun k => match k with
  | 0 => ("IcePad$Basin", "litres", "I", false)
  | 1 => ("IcePad$Basin", "cleaned", "I", false)
  | 2 => ("IcePad$Basin", "river", "I", false)
  | 3 => ("IcePad$Basin", "permitADay", "I", false)
  | 4 => ("IcePad$Basin", "riverDay", "I", false)
  | _ => ("IcePad$Basin", "riverThatDay", "I", false)
def tyX1 : Nat → FieldType := fun k => match k with
  | 0 => .int
  | 1 => .int
  | 2 => .int
  | 3 => .int
  | 4 => .int
  | _ => .int
abbrev wsX10 : List Cond := u_ws RX1 TX1 6
theorem nmX1 : ∀ a, a < 6 → ∀ b, b < 6 → a ≠ b → (TX1 a).2.1 ≠ (TX1 b).2.1 := by decide +kernel
theorem tyX1_ok : ∀ k, k < 6 → parseFieldDescriptor (TX1 k).2.2.1 = some (tyX1 k) := by decide +kernel
abbrev cX1_init : ByteArray := prog_3_method_1_code
def yX1_init : MethodName := ⟨RX1, "<init>", "()V"⟩
abbrev cX1_riverOn : ByteArray := prog_3_method_2_code
def yX1_riverOn : MethodName := ⟨RX1, "riverOn", "(I)I"⟩
abbrev cX1_cleanMinute : ByteArray := prog_3_method_3_code
def yX1_cleanMinute : MethodName := ⟨RX1, "cleanMinute", "()V"⟩
def RX2 : String := "IcePad$Fluids"
def TX2 : u_T := fun k => match k with
  | 0 => ("IcePad$Fluids", "tanks", "[I", true)
  | 1 => ("IcePad$Fluids", "minutes", "[[I", true)
  | _ => ("IcePad$Fluids", "supplied", "I", false)
def tyX2 : Nat → FieldType := fun k => match k with
  | 0 => .array .int
  | 1 => .array (.array .int)
  | _ => .int
abbrev wsX20 : List Cond := u_ws RX2 TX2 3
theorem nmX2 : ∀ a, a < 3 → ∀ b, b < 3 → a ≠ b → (TX2 a).2.1 ≠ (TX2 b).2.1 := by decide +kernel
theorem tyX2_ok : ∀ k, k < 3 → parseFieldDescriptor (TX2 k).2.2.1 = some (tyX2 k) := by decide +kernel
abbrev cX2_init : ByteArray := prog_4_method_1_code
def yX2_init : MethodName := ⟨RX2, "<init>", "()V"⟩
abbrev cX2_inTanks : ByteArray := prog_4_method_2_code
def yX2_inTanks : MethodName := ⟨RX2, "inTanks", "()I"⟩
abbrev cX2_holdsFor : ByteArray := prog_4_method_3_code
def yX2_holdsFor : MethodName := ⟨RX2, "holdsFor", "(IILIcePad$Weather;)D"⟩
def RX3 : String := "IcePad$Runway"
def TX3 : u_T := fun k => match k with
  | 0 => ("IcePad$Runway", "thirds", "[LIcePad$Third;", true)
  | 1 => ("IcePad$Runway", "closedUpTo", "I", false)
  | 2 => ("IcePad$Runway", "ploughs", "I", false)
  | _ => ("IcePad$Runway", "heap", "I", false)
def tyX3 : Nat → FieldType := fun k => match k with
  | 0 => .array (.object "IcePad$Third")
  | 1 => .int
  | 2 => .int
  | _ => .int
abbrev wsX30 : List Cond := u_ws RX3 TX3 4
theorem nmX3 : ∀ a, a < 4 → ∀ b, b < 4 → a ≠ b → (TX3 a).2.1 ≠ (TX3 b).2.1 := by decide +kernel
theorem tyX3_ok : ∀ k, k < 4 → parseFieldDescriptor (TX3 k).2.2.1 = some (tyX3 k) := by decide +kernel
abbrev cX3_init : ByteArray := prog_5_method_1_code
def yX3_init : MethodName := ⟨RX3, "<init>", "()V"⟩
abbrev cX3_isClosedAt : ByteArray := prog_5_method_2_code
def yX3_isClosedAt : MethodName := ⟨RX3, "isClosedAt", "(I)Z"⟩
abbrev cX3_codesSufficeAt : ByteArray := prog_5_method_3_code
def yX3_codesSufficeAt : MethodName := ⟨RX3, "codesSufficeAt", "(ILIcePad$Weather;)Z"⟩
abbrev cX3_isUsableAt : ByteArray := prog_5_method_4_code
def yX3_isUsableAt : MethodName := ⟨RX3, "isUsableAt", "(ILIcePad$Weather;)Z"⟩
abbrev cX3_liveMinute : ByteArray := prog_5_method_5_code
def yX3_liveMinute : MethodName := ⟨RX3, "liveMinute", "(ILIcePad$Weather;)V"⟩
abbrev cX3_plough : ByteArray := prog_5_method_6_code
def yX3_plough : MethodName := ⟨RX3, "plough", "()V"⟩
def RX4 : String := "IcePad$Third"
def TX4 : u_T := fun k => match k with
  | 0 => ("IcePad$Third", "cover", "I", false)
  | 1 => ("IcePad$Third", "depth", "I", false)
  | 2 => ("IcePad$Third", "sprayedUpTo", "I", false)
  | 3 => ("IcePad$Third", "reportMinute", "I", false)
  | _ => ("IcePad$Third", "reportCode", "I", false)
def tyX4 : Nat → FieldType := fun k => match k with
  | 0 => .int
  | 1 => .int
  | 2 => .int
  | 3 => .int
  | _ => .int
abbrev wsX40 : List Cond := u_ws RX4 TX4 5
theorem nmX4 : ∀ a, a < 5 → ∀ b, b < 5 → a ≠ b → (TX4 a).2.1 ≠ (TX4 b).2.1 := by decide +kernel
theorem tyX4_ok : ∀ k, k < 5 → parseFieldDescriptor (TX4 k).2.2.1 = some (tyX4 k) := by decide +kernel
abbrev cX4_init : ByteArray := prog_6_method_1_code
def yX4_init : MethodName := ⟨RX4, "<init>", "()V"⟩
abbrev cX4_isSprayedAt : ByteArray := prog_6_method_2_code
def yX4_isSprayedAt : MethodName := ⟨RX4, "isSprayedAt", "(I)Z"⟩
abbrev cX4_codeOfWhatLies : ByteArray := prog_6_method_3_code
def yX4_codeOfWhatLies : MethodName := ⟨RX4, "codeOfWhatLies", "(LIcePad$Weather;)I"⟩
abbrev cX4_codeAt : ByteArray := prog_6_method_4_code
def yX4_codeAt : MethodName := ⟨RX4, "codeAt", "(ILIcePad$Weather;)I"⟩
abbrev cX4_liveMinute : ByteArray := prog_6_method_5_code
def yX4_liveMinute : MethodName := ⟨RX4, "liveMinute", "(ILIcePad$Weather;)V"⟩
abbrev cX4_snowOn : ByteArray := prog_6_method_6_code
def yX4_snowOn : MethodName := ⟨RX4, "snowOn", "(I)V"⟩
abbrev cX4_rainOn : ByteArray := prog_6_method_7_code
def yX4_rainOn : MethodName := ⟨RX4, "rainOn", "(IZ)V"⟩
abbrev cX4_iceOver : ByteArray := prog_6_method_8_code
def yX4_iceOver : MethodName := ⟨RX4, "iceOver", "()V"⟩
abbrev cX4_melt : ByteArray := prog_6_method_9_code
def yX4_melt : MethodName := ⟨RX4, "melt", "()V"⟩
abbrev cX4_addDepth : ByteArray := prog_6_method_10_code
def yX4_addDepth : MethodName := ⟨RX4, "addDepth", "(I)V"⟩
abbrev cX4_ploughUpTo : ByteArray := prog_6_method_11_code
def yX4_ploughUpTo : MethodName := ⟨RX4, "ploughUpTo", "(I)I"⟩
abbrev cX4_wetIfBare : ByteArray := prog_6_method_12_code
def yX4_wetIfBare : MethodName := ⟨RX4, "wetIfBare", "()V"⟩
def RX5 : String := "IcePad$Weather"
def TX5 : u_T := fun k => match k with
  | 0 => ("IcePad$Weather", "temperature", "I", false)
  | 1 => ("IcePad$Weather", "fall", "I", false)
  | 2 => ("IcePad$Weather", "rate", "I", false)
  | _ => ("IcePad$Weather", "wind", "I", false)
def tyX5 : Nat → FieldType := fun k => match k with
  | 0 => .int
  | 1 => .int
  | 2 => .int
  | _ => .int
abbrev wsX50 : List Cond := u_ws RX5 TX5 4
theorem nmX5 : ∀ a, a < 4 → ∀ b, b < 4 → a ≠ b → (TX5 a).2.1 ≠ (TX5 b).2.1 := by decide +kernel
theorem tyX5_ok : ∀ k, k < 4 → parseFieldDescriptor (TX5 k).2.2.1 = some (tyX5 k) := by decide +kernel
abbrev cX5_init : ByteArray := prog_7_method_1_code
def yX5_init : MethodName := ⟨RX5, "<init>", "()V"⟩
abbrev cX5_codeNeeded : ByteArray := prog_7_method_2_code
def yX5_codeNeeded : MethodName := ⟨RX5, "codeNeeded", "()I"⟩
abbrev cX5_holdFactor : ByteArray := prog_7_method_3_code
def yX5_holdFactor : MethodName := ⟨RX5, "holdFactor", "()D"⟩
def RX6 : String := "IcePad"
def TX6 : u_T := fun k => match k with
  | 0 => ("IcePad", "sky", "LIcePad$Weather;", true)
  | 1 => ("IcePad", "runway", "LIcePad$Runway;", true)
  | 2 => ("IcePad", "fluids", "LIcePad$Fluids;", true)
  | 3 => ("IcePad", "basin", "LIcePad$Basin;", true)
  | 4 => ("IcePad", "fleet", "[LIcePad$Aircraft;", true)
  | 5 => ("IcePad", "fleetSize", "I", false)
  | _ => ("IcePad", "minute", "I", false)
def tyX6 : Nat → FieldType := fun k => match k with
  | 0 => .object "IcePad$Weather"
  | 1 => .object "IcePad$Runway"
  | 2 => .object "IcePad$Fluids"
  | 3 => .object "IcePad$Basin"
  | 4 => .array (.object "IcePad$Aircraft")
  | 5 => .int
  | _ => .int
abbrev wsX60 : List Cond := u_ws RX6 TX6 7
theorem nmX6 : ∀ a, a < 7 → ∀ b, b < 7 → a ≠ b → (TX6 a).2.1 ≠ (TX6 b).2.1 := by decide +kernel
theorem tyX6_ok : ∀ k, k < 7 → parseFieldDescriptor (TX6 k).2.2.1 = some (tyX6 k) := by decide +kernel
abbrev cX6_init : ByteArray := prog_1_method_1_code
def yX6_init : MethodName := ⟨RX6, "<init>", "()V"⟩
abbrev cX6_weather : ByteArray := prog_1_method_2_code
def yX6_weather : MethodName := ⟨RX6, "weather", "(IIII)V"⟩
abbrev cX6_spray : ByteArray := prog_1_method_3_code
def yX6_spray : MethodName := ⟨RX6, "spray", "(I)I"⟩
abbrev cX6_close : ByteArray := prog_1_method_4_code
def yX6_close : MethodName := ⟨RX6, "close", "(II)I"⟩
abbrev cX6_pilot : ByteArray := prog_1_method_5_code
def yX6_pilot : MethodName := ⟨RX6, "pilot", "(II)I"⟩
abbrev cX6_supply : ByteArray := prog_1_method_6_code
def yX6_supply : MethodName := ⟨RX6, "supply", "(II)I"⟩
abbrev cX6_aircraft : ByteArray := prog_1_method_8_code
def yX6_aircraft : MethodName := ⟨RX6, "aircraft", "(III)I"⟩
abbrev cX6_treat : ByteArray := prog_1_method_9_code
def yX6_treat : MethodName := ⟨RX6, "treat", "(IIIII)I"⟩
abbrev cX6_cancel : ByteArray := prog_1_method_10_code
def yX6_cancel : MethodName := ⟨RX6, "cancel", "(I)I"⟩
abbrev cX6_release : ByteArray := prog_1_method_12_code
def yX6_release : MethodName := ⟨RX6, "release", "(I)I"⟩
abbrev cX6_pass : ByteArray := prog_1_method_13_code
def yX6_pass : MethodName := ⟨RX6, "pass", "(I)I"⟩
abbrev cX6_code : ByteArray := prog_1_method_14_code
def yX6_code : MethodName := ⟨RX6, "code", "(I)I"⟩
abbrev cX6_thirdOf : ByteArray := prog_1_method_15_code
def yX6_thirdOf : MethodName := ⟨RX6, "thirdOf", "(II)I"⟩
abbrev cX6_isGood : ByteArray := prog_1_method_16_code
def yX6_isGood : MethodName := ⟨RX6, "isGood", "()Z"⟩
abbrev cX6_aircraftOf : ByteArray := prog_1_method_17_code
def yX6_aircraftOf : MethodName := ⟨RX6, "aircraftOf", "(II)I"⟩
abbrev cX6_clock : ByteArray := prog_1_method_18_code
def yX6_clock : MethodName := ⟨RX6, "clock", "(I)D"⟩
abbrev cX6_whyNot : ByteArray := prog_1_method_19_code
def yX6_whyNot : MethodName := ⟨RX6, "whyNot", "(I)I"⟩
abbrev cX6_queue : ByteArray := prog_1_method_20_code
def yX6_queue : MethodName := ⟨RX6, "queue", "(I)I"⟩
abbrev cX6_sum : ByteArray := prog_1_method_21_code
def yX6_sum : MethodName := ⟨RX6, "sum", "(I)I"⟩
abbrev cX6_liveMinute : ByteArray := prog_1_method_22_code
def yX6_liveMinute : MethodName := ⟨RX6, "liveMinute", "()V"⟩
abbrev cX6_endTreatments : ByteArray := prog_1_method_23_code
def yX6_endTreatments : MethodName := ⟨RX6, "endTreatments", "()V"⟩
abbrev cX6_cancelBehindDuty : ByteArray := prog_1_method_24_code
def yX6_cancelBehindDuty : MethodName := ⟨RX6, "cancelBehindDuty", "()V"⟩
abbrev cX6_sendBackWithoutClock : ByteArray := prog_1_method_25_code
def yX6_sendBackWithoutClock : MethodName := ⟨RX6, "sendBackWithoutClock", "()V"⟩
abbrev cX6_letOneLeave : ByteArray := prog_1_method_26_code
def yX6_letOneLeave : MethodName := ⟨RX6, "letOneLeave", "()V"⟩
abbrev cX6_padIsFree : ByteArray := prog_1_method_27_code
def yX6_padIsFree : MethodName := ⟨RX6, "padIsFree", "(I)Z"⟩
abbrev cX6_placeInQueue : ByteArray := prog_1_method_28_code
def yX6_placeInQueue : MethodName := ⟨RX6, "placeInQueue", "(I)I"⟩
abbrev cX6_goesAhead : ByteArray := prog_1_method_29_code
def yX6_goesAhead : MethodName := ⟨RX6, "goesAhead", "(II)Z"⟩
abbrev cX6_clockLeft : ByteArray := prog_1_method_30_code
def yX6_clockLeft : MethodName := ⟨RX6, "clockLeft", "(LIcePad$Aircraft;)D"⟩
abbrev cX6_litresOnFleet : ByteArray := prog_1_method_31_code
def yX6_litresOnFleet : MethodName := ⟨RX6, "litresOnFleet", "()I"⟩
abbrev cX6_requireIndex : ByteArray := prog_1_method_32_code
def yX6_requireIndex : MethodName := ⟨RX6, "requireIndex", "(II)V"⟩
abbrev cX6_requireRange : ByteArray := prog_1_method_33_code
def yX6_requireRange : MethodName := ⟨RX6, "requireRange", "(III)V"⟩
abbrev cX6_requireStrength : ByteArray := prog_1_method_34_code
def yX6_requireStrength : MethodName := ⟨RX6, "requireStrength", "(I)V"⟩
abbrev cX6_requirePossible : ByteArray := prog_1_method_35_code
def yX6_requirePossible : MethodName := ⟨RX6, "requirePossible", "(Z)V"⟩
def RX7 : String := "IcePadModel"
def TX7 : u_T := fun k => match k with
  | _ => ("", "", "", false)
def tyX7 : Nat → FieldType := fun k => match k with
  | _ => .int
abbrev wsX70 : List Cond := u_ws RX7 TX7 0
theorem nmX7 : ∀ a, a < 0 → ∀ b, b < 0 → a ≠ b → (TX7 a).2.1 ≠ (TX7 b).2.1 := by decide +kernel
theorem tyX7_ok : ∀ k, k < 0 → parseFieldDescriptor (TX7 k).2.2.1 = some (tyX7 k) := by decide +kernel
def RJ9 : String := "java/lang/Math"
def TJ9 : u_T := fun k => match k with
  | _ => ("", "", "", false)
def tyJ9 : Nat → FieldType := fun k => match k with
  | _ => .int
abbrev wsJ90 : List Cond := u_ws RJ9 TJ9 0
theorem nmJ9 : ∀ a, a < 0 → ∀ b, b < 0 → a ≠ b → (TJ9 a).2.1 ≠ (TJ9 b).2.1 := by decide +kernel
theorem tyJ9_ok : ∀ k, k < 0 → parseFieldDescriptor (TJ9 k).2.2.1 = some (tyJ9 k) := by decide +kernel
abbrev cJ9_max_7cf53 : ByteArray := prog_14_method_65_code
def yJ9_max_7cf53 : MethodName := ⟨RJ9, "max", "(II)I"⟩
abbrev cJ9_min_7cf53 : ByteArray := prog_14_method_69_code
def yJ9_min_7cf53 : MethodName := ⟨RJ9, "min", "(II)I"⟩
def RJ0 : String := "java/lang/String"
def TJ0 : u_T := fun k => match k with
  | _ => ("", "", "", false)
def tyJ0 : Nat → FieldType := fun k => match k with
  | _ => .int
abbrev wsJ00 : List Cond := u_ws RJ0 TJ0 0
theorem nmJ0 : ∀ a, a < 0 → ∀ b, b < 0 → a ≠ b → (TJ0 a).2.1 ≠ (TJ0 b).2.1 := by decide +kernel
theorem tyJ0_ok : ∀ k, k < 0 → parseFieldDescriptor (TJ0 k).2.2.1 = some (tyJ0 k) := by decide +kernel
def RL : String := "IcePadLaw"
abbrev cL_cell : ByteArray := method_2_code
def yL_cell : MethodName := ⟨RL, "cell", "([II)I"⟩
abbrev cL_low : ByteArray := method_3_code
def yL_low : MethodName := ⟨RL, "low", "(II)I"⟩
abbrev cL_isOrdered : ByteArray := method_4_code
def yL_isOrdered : MethodName := ⟨RL, "isOrdered", "(LIcePad;I)Z"⟩
abbrev cL_law : ByteArray := code
def yL_law : MethodName := ⟨RL, "law", "([I)Z"⟩
def wsL_law0_r1 : List Cond := [Cond.classLink RL 9 RX6, Cond.instantiable RX6 7, Cond.initialized RX6, Cond.arrayClass .int, Cond.methodLink RL 25 yX6_init, Cond.instanceMethod yX6_init, Cond.code yX6_init cX6_init 1 none, Cond.methodLink RX6 1 objectInit, Cond.instanceMethod objectInit, Cond.code objectInit ⟨#[0xb1]⟩ 1 none, Cond.classLink RX6 7 RX5, Cond.instantiable RX5 4, Cond.initialized RX5, Cond.fieldLink RX6 10 "IcePad" "sky" "LIcePad$Weather;", Cond.classLink RX6 16 RX3, Cond.instantiable RX3 4, Cond.initialized RX3, Cond.fieldLink RX6 19 "IcePad" "runway" "LIcePad$Runway;", Cond.classLink RX6 23 RX2, Cond.instantiable RX2 3, Cond.initialized RX2, Cond.fieldLink RX6 26 "IcePad" "fluids" "LIcePad$Fluids;", Cond.classLink RX6 30 RX1, Cond.instantiable RX1 6]
def wsL_law0_r2 : List Cond := [Cond.initialized RX1, Cond.fieldLink RX6 33 "IcePad" "basin" "LIcePad$Basin;", Cond.classLink RX6 37 RX0, Cond.fieldLink RX6 39 "IcePad" "fleet" "[LIcePad$Aircraft;", Cond.instanceMethod yX5_init, Cond.code yX5_init cX5_init 1 none, Cond.methodLink RX5 1 objectInit, Cond.methodLink RX6 18 yX3_init, Cond.instanceMethod yX3_init, Cond.code yX3_init cX3_init 2 none, Cond.methodLink RX3 3 objectInit, Cond.fieldLink RX3 9 "IcePad$Runway" "closedUpTo" "I", Cond.classLink RX3 15 RX4, Cond.fieldLink RX3 17 "IcePad$Runway" "thirds" "[LIcePad$Third;", Cond.instantiable RX4 5, Cond.initialized RX4, Cond.instanceMethod yX4_init, Cond.code yX4_init cX4_init 1 none, Cond.methodLink RX4 3 objectInit, Cond.fieldLink RX4 9 "IcePad$Third" "cover" "I", Cond.fieldLink RX4 15 "IcePad$Third" "sprayedUpTo" "I", Cond.fieldLink RX4 18 "IcePad$Third" "reportMinute" "I", Cond.methodLink RX6 25 yX2_init, Cond.instanceMethod yX2_init]
def wsL_law0_r3 : List Cond := [Cond.code yX2_init cX2_init 3 none, Cond.methodLink RX2 3 objectInit, Cond.fieldLink RX2 9 "IcePad$Fluids" "tanks" "[I", Cond.classLink RX2 15 "[[I", Cond.fieldLink RX2 17 "IcePad$Fluids" "minutes" "[[I", Cond.methodLink RX2 20 Lib.Math.max.name, Cond.static Lib.Math.max.name, Cond.initialized "java/lang/Math", Cond.code Lib.Math.max.name Lib.Math.max.code 2 (some .int), Cond.instanceMethod yX1_init, Cond.code yX1_init cX1_init 1 none, Cond.methodLink RX1 3 objectInit, Cond.fieldLink RX1 9 "IcePad$Basin" "permitADay" "I", Cond.methodLink RL 26 yL_cell, Cond.static yL_cell, Cond.initialized RL, Cond.code yL_cell cL_cell 2 (some .int), Cond.methodLink RL 32 yL_low, Cond.static yL_low, Cond.code yL_low cL_low 2 (some .int), Cond.constant RL 7 (2147483647), Cond.methodLink RL 35 yX6_supply, Cond.instanceMethod yX6_supply, Cond.selects RX6 yX6_supply yX6_supply]
def wsL_law0_r4 : List Cond := [Cond.code yX6_supply cX6_supply 3 (some .int), Cond.fieldLink RX6 92 "IcePad$Fluids" "tanks" "[I", Cond.constant RX6 96 (100000), Cond.fieldLink RX6 101 "IcePad$Fluids" "supplied" "I", Cond.methodLink RX6 60 yX6_requireIndex, Cond.static yX6_requireIndex, Cond.code yX6_requireIndex cX6_requireIndex 2 none, Cond.classLink RX6 211 "java/lang/IndexOutOfBoundsException", Cond.initialized "java/lang/IndexOutOfBoundsException", Cond.methodLink RX6 43 yX6_requireRange, Cond.static yX6_requireRange, Cond.code yX6_requireRange cX6_requireRange 3 none, Cond.classLink RX6 267 "java/lang/IllegalArgumentException", Cond.initialized "java/lang/IllegalArgumentException", Cond.methodLink RX6 97 yX6_requirePossible, Cond.static yX6_requirePossible, Cond.code yX6_requirePossible cX6_requirePossible 1 none, Cond.classLink RX6 274 "java/lang/IllegalStateException", Cond.initialized "java/lang/IllegalStateException", Cond.methodLink RL 38 yX6_aircraft, Cond.instanceMethod yX6_aircraft, Cond.selects RX6 yX6_aircraft yX6_aircraft, Cond.code yX6_aircraft cX6_aircraft 5 (some .int), Cond.fieldLink RX6 108 "IcePad" "fleetSize" "I"]
def wsL_law0_r5 : List Cond := [Cond.instantiable RX0 12, Cond.initialized RX0, Cond.fieldLink RX6 64 "IcePad" "minute" "I", Cond.methodLink RX6 111 yX0_init, Cond.instanceMethod yX0_init, Cond.code yX0_init cX0_init 4 none, Cond.methodLink RX0 3 objectInit, Cond.fieldLink RX0 9 "IcePad$Aircraft" "state" "I", Cond.fieldLink RX0 15 "IcePad$Aircraft" "leftMinute" "I", Cond.fieldLink RX0 18 "IcePad$Aircraft" "span" "I", Cond.fieldLink RX0 21 "IcePad$Aircraft" "slot" "I", Cond.fieldLink RX0 24 "IcePad$Aircraft" "duty" "I", Cond.methodLink RL 8 yX6_aircraftOf, Cond.instanceMethod yX6_aircraftOf, Cond.selects RX6 yX6_aircraftOf yX6_aircraftOf, Cond.code yX6_aircraftOf cX6_aircraftOf 4 (some .int), Cond.fieldLink RX6 120 "IcePad$Aircraft" "state" "I", Cond.fieldLink RX6 186 "IcePad$Aircraft" "leftMinute" "I", Cond.fieldLink RX6 189 "IcePad$Aircraft" "treatments" "I", Cond.fieldLink RX6 192 "IcePad$Aircraft" "litresOn" "I", Cond.fieldLink RX6 195 "IcePad$Aircraft" "pad" "I", Cond.methodLink RL 42 yX6_pass, Cond.instanceMethod yX6_pass, Cond.selects RX6 yX6_pass yX6_pass]
def wsL_law0_r6 : List Cond := [Cond.code yX6_pass cX6_pass 3 (some .int), Cond.methodLink RX6 166 yX6_liveMinute, Cond.instanceMethod yX6_liveMinute, Cond.selects RX6 yX6_liveMinute yX6_liveMinute, Cond.code yX6_liveMinute cX6_liveMinute 1 none, Cond.methodLink RX6 234 yX3_liveMinute, Cond.instanceMethod yX3_liveMinute, Cond.selects RX3 yX3_liveMinute yX3_liveMinute, Cond.code yX3_liveMinute cX3_liveMinute 4 none, Cond.methodLink RX3 40 yX4_liveMinute, Cond.instanceMethod yX4_liveMinute, Cond.selects RX4 yX4_liveMinute yX4_liveMinute, Cond.code yX4_liveMinute cX4_liveMinute 4 none, Cond.fieldLink RX4 21 "IcePad$Weather" "temperature" "I", Cond.fieldLink RX4 40 "IcePad$Weather" "fall" "I", Cond.fieldLink RX4 43 "IcePad$Weather" "rate" "I", Cond.methodLink RX4 36 yX4_isSprayedAt, Cond.instanceMethod yX4_isSprayedAt, Cond.selects RX4 yX4_isSprayedAt yX4_isSprayedAt, Cond.code yX4_isSprayedAt cX4_isSprayedAt 2 (some .boolean), Cond.methodLink RX4 46 yX4_snowOn, Cond.instanceMethod yX4_snowOn, Cond.selects RX4 yX4_snowOn yX4_snowOn, Cond.code yX4_snowOn cX4_snowOn 2 none]
def wsL_law0_r7 : List Cond := [Cond.methodLink RX4 60 yX4_addDepth, Cond.instanceMethod yX4_addDepth, Cond.selects RX4 yX4_addDepth yX4_addDepth, Cond.code yX4_addDepth cX4_addDepth 2 none, Cond.fieldLink RX4 26 "IcePad$Third" "depth" "I", Cond.methodLink RX4 63 Lib.Math.min.name, Cond.static Lib.Math.min.name, Cond.code Lib.Math.min.name Lib.Math.min.code 2 (some .int), Cond.methodLink RX4 50 yX4_rainOn, Cond.instanceMethod yX4_rainOn, Cond.selects RX4 yX4_rainOn yX4_rainOn, Cond.code yX4_rainOn cX4_rainOn 3 none, Cond.methodLink RX4 54 yX4_iceOver, Cond.instanceMethod yX4_iceOver, Cond.selects RX4 yX4_iceOver yX4_iceOver, Cond.code yX4_iceOver cX4_iceOver 1 none, Cond.methodLink RX4 57 yX4_melt, Cond.instanceMethod yX4_melt, Cond.selects RX4 yX4_melt yX4_melt, Cond.code yX4_melt cX4_melt 1 none, Cond.methodLink RX3 32 yX3_isClosedAt, Cond.instanceMethod yX3_isClosedAt, Cond.selects RX3 yX3_isClosedAt yX3_isClosedAt, Cond.code yX3_isClosedAt cX3_isClosedAt 2 (some .boolean)]
def wsL_law0_r8 : List Cond := [Cond.methodLink RX3 44 yX3_plough, Cond.instanceMethod yX3_plough, Cond.selects RX3 yX3_plough yX3_plough, Cond.code yX3_plough cX3_plough 4 none, Cond.fieldLink RX3 47 "IcePad$Runway" "ploughs" "I", Cond.fieldLink RX3 54 "IcePad$Runway" "heap" "I", Cond.methodLink RX3 50 yX4_ploughUpTo, Cond.instanceMethod yX4_ploughUpTo, Cond.selects RX4 yX4_ploughUpTo yX4_ploughUpTo, Cond.code yX4_ploughUpTo cX4_ploughUpTo 3 (some .int), Cond.methodLink RX3 57 yX4_wetIfBare, Cond.instanceMethod yX4_wetIfBare, Cond.selects RX4 yX4_wetIfBare yX4_wetIfBare, Cond.code yX4_wetIfBare cX4_wetIfBare 1 none, Cond.methodLink RX6 237 yX6_endTreatments, Cond.instanceMethod yX6_endTreatments, Cond.selects RX6 yX6_endTreatments yX6_endTreatments, Cond.code yX6_endTreatments cX6_endTreatments 2 none, Cond.fieldLink RX6 143 "IcePad$Aircraft" "cleanMinute" "I", Cond.methodLink RX6 240 yX1_cleanMinute, Cond.instanceMethod yX1_cleanMinute, Cond.selects RX1 yX1_cleanMinute yX1_cleanMinute, Cond.code yX1_cleanMinute cX1_cleanMinute 2 none, Cond.fieldLink RX1 21 "IcePad$Basin" "litres" "I"]
def wsL_law0_r9 : List Cond := [Cond.methodLink RX1 24 Lib.Math.min.name, Cond.fieldLink RX1 30 "IcePad$Basin" "cleaned" "I", Cond.methodLink RX6 242 yX6_cancelBehindDuty, Cond.instanceMethod yX6_cancelBehindDuty, Cond.selects RX6 yX6_cancelBehindDuty yX6_cancelBehindDuty, Cond.code yX6_cancelBehindDuty cX6_cancelBehindDuty 2 none, Cond.fieldLink RX6 251 "IcePad$Aircraft" "duty" "I", Cond.methodLink RX6 146 yX0_isOver, Cond.instanceMethod yX0_isOver, Cond.selects RX0 yX0_isOver yX0_isOver, Cond.code yX0_isOver cX0_isOver 1 (some .boolean), Cond.methodLink RX6 245 yX6_sendBackWithoutClock, Cond.instanceMethod yX6_sendBackWithoutClock, Cond.selects RX6 yX6_sendBackWithoutClock yX6_sendBackWithoutClock, Cond.code yX6_sendBackWithoutClock cX6_sendBackWithoutClock 2 none, Cond.methodLink RX6 198 yX6_clockLeft, Cond.instanceMethod yX6_clockLeft, Cond.selects RX6 yX6_clockLeft yX6_clockLeft, Cond.code yX6_clockLeft cX6_clockLeft 2 (some .double), Cond.fieldLink RX6 137 "IcePad$Aircraft" "fluid" "I", Cond.fieldLink RX6 140 "IcePad$Aircraft" "strength" "I", Cond.fieldLink RX6 262 "IcePad$Aircraft" "clockBegan" "I", Cond.methodLink RX6 258 yX2_holdsFor, Cond.instanceMethod yX2_holdsFor]
def wsL_law0_r10 : List Cond := [Cond.selects RX2 yX2_holdsFor yX2_holdsFor, Cond.code yX2_holdsFor cX2_holdsFor 4 (some .double), Cond.fieldLink RX2 26 "IcePad$Weather" "fall" "I", Cond.constantDouble RX2 32 (4696837146684686336), Cond.constantDouble RX2 34 (4636737291354636288), Cond.methodLink RX2 36 yX5_holdFactor, Cond.instanceMethod yX5_holdFactor, Cond.selects RX5 yX5_holdFactor yX5_holdFactor, Cond.code yX5_holdFactor cX5_holdFactor 1 (some .double), Cond.fieldLink RX5 13 "IcePad$Weather" "temperature" "I", Cond.constantDouble RX5 16 (4604930618986332160), Cond.constantDouble RX5 18 (4602678819172646912), Cond.methodLink RX6 182 yX3_isUsableAt, Cond.instanceMethod yX3_isUsableAt, Cond.selects RX3 yX3_isUsableAt yX3_isUsableAt, Cond.code yX3_isUsableAt cX3_isUsableAt 3 (some .boolean), Cond.methodLink RX3 36 yX3_codesSufficeAt, Cond.instanceMethod yX3_codesSufficeAt, Cond.selects RX3 yX3_codesSufficeAt yX3_codesSufficeAt, Cond.code yX3_codesSufficeAt cX3_codesSufficeAt 5 (some .boolean), Cond.methodLink RX3 22 yX5_codeNeeded, Cond.instanceMethod yX5_codeNeeded, Cond.selects RX5 yX5_codeNeeded yX5_codeNeeded, Cond.code yX5_codeNeeded cX5_codeNeeded 1 (some .int)]
def wsL_law0_r11 : List Cond := [Cond.fieldLink RX5 7 "IcePad$Weather" "wind" "I", Cond.methodLink RX3 28 yX4_codeAt, Cond.instanceMethod yX4_codeAt, Cond.selects RX4 yX4_codeAt yX4_codeAt, Cond.code yX4_codeAt cX4_codeAt 5 (some .int), Cond.fieldLink RX4 33 "IcePad$Third" "reportCode" "I", Cond.methodLink RX4 29 yX4_codeOfWhatLies, Cond.instanceMethod yX4_codeOfWhatLies, Cond.selects RX4 yX4_codeOfWhatLies yX4_codeOfWhatLies, Cond.code yX4_codeOfWhatLies cX4_codeOfWhatLies 3 (some .int), Cond.methodLink RX6 248 yX6_letOneLeave, Cond.instanceMethod yX6_letOneLeave, Cond.selects RX6 yX6_letOneLeave yX6_letOneLeave, Cond.code yX6_letOneLeave cX6_letOneLeave 4 none, Cond.fieldLink RX6 202 "IcePad$Aircraft" "slot" "I", Cond.methodLink RX6 254 yX6_goesAhead, Cond.instanceMethod yX6_goesAhead, Cond.selects RX6 yX6_goesAhead yX6_goesAhead, Cond.code yX6_goesAhead cX6_goesAhead 7 (some .boolean), Cond.methodLink RL 45 yX6_weather, Cond.instanceMethod yX6_weather, Cond.selects RX6 yX6_weather yX6_weather, Cond.code yX6_weather cX6_weather 5 none, Cond.fieldLink RX6 47 "IcePad$Weather" "temperature" "I"]
def wsL_law0_r12 : List Cond := [Cond.fieldLink RX6 51 "IcePad$Weather" "fall" "I", Cond.fieldLink RX6 54 "IcePad$Weather" "rate" "I", Cond.fieldLink RX6 57 "IcePad$Weather" "wind" "I", Cond.methodLink RL 49 yX6_spray, Cond.instanceMethod yX6_spray, Cond.selects RX6 yX6_spray yX6_spray, Cond.code yX6_spray cX6_spray 3 (some .int), Cond.fieldLink RX6 67 "IcePad$Runway" "thirds" "[LIcePad$Third;", Cond.fieldLink RX6 71 "IcePad$Third" "sprayedUpTo" "I", Cond.methodLink RL 52 yX6_thirdOf, Cond.instanceMethod yX6_thirdOf, Cond.selects RX6 yX6_thirdOf yX6_thirdOf, Cond.code yX6_thirdOf cX6_thirdOf 4 (some .int), Cond.fieldLink RX6 169 "IcePad$Third" "cover" "I", Cond.fieldLink RX6 172 "IcePad$Third" "depth" "I", Cond.methodLink RX6 175 yX4_isSprayedAt, Cond.methodLink RX6 178 yX4_codeOfWhatLies, Cond.methodLink RL 55 yX6_close, Cond.instanceMethod yX6_close, Cond.selects RX6 yX6_close yX6_close, Cond.code yX6_close cX6_close 3 (some .int), Cond.fieldLink RX6 76 "IcePad$Runway" "closedUpTo" "I", Cond.fieldLink RX6 79 "IcePad$Runway" "ploughs" "I", Cond.methodLink RL 58 yX6_isGood]
def wsL_law0_r13 : List Cond := [Cond.instanceMethod yX6_isGood, Cond.selects RX6 yX6_isGood yX6_isGood, Cond.code yX6_isGood cX6_isGood 1 (some .boolean), Cond.methodLink RL 62 yX6_pilot, Cond.instanceMethod yX6_pilot, Cond.selects RX6 yX6_pilot yX6_pilot, Cond.code yX6_pilot cX6_pilot 4 (some .int), Cond.fieldLink RX6 82 "IcePad$Third" "reportMinute" "I", Cond.fieldLink RX6 85 "IcePad$Third" "reportCode" "I", Cond.methodLink RX6 88 yX4_codeAt, Cond.methodLink RL 65 yX6_sum, Cond.instanceMethod yX6_sum, Cond.selects RX6 yX6_sum yX6_sum, Cond.code yX6_sum cX6_sum 2 (some .int), Cond.fieldLink RX6 130 "IcePad$Basin" "litres" "I", Cond.fieldLink RX6 228 "IcePad$Basin" "cleaned" "I", Cond.fieldLink RX6 157 "IcePad$Basin" "river" "I", Cond.fieldLink RX6 231 "IcePad$Runway" "heap" "I", Cond.methodLink RX6 221 yX2_inTanks, Cond.instanceMethod yX2_inTanks, Cond.selects RX2 yX2_inTanks yX2_inTanks, Cond.code yX2_inTanks cX2_inTanks 3 (some .int), Cond.methodLink RX6 225 yX6_litresOnFleet, Cond.instanceMethod yX6_litresOnFleet]
def wsL_law0_r14 : List Cond := [Cond.selects RX6 yX6_litresOnFleet yX6_litresOnFleet, Cond.code yX6_litresOnFleet cX6_litresOnFleet 3 (some .int), Cond.methodLink RL 68 yX6_treat, Cond.instanceMethod yX6_treat, Cond.selects RX6 yX6_treat yX6_treat, Cond.code yX6_treat cX6_treat 7 (some .int), Cond.fieldLink RX6 113 "IcePad" "PAD_SPANS" "[I", Cond.fieldLink RX6 127 "IcePad$Aircraft" "span" "I", Cond.methodLink RX6 116 yX6_requireStrength, Cond.static yX6_requireStrength, Cond.code yX6_requireStrength cX6_requireStrength 1 none, Cond.methodLink RX6 123 yX6_padIsFree, Cond.instanceMethod yX6_padIsFree, Cond.selects RX6 yX6_padIsFree yX6_padIsFree, Cond.code yX6_padIsFree cX6_padIsFree 3 (some .boolean), Cond.methodLink RX6 133 yX0_beginTreatment, Cond.instanceMethod yX0_beginTreatment, Cond.selects RX0 yX0_beginTreatment yX0_beginTreatment, Cond.code yX0_beginTreatment cX0_beginTreatment 5 (some .int), Cond.fieldLink RX0 27 "IcePad$Aircraft" "pad" "I", Cond.fieldLink RX0 30 "IcePad$Aircraft" "treatments" "I", Cond.fieldLink RX0 33 "IcePad$Aircraft" "litresOn" "I", Cond.fieldLink RX0 36 "IcePad$Aircraft" "clockBegan" "I", Cond.fieldLink RX0 39 "IcePad$Aircraft" "cleanMinute" "I"]
def wsL_law0_r15 : List Cond := [Cond.methodLink RL 21 yX6_clock, Cond.instanceMethod yX6_clock, Cond.selects RX6 yX6_clock yX6_clock, Cond.code yX6_clock cX6_clock 2 (some .double), Cond.methodLink RL 18 yX6_whyNot, Cond.instanceMethod yX6_whyNot, Cond.selects RX6 yX6_whyNot yX6_whyNot, Cond.code yX6_whyNot cX6_whyNot 3 (some .int), Cond.methodLink RX6 205 yX3_isClosedAt, Cond.methodLink RX6 208 yX3_codesSufficeAt, Cond.methodLink RL 72 yX6_cancel, Cond.instanceMethod yX6_cancel, Cond.selects RX6 yX6_cancel yX6_cancel, Cond.code yX6_cancel cX6_cancel 4 (some .int), Cond.methodLink RL 75 yX6_release, Cond.instanceMethod yX6_release, Cond.selects RX6 yX6_release yX6_release, Cond.code yX6_release cX6_release 4 (some .int), Cond.fieldLink RX6 150 "IcePad$Basin" "permitADay" "I", Cond.fieldLink RX6 160 "IcePad$Basin" "riverDay" "I", Cond.fieldLink RX6 163 "IcePad$Basin" "riverThatDay" "I", Cond.methodLink RX6 153 yX1_riverOn, Cond.instanceMethod yX1_riverOn, Cond.selects RX1 yX1_riverOn yX1_riverOn]
def wsL_law0_r16 : List Cond := [Cond.code yX1_riverOn cX1_riverOn 2 (some .int), Cond.fieldLink RX1 15 "IcePad$Basin" "riverDay" "I", Cond.fieldLink RX1 18 "IcePad$Basin" "riverThatDay" "I", Cond.methodLink RL 78 yX6_code, Cond.instanceMethod yX6_code, Cond.selects RX6 yX6_code yX6_code, Cond.code yX6_code cX6_code 2 (some .int), Cond.methodLink RL 81 yL_isOrdered, Cond.static yL_isOrdered, Cond.code yL_isOrdered cL_isOrdered 7 (some .boolean), Cond.methodLink RL 14 yX6_queue, Cond.instanceMethod yX6_queue, Cond.selects RX6 yX6_queue yX6_queue, Cond.code yX6_queue cX6_queue 3 (some .int), Cond.methodLink RX6 218 yX6_placeInQueue, Cond.instanceMethod yX6_placeInQueue, Cond.selects RX6 yX6_placeInQueue yX6_placeInQueue, Cond.code yX6_placeInQueue cX6_placeInQueue 4 (some .int)]
def wsL_law0 : List Cond := (wsL_law0_r1 ++ (wsL_law0_r2 ++ (wsL_law0_r3 ++ (wsL_law0_r4 ++ (wsL_law0_r5 ++ (wsL_law0_r6 ++ (wsL_law0_r7 ++ (wsL_law0_r8 ++ (wsL_law0_r9 ++ (wsL_law0_r10 ++ (wsL_law0_r11 ++ (wsL_law0_r12 ++ (wsL_law0_r13 ++ (wsL_law0_r14 ++ (wsL_law0_r15 ++ wsL_law0_r16))))))))))))))) ++ wsX60 ++ wsX50 ++ wsX30 ++ wsX20 ++ wsX10 ++ wsX40 ++ wsX00 ++ ([] : List Cond)
def wsL_law : List Cond := wsL_law0 ++ (vx_atS RX6 215 "java/lang/IndexOutOfBoundsException" ["java/lang/RuntimeException", "java/lang/Exception"]).filter goodWord ++ (vx_atS RX6 271 "java/lang/IllegalArgumentException" ["java/lang/RuntimeException", "java/lang/Exception"]).filter goodWord ++ (vx_atS RX6 278 "java/lang/IllegalStateException" ["java/lang/RuntimeException", "java/lang/Exception"]).filter goodWord
theorem inlX0 : ∀ w ∈ wsX00, w ∈ wsL_law := fun _ h => List.mem_append_left _ (List.mem_append_left _ (List.mem_append_left _ (List.mem_append_left _ (List.mem_append_right _ h))))
theorem inlX1 : ∀ w ∈ wsX10, w ∈ wsL_law := fun _ h => List.mem_append_left _ (List.mem_append_left _ (List.mem_append_left _ (List.mem_append_left _ (List.mem_append_left _ (List.mem_append_left _ (List.mem_append_right _ h))))))
theorem inlX2 : ∀ w ∈ wsX20, w ∈ wsL_law := fun _ h => List.mem_append_left _ (List.mem_append_left _ (List.mem_append_left _ (List.mem_append_left _ (List.mem_append_left _ (List.mem_append_left _ (List.mem_append_left _ (List.mem_append_right _ h)))))))
theorem inlX3 : ∀ w ∈ wsX30, w ∈ wsL_law := fun _ h => List.mem_append_left _ (List.mem_append_left _ (List.mem_append_left _ (List.mem_append_left _ (List.mem_append_left _ (List.mem_append_left _ (List.mem_append_left _ (List.mem_append_left _ (List.mem_append_right _ h))))))))
theorem inlX4 : ∀ w ∈ wsX40, w ∈ wsL_law := fun _ h => List.mem_append_left _ (List.mem_append_left _ (List.mem_append_left _ (List.mem_append_left _ (List.mem_append_left _ (List.mem_append_right _ h)))))
theorem inlX5 : ∀ w ∈ wsX50, w ∈ wsL_law := fun _ h => List.mem_append_left _ (List.mem_append_left _ (List.mem_append_left _ (List.mem_append_left _ (List.mem_append_left _ (List.mem_append_left _ (List.mem_append_left _ (List.mem_append_left _ (List.mem_append_left _ (List.mem_append_right _ h)))))))))
theorem inlX6 : ∀ w ∈ wsX60, w ∈ wsL_law := fun _ h => List.mem_append_left _ (List.mem_append_left _ (List.mem_append_left _ (List.mem_append_left _ (List.mem_append_left _ (List.mem_append_left _ (List.mem_append_left _ (List.mem_append_left _ (List.mem_append_left _ (List.mem_append_left _ (List.mem_append_right _ h))))))))))
abbrev vwCl : List vw_C := [(RX0, TX0, 12), (RX1, TX1, 6), (RX2, TX2, 3), (RX3, TX3, 4), (RX4, TX4, 5), (RX5, TX5, 4), (RX6, TX6, 7)]

def RX0 : String := "CanyonBall$Ball"
def TX0 : u_T := fun k => match k with
  | 0 => ("CanyonBall$Ball", "place", "I", false)
  | 1 => ("CanyonBall$Ball", "speed", "I", false)
  | _ => ("CanyonBall$Ball", "isRight", "Z", false)
def tyX0 : Nat → FieldType := fun k => match k with
  | 0 => .int
  | 1 => .int
  | _ => .boolean
abbrev wsX00 : List Cond := u_ws RX0 TX0 3
theorem nmX0 : ∀ a, a < 3 → ∀ b, b < 3 → a ≠ b → (TX0 a).2.1 ≠ (TX0 b).2.1 := by decide +kernel
theorem tyX0_ok : ∀ k, k < 3 → parseFieldDescriptor (TX0 k).2.2.1 = some (tyX0 k) := by decide +kernel
abbrev cX0_init : ByteArray := prog_2_method_1_code
def yX0_init : MethodName := ⟨RX0, "<init>", "()V"⟩
abbrev cX0_copyFrom : ByteArray := prog_2_method_2_code
def yX0_copyFrom : MethodName := ⟨RX0, "copyFrom", "(LCanyonBall$Ball;)V"⟩
abbrev cX0_rightNumber : ByteArray := prog_2_method_3_code
def yX0_rightNumber : MethodName := ⟨RX0, "rightNumber", "()I"⟩
abbrev cX0_goTurn : ByteArray := prog_2_method_4_code
def yX0_goTurn : MethodName := ⟨RX0, "goTurn", "(I)V"⟩
abbrev cX0_goStep : ByteArray := prog_2_method_5_code
def yX0_goStep : MethodName := ⟨RX0, "goStep", "(I)V"⟩
abbrev cX0_unfoldedPlaceIn : ByteArray := prog_2_method_6_code
def yX0_unfoldedPlaceIn : MethodName := ⟨RX0, "unfoldedPlaceIn", "(II)I"⟩
abbrev cX0_followWord : ByteArray := prog_2_method_7_code
def yX0_followWord : MethodName := ⟨RX0, "followWord", "(I)V"⟩
def RX1 : String := "CanyonBall$Canyon"
def TX1 : u_T := fun k => match k with
  | 0 => ("CanyonBall$Canyon", "clock", "I", false)
  | 1 => ("CanyonBall$Canyon", "refused", "I", false)
  | 2 => ("CanyonBall$Canyon", "echoCount", "I", false)
  | 3 => ("CanyonBall$Canyon", "settings", "[I", true)
  | 4 => ("CanyonBall$Canyon", "ball", "LCanyonBall$Ball;", true)
  | 5 => ("CanyonBall$Canyon", "players", "[LCanyonBall$Player;", true)
  | _ => ("CanyonBall$Canyon", "echoes", "[LCanyonBall$Echo;", true)
def tyX1 : Nat → FieldType := fun k => match k with
  | 0 => .int
  | 1 => .int
  | 2 => .int
  | 3 => .array .int
  | 4 => .object "CanyonBall$Ball"
  | 5 => .array (.object "CanyonBall$Player")
  | _ => .array (.object "CanyonBall$Echo")
abbrev wsX10 : List Cond := u_ws RX1 TX1 7
theorem nmX1 : ∀ a, a < 7 → ∀ b, b < 7 → a ≠ b → (TX1 a).2.1 ≠ (TX1 b).2.1 := by decide +kernel
theorem tyX1_ok : ∀ k, k < 7 → parseFieldDescriptor (TX1 k).2.2.1 = some (tyX1 k) := by decide +kernel
abbrev cX1_init : ByteArray := prog_3_method_1_code
def yX1_init : MethodName := ⟨RX1, "<init>", "()V"⟩
abbrev cX1_copyFrom : ByteArray := prog_3_method_2_code
def yX1_copyFrom : MethodName := ⟨RX1, "copyFrom", "(LCanyonBall$Canyon;)V"⟩
abbrev cX1_lastPlace : ByteArray := prog_3_method_3_code
def yX1_lastPlace : MethodName := ⟨RX1, "lastPlace", "()I"⟩
abbrev cX1_furthestPlace : ByteArray := prog_3_method_4_code
def yX1_furthestPlace : MethodName := ⟨RX1, "furthestPlace", "()I"⟩
abbrev cX1_hasTimeFor : ByteArray := prog_3_method_5_code
def yX1_hasTimeFor : MethodName := ⟨RX1, "hasTimeFor", "(I)Z"⟩
abbrev cX1_echoTime : ByteArray := prog_3_method_6_code
def yX1_echoTime : MethodName := ⟨RX1, "echoTime", "(II)I"⟩
abbrev cX1_echoesOf : ByteArray := prog_3_method_7_code
def yX1_echoesOf : MethodName := ⟨RX1, "echoesOf", "(I)I"⟩
abbrev cX1_sendEchoes : ByteArray := prog_3_method_8_code
def yX1_sendEchoes : MethodName := ⟨RX1, "sendEchoes", "(II)I"⟩
abbrev cX1_addEcho : ByteArray := prog_3_method_9_code
def yX1_addEcho : MethodName := ⟨RX1, "addEcho", "(III)V"⟩
abbrev cX1_movePlayer : ByteArray := prog_3_method_10_code
def yX1_movePlayer : MethodName := ⟨RX1, "movePlayer", "(II)I"⟩
abbrev cX1_goTurns : ByteArray := prog_3_method_11_code
def yX1_goTurns : MethodName := ⟨RX1, "goTurns", "(I)I"⟩
abbrev cX1_goTurn : ByteArray := prog_3_method_12_code
def yX1_goTurn : MethodName := ⟨RX1, "goTurn", "()I"⟩
abbrev cX1_isCatch : ByteArray := prog_3_method_13_code
def yX1_isCatch : MethodName := ⟨RX1, "isCatch", "(I)Z"⟩
abbrev cX1_dropFirstEchoes : ByteArray := prog_3_method_14_code
def yX1_dropFirstEchoes : MethodName := ⟨RX1, "dropFirstEchoes", "(I)V"⟩
abbrev cX1_echoClashes : ByteArray := prog_3_method_15_code
def yX1_echoClashes : MethodName := ⟨RX1, "echoClashes", "(I)Z"⟩
abbrev cX1_isEchoDue : ByteArray := prog_3_method_16_code
def yX1_isEchoDue : MethodName := ⟨RX1, "isEchoDue", "(II)Z"⟩
abbrev cX1_newEchoClashes : ByteArray := prog_3_method_17_code
def yX1_newEchoClashes : MethodName := ⟨RX1, "newEchoClashes", "(II)Z"⟩
abbrev cX1_turnsToWait : ByteArray := prog_3_method_18_code
def yX1_turnsToWait : MethodName := ⟨RX1, "turnsToWait", "(I)I"⟩
abbrev cX1_meetsBallAlone : ByteArray := prog_3_method_19_code
def yX1_meetsBallAlone : MethodName := ⟨RX1, "meetsBallAlone", "(II)Z"⟩
abbrev cX1_turnsToQuiet : ByteArray := prog_3_method_20_code
def yX1_turnsToQuiet : MethodName := ⟨RX1, "turnsToQuiet", "()I"⟩
abbrev cX1_shareAnswered : ByteArray := prog_3_method_22_code
def yX1_shareAnswered : MethodName := ⟨RX1, "shareAnswered", "()D"⟩
abbrev cX1_playerNumber : ByteArray := prog_3_method_23_code
def yX1_playerNumber : MethodName := ⟨RX1, "playerNumber", "(II)I"⟩
abbrev cX1_sumOfPlayers : ByteArray := prog_3_method_24_code
def yX1_sumOfPlayers : MethodName := ⟨RX1, "sumOfPlayers", "(I)I"⟩
abbrev cX1_echoNumber : ByteArray := prog_3_method_25_code
def yX1_echoNumber : MethodName := ⟨RX1, "echoNumber", "(II)I"⟩
abbrev cX1_number : ByteArray := prog_3_method_26_code
def yX1_number : MethodName := ⟨RX1, "number", "(I)I"⟩
def RX2 : String := "CanyonBall$Echo"
def TX2 : u_T := fun k => match k with
  | 0 => ("CanyonBall$Echo", "player", "I", false)
  | 1 => ("CanyonBall$Echo", "place", "I", false)
  | 2 => ("CanyonBall$Echo", "word", "I", false)
  | 3 => ("CanyonBall$Echo", "due", "I", false)
  | _ => ("CanyonBall$Echo", "wall", "I", false)
def tyX2 : Nat → FieldType := fun k => match k with
  | 0 => .int
  | 1 => .int
  | 2 => .int
  | 3 => .int
  | _ => .int
abbrev wsX20 : List Cond := u_ws RX2 TX2 5
theorem nmX2 : ∀ a, a < 5 → ∀ b, b < 5 → a ≠ b → (TX2 a).2.1 ≠ (TX2 b).2.1 := by decide +kernel
theorem tyX2_ok : ∀ k, k < 5 → parseFieldDescriptor (TX2 k).2.2.1 = some (tyX2 k) := by decide +kernel
abbrev cX2_init : ByteArray := prog_4_method_1_code
def yX2_init : MethodName := ⟨RX2, "<init>", "()V"⟩
abbrev cX2_copyFrom : ByteArray := prog_4_method_2_code
def yX2_copyFrom : MethodName := ⟨RX2, "copyFrom", "(LCanyonBall$Echo;)V"⟩
abbrev cX2_comesTo : ByteArray := prog_4_method_3_code
def yX2_comesTo : MethodName := ⟨RX2, "comesTo", "(II)Z"⟩
def RX3 : String := "CanyonBall$History"
def TX3 : u_T := fun k => match k with
  | 0 => ("CanyonBall$History", "states", "[LCanyonBall$Canyon;", true)
  | _ => ("CanyonBall$History", "size", "I", false)
def tyX3 : Nat → FieldType := fun k => match k with
  | 0 => .array (.object "CanyonBall$Canyon")
  | _ => .int
abbrev wsX30 : List Cond := u_ws RX3 TX3 2
theorem nmX3 : ∀ a, a < 2 → ∀ b, b < 2 → a ≠ b → (TX3 a).2.1 ≠ (TX3 b).2.1 := by decide +kernel
theorem tyX3_ok : ∀ k, k < 2 → parseFieldDescriptor (TX3 k).2.2.1 = some (tyX3 k) := by decide +kernel
abbrev cX3_init : ByteArray := prog_5_method_1_code
def yX3_init : MethodName := ⟨RX3, "<init>", "()V"⟩
abbrev cX3_save : ByteArray := prog_5_method_2_code
def yX3_save : MethodName := ⟨RX3, "save", "(LCanyonBall$Canyon;)V"⟩
abbrev cX3_dropOldest : ByteArray := prog_5_method_3_code
def yX3_dropOldest : MethodName := ⟨RX3, "dropOldest", "()V"⟩
abbrev cX3_restoreLatest : ByteArray := prog_5_method_4_code
def yX3_restoreLatest : MethodName := ⟨RX3, "restoreLatest", "(LCanyonBall$Canyon;)V"⟩
def RX4 : String := "CanyonBall$Player"
def TX4 : u_T := fun k => match k with
  | 0 => ("CanyonBall$Player", "place", "I", false)
  | 1 => ("CanyonBall$Player", "caught", "I", false)
  | 2 => ("CanyonBall$Player", "calls", "I", false)
  | 3 => ("CanyonBall$Player", "answered", "I", false)
  | 4 => ("CanyonBall$Player", "clashed", "I", false)
  | _ => ("CanyonBall$Player", "lost", "I", false)
def tyX4 : Nat → FieldType := fun k => match k with
  | 0 => .int
  | 1 => .int
  | 2 => .int
  | 3 => .int
  | 4 => .int
  | _ => .int
abbrev wsX40 : List Cond := u_ws RX4 TX4 6
theorem nmX4 : ∀ a, a < 6 → ∀ b, b < 6 → a ≠ b → (TX4 a).2.1 ≠ (TX4 b).2.1 := by decide +kernel
theorem tyX4_ok : ∀ k, k < 6 → parseFieldDescriptor (TX4 k).2.2.1 = some (tyX4 k) := by decide +kernel
abbrev cX4_init : ByteArray := prog_6_method_1_code
def yX4_init : MethodName := ⟨RX4, "<init>", "(I)V"⟩
abbrev cX4_copyFrom : ByteArray := prog_6_method_2_code
def yX4_copyFrom : MethodName := ⟨RX4, "copyFrom", "(LCanyonBall$Player;)V"⟩
def RX5 : String := "CanyonBall$TurnText"
def TX5 : u_T := fun k => match k with
  | 0 => ("CanyonBall$TurnText", "codes", "[I", true)
  | _ => ("CanyonBall$TurnText", "length", "I", false)
def tyX5 : Nat → FieldType := fun k => match k with
  | 0 => .array .int
  | _ => .int
abbrev wsX50 : List Cond := u_ws RX5 TX5 2
theorem nmX5 : ∀ a, a < 2 → ∀ b, b < 2 → a ≠ b → (TX5 a).2.1 ≠ (TX5 b).2.1 := by decide +kernel
theorem tyX5_ok : ∀ k, k < 2 → parseFieldDescriptor (TX5 k).2.2.1 = some (tyX5 k) := by decide +kernel
abbrev cX5_init : ByteArray := prog_7_method_1_code
def yX5_init : MethodName := ⟨RX5, "<init>", "()V"⟩
def RX6 : String := "CanyonBall"
def TX6 : u_T := fun k => match k with
  | 0 => ("CanyonBall", "now", "LCanyonBall$Canyon;", true)
  | 1 => ("CanyonBall", "history", "LCanyonBall$History;", true)
  | 2 => ("CanyonBall", "slots", "[LCanyonBall$Canyon;", true)
  | 3 => ("CanyonBall", "isKept", "[Z", true)
  | 4 => ("CanyonBall", "text", "LCanyonBall$TurnText;", true)
  | _ => ("CanyonBall", "scratchBall", "LCanyonBall$Ball;", true)
def tyX6 : Nat → FieldType := fun k => match k with
  | 0 => .object "CanyonBall$Canyon"
  | 1 => .object "CanyonBall$History"
  | 2 => .array (.object "CanyonBall$Canyon")
  | 3 => .array .boolean
  | 4 => .object "CanyonBall$TurnText"
  | _ => .object "CanyonBall$Ball"
abbrev wsX60 : List Cond := u_ws RX6 TX6 6
theorem nmX6 : ∀ a, a < 6 → ∀ b, b < 6 → a ≠ b → (TX6 a).2.1 ≠ (TX6 b).2.1 := by decide +kernel
theorem tyX6_ok : ∀ k, k < 6 → parseFieldDescriptor (TX6 k).2.2.1 = some (tyX6 k) := by decide +kernel
abbrev cX6_init : ByteArray := prog_1_method_1_code
def yX6_init : MethodName := ⟨RX6, "<init>", "()V"⟩
abbrev cX6_call : ByteArray := prog_1_method_2_code
def yX6_call : MethodName := ⟨RX6, "call", "(II)I"⟩
abbrev cX6_walk : ByteArray := prog_1_method_3_code
def yX6_walk : MethodName := ⟨RX6, "walk", "(II)I"⟩
abbrev cX6_throwBall : ByteArray := prog_1_method_4_code
def yX6_throwBall : MethodName := ⟨RX6, "throwBall", "(IIZ)I"⟩
abbrev cX6_set : ByteArray := prog_1_method_5_code
def yX6_set : MethodName := ⟨RX6, "set", "(II)I"⟩
abbrev cX6_pass : ByteArray := prog_1_method_6_code
def yX6_pass : MethodName := ⟨RX6, "pass", "(I)I"⟩
abbrev cX6_undo : ByteArray := prog_1_method_13_code
def yX6_undo : MethodName := ⟨RX6, "undo", "()I"⟩
abbrev cX6_playerOf : ByteArray := prog_1_method_14_code
def yX6_playerOf : MethodName := ⟨RX6, "playerOf", "(II)I"⟩
abbrev cX6_echoOf : ByteArray := prog_1_method_15_code
def yX6_echoOf : MethodName := ⟨RX6, "echoOf", "(II)I"⟩
abbrev cX6_count : ByteArray := prog_1_method_16_code
def yX6_count : MethodName := ⟨RX6, "count", "(I)I"⟩
abbrev cX6_ballIn : ByteArray := prog_1_method_18_code
def yX6_ballIn : MethodName := ⟨RX6, "ballIn", "(II)I"⟩
abbrev cX6_echoIn : ByteArray := prog_1_method_19_code
def yX6_echoIn : MethodName := ⟨RX6, "echoIn", "(II)I"⟩
abbrev cX6_wouldClash : ByteArray := prog_1_method_20_code
def yX6_wouldClash : MethodName := ⟨RX6, "wouldClash", "(II)I"⟩
abbrev cX6_callIn : ByteArray := prog_1_method_21_code
def yX6_callIn : MethodName := ⟨RX6, "callIn", "(I)I"⟩
abbrev cX6_quietIn : ByteArray := prog_1_method_22_code
def yX6_quietIn : MethodName := ⟨RX6, "quietIn", "()I"⟩
abbrev cX6_answeredShare : ByteArray := prog_1_method_24_code
def yX6_answeredShare : MethodName := ⟨RX6, "answeredShare", "()D"⟩
abbrev cX6_checkPlayer : ByteArray := prog_1_method_26_code
def yX6_checkPlayer : MethodName := ⟨RX6, "checkPlayer", "(I)V"⟩
abbrev cX6_checkSetting : ByteArray := prog_1_method_27_code
def yX6_checkSetting : MethodName := ⟨RX6, "checkSetting", "(I)V"⟩
abbrev cX6_checkRange : ByteArray := prog_1_method_28_code
def yX6_checkRange : MethodName := ⟨RX6, "checkRange", "(III)V"⟩
abbrev cX6_countNumber : ByteArray := prog_1_method_30_code
def yX6_countNumber : MethodName := ⟨RX6, "countNumber", "(I)I"⟩
abbrev cX6_ballNumber : ByteArray := prog_1_method_31_code
def yX6_ballNumber : MethodName := ⟨RX6, "ballNumber", "(II)I"⟩
def RX7 : String := "CanyonBallModel"
def TX7 : u_T := fun k => match k with
  | _ => ("", "", "", false)
def tyX7 : Nat → FieldType := fun k => match k with
  | _ => .int
abbrev wsX70 : List Cond := u_ws RX7 TX7 0
theorem nmX7 : ∀ a, a < 0 → ∀ b, b < 0 → a ≠ b → (TX7 a).2.1 ≠ (TX7 b).2.1 := by decide +kernel
theorem tyX7_ok : ∀ k, k < 0 → parseFieldDescriptor (TX7 k).2.2.1 = some (tyX7 k) := by decide +kernel
def RJ9 : String := "java/lang/Math"
def TJ9 : u_T := fun k => match k with
  | _ => ("", "", "", false)
def tyJ9 : Nat → FieldType := fun k => match k with
  | _ => .int
abbrev wsJ90 : List Cond := u_ws RJ9 TJ9 0
theorem nmJ9 : ∀ a, a < 0 → ∀ b, b < 0 → a ≠ b → (TJ9 a).2.1 ≠ (TJ9 b).2.1 := by decide +kernel
theorem tyJ9_ok : ∀ k, k < 0 → parseFieldDescriptor (TJ9 k).2.2.1 = some (tyJ9 k) := by decide +kernel
abbrev cJ9_max_7cf53 : ByteArray := prog_14_method_65_code
def yJ9_max_7cf53 : MethodName := ⟨RJ9, "max", "(II)I"⟩
abbrev cJ9_min_7cf53 : ByteArray := prog_14_method_69_code
def yJ9_min_7cf53 : MethodName := ⟨RJ9, "min", "(II)I"⟩
def RJ0 : String := "java/lang/String"
def TJ0 : u_T := fun k => match k with
  | _ => ("", "", "", false)
def tyJ0 : Nat → FieldType := fun k => match k with
  | _ => .int
abbrev wsJ00 : List Cond := u_ws RJ0 TJ0 0
theorem nmJ0 : ∀ a, a < 0 → ∀ b, b < 0 → a ≠ b → (TJ0 a).2.1 ≠ (TJ0 b).2.1 := by decide +kernel
theorem tyJ0_ok : ∀ k, k < 0 → parseFieldDescriptor (TJ0 k).2.2.1 = some (tyJ0 k) := by decide +kernel
def RL : String := "CanyonBallLaw"
abbrev cL_cell : ByteArray := method_2_code
def yL_cell : MethodName := ⟨RL, "cell", "([II)I"⟩
abbrev cL_low : ByteArray := method_3_code
def yL_low : MethodName := ⟨RL, "low", "(II)I"⟩
abbrev cL_call : ByteArray := method_4_code
def yL_call : MethodName := ⟨RL, "call", "(LCanyonBall;II)I"⟩
abbrev cL_walk : ByteArray := method_5_code
def yL_walk : MethodName := ⟨RL, "walk", "(LCanyonBall;II)I"⟩
abbrev cL_set : ByteArray := method_6_code
def yL_set : MethodName := ⟨RL, "set", "(LCanyonBall;II)I"⟩
abbrev cL_pass : ByteArray := method_7_code
def yL_pass : MethodName := ⟨RL, "pass", "(LCanyonBall;I)I"⟩
abbrev cL_undo : ByteArray := method_8_code
def yL_undo : MethodName := ⟨RL, "undo", "(LCanyonBall;)I"⟩
abbrev cL_playerOf : ByteArray := method_9_code
def yL_playerOf : MethodName := ⟨RL, "playerOf", "(LCanyonBall;II)I"⟩
abbrev cL_echoOf : ByteArray := method_10_code
def yL_echoOf : MethodName := ⟨RL, "echoOf", "(LCanyonBall;II)I"⟩
abbrev cL_count : ByteArray := method_11_code
def yL_count : MethodName := ⟨RL, "count", "(LCanyonBall;I)I"⟩
abbrev cL_ballIn : ByteArray := method_12_code
def yL_ballIn : MethodName := ⟨RL, "ballIn", "(LCanyonBall;II)I"⟩
abbrev cL_echoIn : ByteArray := method_13_code
def yL_echoIn : MethodName := ⟨RL, "echoIn", "(LCanyonBall;II)I"⟩
abbrev cL_wouldClash : ByteArray := method_14_code
def yL_wouldClash : MethodName := ⟨RL, "wouldClash", "(LCanyonBall;II)I"⟩
abbrev cL_callIn : ByteArray := method_15_code
def yL_callIn : MethodName := ⟨RL, "callIn", "(LCanyonBall;I)I"⟩
abbrev cL_throwBall : ByteArray := method_16_code
def yL_throwBall : MethodName := ⟨RL, "throwBall", "(LCanyonBall;IIZ)I"⟩
abbrev cL_delay : ByteArray := method_17_code
def yL_delay : MethodName := ⟨RL, "delay", "(II[I)I"⟩
abbrev cL_many : ByteArray := method_18_code
def yL_many : MethodName := ⟨RL, "many", "(I[I[I)I"⟩
abbrev cL_coming : ByteArray := method_19_code
def yL_coming : MethodName := ⟨RL, "coming", "(II[I[I[I)I"⟩
abbrev cL_calls : ByteArray := method_20_code
def yL_calls : MethodName := ⟨RL, "calls", "(II[I[I[I[I)I"⟩
abbrev cL_comes : ByteArray := method_21_code
def yL_comes : MethodName := ⟨RL, "comes", "([I[I[I[I)I"⟩
abbrev cL_moves : ByteArray := method_22_code
def yL_moves : MethodName := ⟨RL, "moves", "(I[I)V"⟩
abbrev cL_passes : ByteArray := method_23_code
def yL_passes : MethodName := ⟨RL, "passes", "(I[I[I[I[I)I"⟩
abbrev cL_hasRoom : ByteArray := method_24_code
def yL_hasRoom : MethodName := ⟨RL, "hasRoom", "(I[I[I[I)Z"⟩
abbrev cL_told : ByteArray := method_25_code
def yL_told : MethodName := ⟨RL, "told", "(LCanyonBall;)J"⟩
abbrev cL_does : ByteArray := method_26_code
def yL_does : MethodName := ⟨RL, "does", "(LCanyonBall;III)I"⟩
abbrev cL_due : ByteArray := method_27_code
def yL_due : MethodName := ⟨RL, "due", "(III[I[I[I[I)I"⟩
abbrev cL_areEchoes : ByteArray := method_28_code
def yL_areEchoes : MethodName := ⟨RL, "areEchoes", "(LCanyonBall;[I[I[I)Z"⟩
abbrev cL_meets : ByteArray := method_29_code
def yL_meets : MethodName := ⟨RL, "meets", "(III[I[I[I[I)Z"⟩
abbrev cL_isSo : ByteArray := method_30_code
def yL_isSo : MethodName := ⟨RL, "isSo", "(LCanyonBall;I[I[I[I[I)Z"⟩
abbrev cL_law : ByteArray := code
def yL_law : MethodName := ⟨RL, "law", "([I)Z"⟩
def wsL_law0_r1 : List Cond := [Cond.classLink RL 11 RX6, Cond.instantiable RX6 6, Cond.initialized RX6, Cond.arrayClass .int, Cond.methodLink RL 144 yX6_init, Cond.instanceMethod yX6_init, Cond.code yX6_init cX6_init 2 none, Cond.methodLink RX6 1 objectInit, Cond.instanceMethod objectInit, Cond.code objectInit ⟨#[0xb1]⟩ 1 none, Cond.classLink RX6 7 RX1, Cond.instantiable RX1 7, Cond.initialized RX1, Cond.fieldLink RX6 10 "CanyonBall" "now" "LCanyonBall$Canyon;", Cond.classLink RX6 16 RX3, Cond.instantiable RX3 2, Cond.initialized RX3, Cond.fieldLink RX6 19 "CanyonBall" "history" "LCanyonBall$History;", Cond.fieldLink RX6 23 "CanyonBall" "slots" "[LCanyonBall$Canyon;", Cond.arrayClass .boolean, Cond.fieldLink RX6 27 "CanyonBall" "isKept" "[Z", Cond.classLink RX6 31 RX5, Cond.instantiable RX5 2, Cond.initialized RX5]
def wsL_law0_r2 : List Cond := [Cond.fieldLink RX6 34 "CanyonBall" "text" "LCanyonBall$TurnText;", Cond.classLink RX6 38 RX0, Cond.instantiable RX0 3, Cond.initialized RX0, Cond.fieldLink RX6 41 "CanyonBall" "scratchBall" "LCanyonBall$Ball;", Cond.methodLink RX6 9 yX1_init, Cond.instanceMethod yX1_init, Cond.code yX1_init cX1_init 2 none, Cond.methodLink RX1 3 objectInit, Cond.fieldLink RX1 9 "CanyonBall$Canyon" "settings" "[I", Cond.classLink RX1 15 RX0, Cond.fieldLink RX1 18 "CanyonBall$Canyon" "ball" "LCanyonBall$Ball;", Cond.classLink RX1 22 RX4, Cond.fieldLink RX1 24 "CanyonBall$Canyon" "players" "[LCanyonBall$Player;", Cond.classLink RX1 28 RX2, Cond.fieldLink RX1 30 "CanyonBall$Canyon" "echoes" "[LCanyonBall$Echo;", Cond.instantiable RX4 6, Cond.initialized RX4, Cond.instantiable RX2 5, Cond.initialized RX2, Cond.instanceMethod yX0_init, Cond.code yX0_init cX0_init 1 none, Cond.methodLink RX0 3 objectInit, Cond.fieldLink RX0 9 "CanyonBall$Ball" "speed" "I"]
def wsL_law0_r3 : List Cond := [Cond.fieldLink RX0 15 "CanyonBall$Ball" "isRight" "Z", Cond.methodLink RX1 37 yX4_init, Cond.instanceMethod yX4_init, Cond.code yX4_init cX4_init 2 none, Cond.methodLink RX4 1 objectInit, Cond.fieldLink RX4 7 "CanyonBall$Player" "place" "I", Cond.instanceMethod yX2_init, Cond.code yX2_init cX2_init 1 none, Cond.methodLink RX2 1 objectInit, Cond.methodLink RX6 18 yX3_init, Cond.instanceMethod yX3_init, Cond.code yX3_init cX3_init 2 none, Cond.methodLink RX3 1 objectInit, Cond.classLink RX3 9 RX1, Cond.fieldLink RX3 11 "CanyonBall$History" "states" "[LCanyonBall$Canyon;", Cond.methodLink RX3 15 yX1_init, Cond.instanceMethod yX5_init, Cond.code yX5_init cX5_init 1 none, Cond.methodLink RX5 3 objectInit, Cond.fieldLink RX5 11 "CanyonBall$TurnText" "codes" "[I", Cond.methodLink RL 145 yL_cell, Cond.static yL_cell, Cond.initialized RL, Cond.code yL_cell cL_cell 2 (some .int)]
def wsL_law0_r4 : List Cond := [Cond.constant RL 7 (40847), Cond.constant RL 8 (2803171), Cond.methodLink RL 101 yL_low, Cond.static yL_low, Cond.code yL_low cL_low 2 (some .int), Cond.constant RL 9 (2147483647), Cond.methodLink RL 138 yL_callIn, Cond.static yL_callIn, Cond.codeWith yL_callIn cL_callIn 3 (some .int) [(0, 5, 6, 16)], Cond.classLink RL 16 "java/lang/IndexOutOfBoundsException", Cond.methodLink RL 54 yX6_callIn, Cond.instanceMethod yX6_callIn, Cond.selects RX6 yX6_callIn yX6_callIn, Cond.code yX6_callIn cX6_callIn 2 (some .int), Cond.methodLink RX6 45 yX6_checkPlayer, Cond.static yX6_checkPlayer, Cond.code yX6_checkPlayer cX6_checkPlayer 1 none, Cond.classLink RX6 224 "java/lang/IndexOutOfBoundsException", Cond.initialized "java/lang/IndexOutOfBoundsException", Cond.methodLink RX6 188 yX1_turnsToWait, Cond.instanceMethod yX1_turnsToWait, Cond.selects RX1 yX1_turnsToWait yX1_turnsToWait, Cond.code yX1_turnsToWait cX1_turnsToWait 6 (some .int), Cond.fieldLink RX1 64 "CanyonBall$Player" "place" "I"]
def wsL_law0_r5 : List Cond := [Cond.methodLink RX1 91 yX1_echoTime, Cond.instanceMethod yX1_echoTime, Cond.selects RX1 yX1_echoTime yX1_echoTime, Cond.code yX1_echoTime cX1_echoTime 6 (some .int), Cond.methodLink RX1 65 Lib.Math.max.name, Cond.static Lib.Math.max.name, Cond.initialized "java/lang/Math", Cond.code Lib.Math.max.name Lib.Math.max.code 2 (some .int), Cond.methodLink RX1 73 yX1_lastPlace, Cond.instanceMethod yX1_lastPlace, Cond.selects RX1 yX1_lastPlace yX1_lastPlace, Cond.code yX1_lastPlace cX1_lastPlace 1 (some .int), Cond.methodLink RX1 143 yX1_meetsBallAlone, Cond.instanceMethod yX1_meetsBallAlone, Cond.selects RX1 yX1_meetsBallAlone yX1_meetsBallAlone, Cond.code yX1_meetsBallAlone cX1_meetsBallAlone 3 (some .boolean), Cond.methodLink RX1 146 yX0_unfoldedPlaceIn, Cond.instanceMethod yX0_unfoldedPlaceIn, Cond.selects RX0 yX0_unfoldedPlaceIn yX0_unfoldedPlaceIn, Cond.code yX0_unfoldedPlaceIn cX0_unfoldedPlaceIn 6 (some .int), Cond.methodLink RX0 26 Lib.Math.max.name, Cond.fieldLink RX0 19 "CanyonBall$Ball" "place" "I", Cond.methodLink RX1 140 yX1_isEchoDue, Cond.instanceMethod yX1_isEchoDue]
def wsL_law0_r6 : List Cond := [Cond.selects RX1 yX1_isEchoDue yX1_isEchoDue, Cond.code yX1_isEchoDue cX1_isEchoDue 4 (some .boolean), Cond.fieldLink RX1 48 "CanyonBall$Canyon" "echoCount" "I", Cond.fieldLink RX1 41 "CanyonBall$Canyon" "clock" "I", Cond.methodLink RX1 136 yX2_comesTo, Cond.instanceMethod yX2_comesTo, Cond.selects RX2 yX2_comesTo yX2_comesTo, Cond.code yX2_comesTo cX2_comesTo 3 (some .boolean), Cond.fieldLink RX2 13 "CanyonBall$Echo" "place" "I", Cond.fieldLink RX2 19 "CanyonBall$Echo" "due" "I", Cond.methodLink RL 149 yL_told, Cond.static yL_told, Cond.code yL_told cL_told 5 (some .long), Cond.constantLong RL 83 (43), Cond.constantLong RL 85 (31), Cond.methodLink RL 87 yL_count, Cond.static yL_count, Cond.codeWith yL_count cL_count 3 (some .int) [(0, 5, 6, 18)], Cond.classLink RL 18 "java/lang/IllegalArgumentException", Cond.methodLink RL 42 yX6_count, Cond.instanceMethod yX6_count, Cond.selects RX6 yX6_count yX6_count, Cond.code yX6_count cX6_count 2 (some .int), Cond.methodLink RX6 49 yX6_checkRange]
def wsL_law0_r7 : List Cond := [Cond.static yX6_checkRange, Cond.code yX6_checkRange cX6_checkRange 3 none, Cond.classLink RX6 133 "java/lang/IllegalArgumentException", Cond.initialized "java/lang/IllegalArgumentException", Cond.methodLink RX6 168 yX6_countNumber, Cond.instanceMethod yX6_countNumber, Cond.selects RX6 yX6_countNumber yX6_countNumber, Cond.code yX6_countNumber cX6_countNumber 2 (some .int), Cond.fieldLink RX6 152 "CanyonBall$History" "size" "I", Cond.methodLink RX6 242 yX1_number, Cond.instanceMethod yX1_number, Cond.selects RX1 yX1_number yX1_number, Cond.code yX1_number cX1_number 2 (some .int), Cond.fieldLink RX1 61 "CanyonBall$Ball" "place" "I", Cond.fieldLink RX1 159 "CanyonBall$Ball" "speed" "I", Cond.fieldLink RX1 45 "CanyonBall$Canyon" "refused" "I", Cond.methodLink RX1 162 yX0_rightNumber, Cond.instanceMethod yX0_rightNumber, Cond.selects RX0 yX0_rightNumber yX0_rightNumber, Cond.code yX0_rightNumber cX0_rightNumber 1 (some .int), Cond.methodLink RX1 153 yX1_sumOfPlayers, Cond.instanceMethod yX1_sumOfPlayers, Cond.selects RX1 yX1_sumOfPlayers yX1_sumOfPlayers, Cond.code yX1_sumOfPlayers cX1_sumOfPlayers 4 (some .int)]
def wsL_law0_r8 : List Cond := [Cond.methodLink RX1 156 yX1_playerNumber, Cond.instanceMethod yX1_playerNumber, Cond.selects RX1 yX1_playerNumber yX1_playerNumber, Cond.code yX1_playerNumber cX1_playerNumber 3 (some .int), Cond.fieldLink RX1 130 "CanyonBall$Player" "caught" "I", Cond.fieldLink RX1 84 "CanyonBall$Player" "calls" "I", Cond.fieldLink RX1 127 "CanyonBall$Player" "answered" "I", Cond.fieldLink RX1 121 "CanyonBall$Player" "clashed" "I", Cond.fieldLink RX1 124 "CanyonBall$Player" "lost" "I", Cond.methodLink RX1 80 yX1_echoesOf, Cond.instanceMethod yX1_echoesOf, Cond.selects RX1 yX1_echoesOf yX1_echoesOf, Cond.code yX1_echoesOf cX1_echoesOf 4 (some .int), Cond.fieldLink RX1 77 "CanyonBall$Echo" "player" "I", Cond.methodLink RL 90 yL_playerOf, Cond.static yL_playerOf, Cond.codeWith yL_playerOf cL_playerOf 4 (some .int) [(0, 6, 7, 16), (0, 6, 11, 18)], Cond.methodLink RL 36 yX6_playerOf, Cond.instanceMethod yX6_playerOf, Cond.selects RX6 yX6_playerOf yX6_playerOf, Cond.code yX6_playerOf cX6_playerOf 3 (some .int), Cond.methodLink RX6 160 yX1_playerNumber, Cond.methodLink RL 93 yL_echoOf, Cond.static yL_echoOf]
def wsL_law0_r9 : List Cond := [Cond.codeWith yL_echoOf cL_echoOf 4 (some .int) [(0, 6, 7, 18)], Cond.methodLink RL 39 yX6_echoOf, Cond.instanceMethod yX6_echoOf, Cond.selects RX6 yX6_echoOf yX6_echoOf, Cond.code yX6_echoOf cX6_echoOf 3 (some .int), Cond.methodLink RX6 165 yX1_echoNumber, Cond.instanceMethod yX1_echoNumber, Cond.selects RX1 yX1_echoNumber yX1_echoNumber, Cond.code yX1_echoNumber cX1_echoNumber 4 (some .int), Cond.fieldLink RX1 71 "CanyonBall$Echo" "place" "I", Cond.fieldLink RX1 97 "CanyonBall$Echo" "word" "I", Cond.fieldLink RX1 103 "CanyonBall$Echo" "due" "I", Cond.fieldLink RX1 100 "CanyonBall$Echo" "wall" "I", Cond.methodLink RX1 118 yX1_echoClashes, Cond.instanceMethod yX1_echoClashes, Cond.selects RX1 yX1_echoClashes yX1_echoClashes, Cond.code yX1_echoClashes cX1_echoClashes 4 (some .boolean), Cond.methodLink RL 95 yL_echoIn, Cond.static yL_echoIn, Cond.codeWith yL_echoIn cL_echoIn 4 (some .int) [(0, 6, 7, 16), (0, 6, 11, 18)], Cond.methodLink RL 48 yX6_echoIn, Cond.instanceMethod yX6_echoIn, Cond.selects RX6 yX6_echoIn yX6_echoIn, Cond.code yX6_echoIn cX6_echoIn 3 (some .int)]
def wsL_law0_r10 : List Cond := [Cond.fieldLink RX6 174 "CanyonBall$Canyon" "players" "[LCanyonBall$Player;", Cond.fieldLink RX6 178 "CanyonBall$Player" "place" "I", Cond.methodLink RX6 181 yX1_echoTime, Cond.methodLink RL 153 yL_does, Cond.static yL_does, Cond.code yL_does cL_does 4 (some .int), Cond.methodLink RL 97 yL_call, Cond.static yL_call, Cond.codeWith yL_call cL_call 4 (some .int) [(0, 6, 7, 16), (0, 6, 11, 18)], Cond.methodLink RL 10 yX6_call, Cond.instanceMethod yX6_call, Cond.selects RX6 yX6_call yX6_call, Cond.code yX6_call cX6_call 3 (some .int), Cond.methodLink RX6 53 yX3_save, Cond.instanceMethod yX3_save, Cond.selects RX3 yX3_save yX3_save, Cond.code yX3_save cX3_save 2 none, Cond.fieldLink RX3 16 "CanyonBall$History" "size" "I", Cond.methodLink RX3 20 yX3_dropOldest, Cond.instanceMethod yX3_dropOldest, Cond.selects RX3 yX3_dropOldest yX3_dropOldest, Cond.code yX3_dropOldest cX3_dropOldest 3 none, Cond.methodLink RX3 23 yX1_copyFrom, Cond.instanceMethod yX1_copyFrom]
def wsL_law0_r11 : List Cond := [Cond.selects RX1 yX1_copyFrom yX1_copyFrom, Cond.code yX1_copyFrom cX1_copyFrom 3 none, Cond.methodLink RX1 51 yX0_copyFrom, Cond.instanceMethod yX0_copyFrom, Cond.selects RX0 yX0_copyFrom yX0_copyFrom, Cond.code yX0_copyFrom cX0_copyFrom 2 none, Cond.methodLink RX1 55 yX4_copyFrom, Cond.instanceMethod yX4_copyFrom, Cond.selects RX4 yX4_copyFrom yX4_copyFrom, Cond.code yX4_copyFrom cX4_copyFrom 2 none, Cond.fieldLink RX4 13 "CanyonBall$Player" "caught" "I", Cond.fieldLink RX4 16 "CanyonBall$Player" "calls" "I", Cond.fieldLink RX4 19 "CanyonBall$Player" "answered" "I", Cond.fieldLink RX4 22 "CanyonBall$Player" "clashed" "I", Cond.fieldLink RX4 25 "CanyonBall$Player" "lost" "I", Cond.methodLink RX1 58 yX2_copyFrom, Cond.instanceMethod yX2_copyFrom, Cond.selects RX2 yX2_copyFrom yX2_copyFrom, Cond.code yX2_copyFrom cX2_copyFrom 2 none, Cond.fieldLink RX2 7 "CanyonBall$Echo" "player" "I", Cond.fieldLink RX2 16 "CanyonBall$Echo" "word" "I", Cond.fieldLink RX2 22 "CanyonBall$Echo" "wall" "I", Cond.methodLink RX6 57 yX1_sendEchoes, Cond.instanceMethod yX1_sendEchoes]
def wsL_law0_r12 : List Cond := [Cond.selects RX1 yX1_sendEchoes yX1_sendEchoes, Cond.code yX1_sendEchoes cX1_sendEchoes 4 (some .int), Cond.methodLink RX1 94 Lib.Math.min.name, Cond.static Lib.Math.min.name, Cond.code Lib.Math.min.name Lib.Math.min.code 2 (some .int), Cond.methodLink RX1 87 yX1_addEcho, Cond.instanceMethod yX1_addEcho, Cond.selects RX1 yX1_addEcho yX1_addEcho, Cond.code yX1_addEcho cX1_addEcho 6 none, Cond.methodLink RL 99 yL_walk, Cond.static yL_walk, Cond.codeWith yL_walk cL_walk 4 (some .int) [(0, 6, 7, 16), (0, 6, 11, 18)], Cond.methodLink RL 20 yX6_walk, Cond.instanceMethod yX6_walk, Cond.selects RX6 yX6_walk yX6_walk, Cond.code yX6_walk cX6_walk 3 (some .int), Cond.methodLink RX6 61 yX1_movePlayer, Cond.instanceMethod yX1_movePlayer, Cond.selects RX1 yX1_movePlayer yX1_movePlayer, Cond.code yX1_movePlayer cX1_movePlayer 4 (some .int), Cond.methodLink RL 104 yL_throwBall, Cond.static yL_throwBall, Cond.codeWith yL_throwBall cL_throwBall 5 (some .int) [(0, 7, 8, 18)], Cond.methodLink RL 57 yX6_throwBall]
def wsL_law0_r13 : List Cond := [Cond.instanceMethod yX6_throwBall, Cond.selects RX6 yX6_throwBall yX6_throwBall, Cond.code yX6_throwBall cX6_throwBall 5 (some .int), Cond.fieldLink RX6 68 "CanyonBall$Canyon" "ball" "LCanyonBall$Ball;", Cond.fieldLink RX6 71 "CanyonBall$Ball" "place" "I", Cond.fieldLink RX6 75 "CanyonBall$Ball" "speed" "I", Cond.fieldLink RX6 78 "CanyonBall$Ball" "isRight" "Z", Cond.methodLink RX6 64 yX1_lastPlace, Cond.methodLink RL 107 yL_set, Cond.static yL_set, Cond.codeWith yL_set cL_set 4 (some .int) [(0, 6, 7, 16), (0, 6, 11, 18), (0, 6, 15, 26)], Cond.classLink RL 26 "java/lang/IllegalStateException", Cond.methodLink RL 23 yX6_set, Cond.instanceMethod yX6_set, Cond.selects RX6 yX6_set yX6_set, Cond.code yX6_set cX6_set 4 (some .int), Cond.classLink RX6 95 "java/lang/IllegalStateException", Cond.initialized "java/lang/IllegalStateException", Cond.fieldLink RX6 85 "CanyonBall" "LEAST_VALUES" "[I", Cond.fieldLink RX6 89 "CanyonBall" "MOST_VALUES" "[I", Cond.fieldLink RX6 102 "CanyonBall$Canyon" "settings" "[I", Cond.methodLink RX6 82 yX6_checkSetting, Cond.static yX6_checkSetting, Cond.code yX6_checkSetting cX6_checkSetting 1 none]
def wsL_law0_r14 : List Cond := [Cond.methodLink RX6 92 yX1_furthestPlace, Cond.instanceMethod yX1_furthestPlace, Cond.selects RX1 yX1_furthestPlace yX1_furthestPlace, Cond.code yX1_furthestPlace cX1_furthestPlace 3 (some .int), Cond.methodLink RL 109 yL_pass, Cond.static yL_pass, Cond.codeWith yL_pass cL_pass 3 (some .int) [(0, 5, 6, 18), (0, 5, 10, 26)], Cond.methodLink RL 28 yX6_pass, Cond.instanceMethod yX6_pass, Cond.selects RX6 yX6_pass yX6_pass, Cond.code yX6_pass cX6_pass 2 (some .int), Cond.methodLink RX6 105 yX1_hasTimeFor, Cond.instanceMethod yX1_hasTimeFor, Cond.selects RX1 yX1_hasTimeFor yX1_hasTimeFor, Cond.code yX1_hasTimeFor cX1_hasTimeFor 2 (some .boolean), Cond.constant RX1 72 (99999), Cond.methodLink RX6 111 yX1_goTurns, Cond.instanceMethod yX1_goTurns, Cond.selects RX1 yX1_goTurns yX1_goTurns, Cond.code yX1_goTurns cX1_goTurns 4 (some .int), Cond.methodLink RX1 106 yX1_goTurn, Cond.instanceMethod yX1_goTurn, Cond.selects RX1 yX1_goTurn yX1_goTurn, Cond.code yX1_goTurn cX1_goTurn 3 (some .int)]
def wsL_law0_r15 : List Cond := [Cond.methodLink RX1 109 yX0_goTurn, Cond.instanceMethod yX0_goTurn, Cond.selects RX0 yX0_goTurn yX0_goTurn, Cond.code yX0_goTurn cX0_goTurn 3 none, Cond.methodLink RX0 22 yX0_goStep, Cond.instanceMethod yX0_goStep, Cond.selects RX0 yX0_goStep yX0_goStep, Cond.code yX0_goStep cX0_goStep 2 none, Cond.methodLink RX1 111 yX1_isCatch, Cond.instanceMethod yX1_isCatch, Cond.selects RX1 yX1_isCatch yX1_isCatch, Cond.code yX1_isCatch cX1_isCatch 4 (some .boolean), Cond.methodLink RX1 133 yX0_followWord, Cond.instanceMethod yX0_followWord, Cond.selects RX0 yX0_followWord yX0_followWord, Cond.code yX0_followWord cX0_followWord 2 none, Cond.methodLink RX0 32 Lib.Math.min.name, Cond.methodLink RX1 115 yX1_dropFirstEchoes, Cond.instanceMethod yX1_dropFirstEchoes, Cond.selects RX1 yX1_dropFirstEchoes yX1_dropFirstEchoes, Cond.code yX1_dropFirstEchoes cX1_dropFirstEchoes 4 none, Cond.methodLink RL 157 yL_undo, Cond.static yL_undo, Cond.codeWith yL_undo cL_undo 2 (some .int) [(0, 4, 5, 26)]]
def wsL_law0_r16 : List Cond := [Cond.methodLink RL 32 yX6_undo, Cond.instanceMethod yX6_undo, Cond.selects RX6 yX6_undo yX6_undo, Cond.code yX6_undo cX6_undo 1 (some .int), Cond.methodLink RX6 157 yX3_restoreLatest, Cond.instanceMethod yX3_restoreLatest, Cond.selects RX3 yX3_restoreLatest yX3_restoreLatest, Cond.code yX3_restoreLatest cX3_restoreLatest 2 none, Cond.methodLink RL 160 yL_due, Cond.static yL_due, Cond.code yL_due cL_due 11 (some .int), Cond.methodLink RL 111 yL_calls, Cond.static yL_calls, Cond.code yL_calls cL_calls 9 (some .int), Cond.methodLink RL 61 yL_many, Cond.static yL_many, Cond.code yL_many cL_many 5 (some .int), Cond.methodLink RL 67 yL_delay, Cond.static yL_delay, Cond.code yL_delay cL_delay 6 (some .int), Cond.methodLink RL 115 yL_hasRoom, Cond.static yL_hasRoom, Cond.code yL_hasRoom cL_hasRoom 6 (some .boolean), Cond.methodLink RL 119 yL_passes]
def wsL_law0_r17 : List Cond := [Cond.static yL_passes, Cond.code yL_passes cL_passes 7 (some .int), Cond.methodLink RL 75 yL_moves, Cond.static yL_moves, Cond.code yL_moves cL_moves 4 none, Cond.methodLink RL 79 yL_comes, Cond.static yL_comes, Cond.code yL_comes cL_comes 13 (some .int), Cond.methodLink RL 71 yL_coming, Cond.static yL_coming, Cond.code yL_coming cL_coming 7 (some .int), Cond.methodLink RL 164 yL_isSo, Cond.static yL_isSo, Cond.code yL_isSo cL_isSo 15 (some .boolean), Cond.methodLink RL 126 yL_areEchoes, Cond.static yL_areEchoes, Cond.code yL_areEchoes cL_areEchoes 10 (some .boolean), Cond.methodLink RL 123 yX6_quietIn, Cond.instanceMethod yX6_quietIn, Cond.selects RX6 yX6_quietIn yX6_quietIn, Cond.code yX6_quietIn cX6_quietIn 1 (some .int), Cond.methodLink RX6 191 yX1_turnsToQuiet, Cond.instanceMethod yX1_turnsToQuiet, Cond.selects RX1 yX1_turnsToQuiet yX1_turnsToQuiet]
def wsL_law0_r18 : List Cond := [Cond.code yX1_turnsToQuiet cX1_turnsToQuiet 1 (some .int), Cond.methodLink RL 130 yX6_answeredShare, Cond.instanceMethod yX6_answeredShare, Cond.selects RX6 yX6_answeredShare yX6_answeredShare, Cond.code yX6_answeredShare cX6_answeredShare 1 (some .double), Cond.methodLink RX6 197 yX1_shareAnswered, Cond.instanceMethod yX1_shareAnswered, Cond.selects RX1 yX1_shareAnswered yX1_shareAnswered, Cond.code yX1_shareAnswered cX1_shareAnswered 3 (some .double), Cond.methodLink RL 134 yL_meets, Cond.static yL_meets, Cond.code yL_meets cL_meets 13 (some .boolean), Cond.methodLink RL 140 yL_wouldClash, Cond.static yL_wouldClash, Cond.codeWith yL_wouldClash cL_wouldClash 4 (some .int) [(0, 6, 7, 16), (0, 6, 11, 18)], Cond.methodLink RL 51 yX6_wouldClash, Cond.instanceMethod yX6_wouldClash, Cond.selects RX6 yX6_wouldClash yX6_wouldClash, Cond.code yX6_wouldClash cX6_wouldClash 3 (some .int), Cond.methodLink RX6 184 yX1_newEchoClashes, Cond.instanceMethod yX1_newEchoClashes, Cond.selects RX1 yX1_newEchoClashes yX1_newEchoClashes, Cond.code yX1_newEchoClashes cX1_newEchoClashes 5 (some .boolean), Cond.methodLink RL 142 yL_ballIn]
def wsL_law0_r19 : List Cond := [Cond.static yL_ballIn, Cond.codeWith yL_ballIn cL_ballIn 4 (some .int) [(0, 6, 7, 18)], Cond.methodLink RL 45 yX6_ballIn, Cond.instanceMethod yX6_ballIn, Cond.selects RX6 yX6_ballIn yX6_ballIn, Cond.code yX6_ballIn cX6_ballIn 3 (some .int), Cond.methodLink RX6 171 yX6_ballNumber, Cond.instanceMethod yX6_ballNumber, Cond.selects RX6 yX6_ballNumber yX6_ballNumber, Cond.code yX6_ballNumber cX6_ballNumber 4 (some .int), Cond.methodLink RX6 245 yX0_unfoldedPlaceIn, Cond.methodLink RX6 248 yX0_copyFrom, Cond.methodLink RX6 251 yX0_goTurn, Cond.methodLink RX6 254 yX0_rightNumber]
def wsL_law0 : List Cond := (wsL_law0_r1 ++ (wsL_law0_r2 ++ (wsL_law0_r3 ++ (wsL_law0_r4 ++ (wsL_law0_r5 ++ (wsL_law0_r6 ++ (wsL_law0_r7 ++ (wsL_law0_r8 ++ (wsL_law0_r9 ++ (wsL_law0_r10 ++ (wsL_law0_r11 ++ (wsL_law0_r12 ++ (wsL_law0_r13 ++ (wsL_law0_r14 ++ (wsL_law0_r15 ++ (wsL_law0_r16 ++ (wsL_law0_r17 ++ (wsL_law0_r18 ++ wsL_law0_r19)))))))))))))))))) ++ wsX60 ++ wsX10 ++ wsX30 ++ wsX50 ++ wsX00 ++ wsX40 ++ wsX20 ++ ([] : List Cond)
def wsL_law : List Cond := wsL_law0 ++ (vx_atS RX6 228 "java/lang/IndexOutOfBoundsException" ["java/lang/RuntimeException", "java/lang/Exception"]).filter goodWord ++ (vx_atS RX6 137 "java/lang/IllegalArgumentException" ["java/lang/RuntimeException", "java/lang/Exception"]).filter goodWord ++ (vx_atS RX6 99 "java/lang/IllegalStateException" ["java/lang/RuntimeException", "java/lang/Exception"]).filter goodWord
theorem inlX0 : ∀ w ∈ wsX00, w ∈ wsL_law := fun _ h => List.mem_append_left _ (List.mem_append_left _ (List.mem_append_left _ (List.mem_append_left _ (List.mem_append_left _ (List.mem_append_left _ (List.mem_append_right _ h))))))
theorem inlX1 : ∀ w ∈ wsX10, w ∈ wsL_law := fun _ h => List.mem_append_left _ (List.mem_append_left _ (List.mem_append_left _ (List.mem_append_left _ (List.mem_append_left _ (List.mem_append_left _ (List.mem_append_left _ (List.mem_append_left _ (List.mem_append_left _ (List.mem_append_right _ h)))))))))
theorem inlX2 : ∀ w ∈ wsX20, w ∈ wsL_law := fun _ h => List.mem_append_left _ (List.mem_append_left _ (List.mem_append_left _ (List.mem_append_left _ (List.mem_append_right _ h))))
theorem inlX3 : ∀ w ∈ wsX30, w ∈ wsL_law := fun _ h => List.mem_append_left _ (List.mem_append_left _ (List.mem_append_left _ (List.mem_append_left _ (List.mem_append_left _ (List.mem_append_left _ (List.mem_append_left _ (List.mem_append_left _ (List.mem_append_right _ h))))))))
theorem inlX4 : ∀ w ∈ wsX40, w ∈ wsL_law := fun _ h => List.mem_append_left _ (List.mem_append_left _ (List.mem_append_left _ (List.mem_append_left _ (List.mem_append_left _ (List.mem_append_right _ h)))))
theorem inlX5 : ∀ w ∈ wsX50, w ∈ wsL_law := fun _ h => List.mem_append_left _ (List.mem_append_left _ (List.mem_append_left _ (List.mem_append_left _ (List.mem_append_left _ (List.mem_append_left _ (List.mem_append_left _ (List.mem_append_right _ h)))))))
theorem inlX6 : ∀ w ∈ wsX60, w ∈ wsL_law := fun _ h => List.mem_append_left _ (List.mem_append_left _ (List.mem_append_left _ (List.mem_append_left _ (List.mem_append_left _ (List.mem_append_left _ (List.mem_append_left _ (List.mem_append_left _ (List.mem_append_left _ (List.mem_append_left _ (List.mem_append_right _ h))))))))))
abbrev vwCl : List vw_C := [(RX0, TX0, 3), (RX1, TX1, 7), (RX2, TX2, 5), (RX3, TX3, 2), (RX4, TX4, 6), (RX5, TX5, 2), (RX6, TX6, 6)]

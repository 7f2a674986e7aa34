-- printed names: the tables of fields, the names and bytes of the methods
def RX0 : String := "SpoonNavy$1"
def TX0 : u_T := fun k => match k with
  | _ => ("", "", "", false)
def tyX0 : Nat → FieldType := fun k => match k with
  | _ => .int
theorem nmX0 : ∀ a, a < 0 → ∀ b, b < 0 → a ≠ b → (TX0 a).2.1 ≠ (TX0 b).2.1 := by decide +kernel
theorem tyX0_ok : ∀ k, k < 0 → parseFieldDescriptor (TX0 k).2.2.1 = some (tyX0 k) := by decide +kernel
def RX1 : String := "SpoonNavy$Account"
def TX1 : u_T := fun k => match k with
  | 0 => ("SpoonNavy$Account", "spoons", "I", false)
  | 1 => ("SpoonNavy$Account", "afloat", "I", false)
  | 2 => ("SpoonNavy$Account", "pot", "I", false)
  | 3 => ("SpoonNavy$Account", "added", "I", false)
  | 4 => ("SpoonNavy$Account", "loaded", "I", false)
  | 5 => ("SpoonNavy$Account", "fired", "I", false)
  | 6 => ("SpoonNavy$Account", "sneaked", "I", false)
  | _ => ("SpoonNavy$Account", "sunken", "I", false)
def tyX1 : Nat → FieldType := fun k => match k with
  | 0 => .int
  | 1 => .int
  | 2 => .int
  | 3 => .int
  | 4 => .int
  | 5 => .int
  | 6 => .int
  | _ => .int
theorem nmX1 : ∀ a, a < 8 → ∀ b, b < 8 → a ≠ b → (TX1 a).2.1 ≠ (TX1 b).2.1 := by decide +kernel
theorem tyX1_ok : ∀ k, k < 8 → parseFieldDescriptor (TX1 k).2.2.1 = some (tyX1 k) := by decide +kernel
abbrev cX1_init : ByteArray := prog_3_method_1_code
def yX1_init : MethodName := ⟨RX1, "<init>", "()V"⟩
abbrev cX1_copyFrom : ByteArray := prog_3_method_2_code
def yX1_copyFrom : MethodName := ⟨RX1, "copyFrom", "(LSpoonNavy$Account;)V"⟩
abbrev cX1_balance : ByteArray := prog_3_method_3_code
def yX1_balance : MethodName := ⟨RX1, "balance", "()I"⟩
def RX2 : String := "SpoonNavy$CommandText"
def TX2 : u_T := fun k => match k with
  | 0 => ("SpoonNavy$CommandText", "characters", "[C", true)
  | 1 => ("SpoonNavy$CommandText", "numbers", "[I", true)
  | 2 => ("SpoonNavy$CommandText", "length", "I", false)
  | 3 => ("SpoonNavy$CommandText", "position", "I", false)
  | 4 => ("SpoonNavy$CommandText", "matchEnd", "I", false)
  | 5 => ("SpoonNavy$CommandText", "numberCount", "I", false)
  | _ => ("SpoonNavy$CommandText", "form", "LSpoonNavy$Form;", false)
def tyX2 : Nat → FieldType := fun k => match k with
  | 0 => .array .char
  | 1 => .array .int
  | 2 => .int
  | 3 => .int
  | 4 => .int
  | 5 => .int
  | _ => .object "SpoonNavy$Form"
theorem nmX2 : ∀ a, a < 7 → ∀ b, b < 7 → a ≠ b → (TX2 a).2.1 ≠ (TX2 b).2.1 := by decide +kernel
theorem tyX2_ok : ∀ k, k < 7 → parseFieldDescriptor (TX2 k).2.2.1 = some (tyX2 k) := by decide +kernel
abbrev cX2_init : ByteArray := prog_4_method_1_code
def yX2_init : MethodName := ⟨RX2, "<init>", "()V"⟩
abbrev cX2_isFull : ByteArray := prog_4_method_2_code
def yX2_isFull : MethodName := ⟨RX2, "isFull", "()Z"⟩
abbrev cX2_add : ByteArray := prog_4_method_3_code
def yX2_add : MethodName := ⟨RX2, "add", "(C)I"⟩
abbrev cX2_clear : ByteArray := prog_4_method_4_code
def yX2_clear : MethodName := ⟨RX2, "clear", "()V"⟩
abbrev cX2_rewind : ByteArray := prog_4_method_5_code
def yX2_rewind : MethodName := ⟨RX2, "rewind", "()V"⟩
abbrev cX2_countCommands : ByteArray := prog_4_method_6_code
def yX2_countCommands : MethodName := ⟨RX2, "countCommands", "()I"⟩
abbrev cX2_skipSeparator : ByteArray := prog_4_method_7_code
def yX2_skipSeparator : MethodName := ⟨RX2, "skipSeparator", "()Z"⟩
abbrev cX2_readCommand : ByteArray := prog_4_method_8_code
def yX2_readCommand : MethodName := ⟨RX2, "readCommand", "()Z"⟩
abbrev cX2_matches : ByteArray := prog_4_method_9_code
def yX2_matches : MethodName := ⟨RX2, "matches", "(Ljava/lang/String;)Z"⟩
abbrev cX2_matchesSign : ByteArray := prog_4_method_10_code
def yX2_matchesSign : MethodName := ⟨RX2, "matchesSign", "(C)Z"⟩
abbrev cX2_matchesNumber : ByteArray := prog_4_method_11_code
def yX2_matchesNumber : MethodName := ⟨RX2, "matchesNumber", "(I)Z"⟩
abbrev cX2_number : ByteArray := prog_4_method_12_code
def yX2_number : MethodName := ⟨RX2, "number", "(I)I"⟩
abbrev cX2_isAt : ByteArray := prog_4_method_13_code
def yX2_isAt : MethodName := ⟨RX2, "isAt", "(IC)Z"⟩
abbrev cX2_isDigitAt : ByteArray := prog_4_method_14_code
def yX2_isDigitAt : MethodName := ⟨RX2, "isDigitAt", "(I)Z"⟩
abbrev cX2_digitAt : ByteArray := prog_4_method_15_code
def yX2_digitAt : MethodName := ⟨RX2, "digitAt", "(I)I"⟩
def RX3 : String := "SpoonNavy$Form"
def TX3 : u_T := fun k => match k with
  | _ => ("", "", "", false)
def tyX3 : Nat → FieldType := fun k => match k with
  | _ => .int
theorem nmX3 : ∀ a, a < 0 → ∀ b, b < 0 → a ≠ b → (TX3 a).2.1 ≠ (TX3 b).2.1 := by decide +kernel
theorem tyX3_ok : ∀ k, k < 0 → parseFieldDescriptor (TX3 k).2.2.1 = some (tyX3 k) := by decide +kernel
def RX4 : String := "SpoonNavy$Game"
def TX4 : u_T := fun k => match k with
  | 0 => ("SpoonNavy$Game", "spoons", "[LSpoonNavy$Spoon;", true)
  | 1 => ("SpoonNavy$Game", "firstAccount", "LSpoonNavy$Account;", true)
  | 2 => ("SpoonNavy$Game", "secondAccount", "LSpoonNavy$Account;", true)
  | 3 => ("SpoonNavy$Game", "count", "I", false)
  | 4 => ("SpoonNavy$Game", "hasBegun", "Z", false)
  | 5 => ("SpoonNavy$Game", "active", "I", false)
  | 6 => ("SpoonNavy$Game", "actions", "I", false)
  | 7 => ("SpoonNavy$Game", "turns", "I", false)
  | 8 => ("SpoonNavy$Game", "shots", "I", false)
  | 9 => ("SpoonNavy$Game", "hits", "I", false)
  | 10 => ("SpoonNavy$Game", "sailedCells", "J", false)
  | _ => ("SpoonNavy$Game", "secretSails", "I", false)
def tyX4 : Nat → FieldType := fun k => match k with
  | 0 => .array (.object "SpoonNavy$Spoon")
  | 1 => .object "SpoonNavy$Account"
  | 2 => .object "SpoonNavy$Account"
  | 3 => .int
  | 4 => .boolean
  | 5 => .int
  | 6 => .int
  | 7 => .int
  | 8 => .int
  | 9 => .int
  | 10 => .long
  | _ => .int
theorem nmX4 : ∀ a, a < 12 → ∀ b, b < 12 → a ≠ b → (TX4 a).2.1 ≠ (TX4 b).2.1 := by decide +kernel
theorem tyX4_ok : ∀ k, k < 12 → parseFieldDescriptor (TX4 k).2.2.1 = some (tyX4 k) := by decide +kernel
abbrev cX4_init : ByteArray := prog_6_method_1_code
def yX4_init : MethodName := ⟨RX4, "<init>", "()V"⟩
abbrev cX4_copyFrom : ByteArray := prog_6_method_2_code
def yX4_copyFrom : MethodName := ⟨RX4, "copyFrom", "(LSpoonNavy$Game;)V"⟩
abbrev cX4_numbered : ByteArray := prog_6_method_3_code
def yX4_numbered : MethodName := ⟨RX4, "numbered", "(I)LSpoonNavy$Spoon;"⟩
abbrev cX4_accountOf : ByteArray := prog_6_method_4_code
def yX4_accountOf : MethodName := ⟨RX4, "accountOf", "(I)LSpoonNavy$Account;"⟩
abbrev cX4_isOver : ByteArray := prog_6_method_5_code
def yX4_isOver : MethodName := ⟨RX4, "isOver", "()Z"⟩
abbrev cX4_isGoingOn : ByteArray := prog_6_method_6_code
def yX4_isGoingOn : MethodName := ⟨RX4, "isGoingOn", "()Z"⟩
abbrev cX4_spoonIn : ByteArray := prog_6_method_7_code
def yX4_spoonIn : MethodName := ⟨RX4, "spoonIn", "(II)LSpoonNavy$Spoon;"⟩
abbrev cX4_ranked : ByteArray := prog_6_method_8_code
def yX4_ranked : MethodName := ⟨RX4, "ranked", "(I)LSpoonNavy$Spoon;"⟩
abbrev cX4_countRankedBefore : ByteArray := prog_6_method_9_code
def yX4_countRankedBefore : MethodName := ⟨RX4, "countRankedBefore", "(LSpoonNavy$Spoon;)I"⟩
abbrev cX4_targetsBySpoons : ByteArray := prog_6_method_10_code
def yX4_targetsBySpoons : MethodName := ⟨RX4, "targetsBySpoons", "(LSpoonNavy$Spoon;)I"⟩
abbrev cX4_targetsByCells : ByteArray := prog_6_method_11_code
def yX4_targetsByCells : MethodName := ⟨RX4, "targetsByCells", "(LSpoonNavy$Spoon;)I"⟩
abbrev cX4_isHeldAgainst : ByteArray := prog_6_method_12_code
def yX4_isHeldAgainst : MethodName := ⟨RX4, "isHeldAgainst", "(LSpoonNavy$Spoon;II)Z"⟩
abbrev cX4_freeAhead : ByteArray := prog_6_method_13_code
def yX4_freeAhead : MethodName := ⟨RX4, "freeAhead", "(LSpoonNavy$Spoon;)I"⟩
abbrev cX4_isFree : ByteArray := prog_6_method_14_code
def yX4_isFree : MethodName := ⟨RX4, "isFree", "(II)Z"⟩
abbrev cX4_cubesBySpoons : ByteArray := prog_6_method_15_code
def yX4_cubesBySpoons : MethodName := ⟨RX4, "cubesBySpoons", "(I)I"⟩
abbrev cX4_areTargetsEqual : ByteArray := prog_6_method_16_code
def yX4_areTargetsEqual : MethodName := ⟨RX4, "areTargetsEqual", "()Z"⟩
abbrev cX4_areCubesEqual : ByteArray := prog_6_method_17_code
def yX4_areCubesEqual : MethodName := ⟨RX4, "areCubesEqual", "()Z"⟩
abbrev cX4_areCellsSingle : ByteArray := prog_6_method_18_code
def yX4_areCellsSingle : MethodName := ⟨RX4, "areCellsSingle", "()Z"⟩
abbrev cX4_place : ByteArray := prog_6_method_19_code
def yX4_place : MethodName := ⟨RX4, "place", "(IIIII)I"⟩
abbrev cX4_begin : ByteArray := prog_6_method_20_code
def yX4_begin : MethodName := ⟨RX4, "begin", "()I"⟩
abbrev cX4_passTurn : ByteArray := prog_6_method_21_code
def yX4_passTurn : MethodName := ⟨RX4, "passTurn", "()I"⟩
abbrev cX4_rotate : ByteArray := prog_6_method_22_code
def yX4_rotate : MethodName := ⟨RX4, "rotate", "(II)I"⟩
abbrev cX4_move : ByteArray := prog_6_method_23_code
def yX4_move : MethodName := ⟨RX4, "move", "(IIZ)I"⟩
abbrev cX4_payForSecret : ByteArray := prog_6_method_24_code
def yX4_payForSecret : MethodName := ⟨RX4, "payForSecret", "(LSpoonNavy$Spoon;)V"⟩
abbrev cX4_discover : ByteArray := prog_6_method_25_code
def yX4_discover : MethodName := ⟨RX4, "discover", "()V"⟩
abbrev cX4_isOpponentNear : ByteArray := prog_6_method_26_code
def yX4_isOpponentNear : MethodName := ⟨RX4, "isOpponentNear", "(LSpoonNavy$Spoon;)Z"⟩
abbrev cX4_shoot : ByteArray := prog_6_method_27_code
def yX4_shoot : MethodName := ⟨RX4, "shoot", "(III)I"⟩
abbrev cX4_hit : ByteArray := prog_6_method_28_code
def yX4_hit : MethodName := ⟨RX4, "hit", "(LSpoonNavy$Spoon;)I"⟩
abbrev cX4_fill : ByteArray := prog_6_method_29_code
def yX4_fill : MethodName := ⟨RX4, "fill", "(II)I"⟩
abbrev cX4_objectionTo : ByteArray := prog_6_method_30_code
def yX4_objectionTo : MethodName := ⟨RX4, "objectionTo", "(LSpoonNavy$Spoon;Z)I"⟩
def RX5 : String := "SpoonNavy$History"
def TX5 : u_T := fun k => match k with
  | 0 => ("SpoonNavy$History", "states", "[LSpoonNavy$Game;", true)
  | 1 => ("SpoonNavy$History", "next", "I", false)
  | _ => ("SpoonNavy$History", "size", "I", false)
def tyX5 : Nat → FieldType := fun k => match k with
  | 0 => .array (.object "SpoonNavy$Game")
  | 1 => .int
  | _ => .int
theorem nmX5 : ∀ a, a < 3 → ∀ b, b < 3 → a ≠ b → (TX5 a).2.1 ≠ (TX5 b).2.1 := by decide +kernel
theorem tyX5_ok : ∀ k, k < 3 → parseFieldDescriptor (TX5 k).2.2.1 = some (tyX5 k) := by decide +kernel
abbrev cX5_init : ByteArray := prog_7_method_1_code
def yX5_init : MethodName := ⟨RX5, "<init>", "()V"⟩
abbrev cX5_push : ByteArray := prog_7_method_2_code
def yX5_push : MethodName := ⟨RX5, "push", "(LSpoonNavy$Game;)V"⟩
abbrev cX5_pop : ByteArray := prog_7_method_3_code
def yX5_pop : MethodName := ⟨RX5, "pop", "(LSpoonNavy$Game;)Z"⟩
abbrev cX5_clear : ByteArray := prog_7_method_4_code
def yX5_clear : MethodName := ⟨RX5, "clear", "()V"⟩
def RX6 : String := "SpoonNavy$Spoon"
def TX6 : u_T := fun k => match k with
  | 0 => ("SpoonNavy$Spoon", "number", "I", true)
  | 1 => ("SpoonNavy$Spoon", "fleet", "I", false)
  | 2 => ("SpoonNavy$Spoon", "x", "I", false)
  | 3 => ("SpoonNavy$Spoon", "y", "I", false)
  | 4 => ("SpoonNavy$Spoon", "bearing", "I", false)
  | 5 => ("SpoonNavy$Spoon", "hull", "I", false)
  | 6 => ("SpoonNavy$Spoon", "cubes", "I", false)
  | 7 => ("SpoonNavy$Spoon", "seenX", "I", false)
  | _ => ("SpoonNavy$Spoon", "seenY", "I", false)
def tyX6 : Nat → FieldType := fun k => match k with
  | 0 => .int
  | 1 => .int
  | 2 => .int
  | 3 => .int
  | 4 => .int
  | 5 => .int
  | 6 => .int
  | 7 => .int
  | _ => .int
theorem nmX6 : ∀ a, a < 9 → ∀ b, b < 9 → a ≠ b → (TX6 a).2.1 ≠ (TX6 b).2.1 := by decide +kernel
theorem tyX6_ok : ∀ k, k < 9 → parseFieldDescriptor (TX6 k).2.2.1 = some (tyX6 k) := by decide +kernel
abbrev cX6_init : ByteArray := prog_8_method_1_code
def yX6_init : MethodName := ⟨RX6, "<init>", "(I)V"⟩
abbrev cX6_copyFrom : ByteArray := prog_8_method_2_code
def yX6_copyFrom : MethodName := ⟨RX6, "copyFrom", "(LSpoonNavy$Spoon;)V"⟩
abbrev cX6_isAfloat : ByteArray := prog_8_method_3_code
def yX6_isAfloat : MethodName := ⟨RX6, "isAfloat", "()Z"⟩
abbrev cX6_isAfloatOf : ByteArray := prog_8_method_4_code
def yX6_isAfloatOf : MethodName := ⟨RX6, "isAfloatOf", "(I)Z"⟩
abbrev cX6_isIn : ByteArray := prog_8_method_5_code
def yX6_isIn : MethodName := ⟨RX6, "isIn", "(II)Z"⟩
abbrev cX6_distanceTo : ByteArray := prog_8_method_6_code
def yX6_distanceTo : MethodName := ⟨RX6, "distanceTo", "(II)I"⟩
abbrev cX6_isInRange : ByteArray := prog_8_method_7_code
def yX6_isInRange : MethodName := ⟨RX6, "isInRange", "(II)Z"⟩
abbrev cX6_reaches : ByteArray := prog_8_method_8_code
def yX6_reaches : MethodName := ⟨RX6, "reaches", "(II)Z"⟩
abbrev cX6_becomeKnown : ByteArray := prog_8_method_9_code
def yX6_becomeKnown : MethodName := ⟨RX6, "becomeKnown", "()V"⟩
abbrev cX6_ranksBefore : ByteArray := prog_8_method_10_code
def yX6_ranksBefore : MethodName := ⟨RX6, "ranksBefore", "(LSpoonNavy$Spoon;)Z"⟩
abbrev cX6_letter : ByteArray := prog_8_method_11_code
def yX6_letter : MethodName := ⟨RX6, "letter", "()C"⟩
def RX7 : String := "SpoonNavy"
def TX7 : u_T := fun k => match k with
  | 0 => ("SpoonNavy", "game", "LSpoonNavy$Game;", true)
  | 1 => ("SpoonNavy", "before", "LSpoonNavy$Game;", true)
  | 2 => ("SpoonNavy", "snapshot", "LSpoonNavy$Game;", true)
  | 3 => ("SpoonNavy", "history", "LSpoonNavy$History;", true)
  | 4 => ("SpoonNavy", "commandText", "LSpoonNavy$CommandText;", true)
  | 5 => ("SpoonNavy", "line", "[C", true)
  | 6 => ("SpoonNavy", "lineLength", "I", false)
  | 7 => ("SpoonNavy", "hasSnapshot", "Z", false)
  | 8 => ("SpoonNavy", "keptReason", "I", false)
  | 9 => ("SpoonNavy", "keptErrorPosition", "I", false)
  | _ => ("SpoonNavy", "keptFailedCommand", "I", false)
def tyX7 : Nat → FieldType := fun k => match k with
  | 0 => .object "SpoonNavy$Game"
  | 1 => .object "SpoonNavy$Game"
  | 2 => .object "SpoonNavy$Game"
  | 3 => .object "SpoonNavy$History"
  | 4 => .object "SpoonNavy$CommandText"
  | 5 => .array .char
  | 6 => .int
  | 7 => .boolean
  | 8 => .int
  | 9 => .int
  | _ => .int
theorem nmX7 : ∀ a, a < 11 → ∀ b, b < 11 → a ≠ b → (TX7 a).2.1 ≠ (TX7 b).2.1 := by decide +kernel
theorem tyX7_ok : ∀ k, k < 11 → parseFieldDescriptor (TX7 k).2.2.1 = some (tyX7 k) := by decide +kernel
abbrev cX7_init : ByteArray := prog_1_method_1_code
def yX7_init : MethodName := ⟨RX7, "<init>", "()V"⟩
abbrev cX7_addSpoon : ByteArray := prog_1_method_2_code
def yX7_addSpoon : MethodName := ⟨RX7, "addSpoon", "(IIIII)I"⟩
abbrev cX7_start : ByteArray := prog_1_method_3_code
def yX7_start : MethodName := ⟨RX7, "start", "()I"⟩
abbrev cX7_endTurn : ByteArray := prog_1_method_4_code
def yX7_endTurn : MethodName := ⟨RX7, "endTurn", "()I"⟩
abbrev cX7_isStarted : ByteArray := prog_1_method_5_code
def yX7_isStarted : MethodName := ⟨RX7, "isStarted", "()Z"⟩
abbrev cX7_isFinished : ByteArray := prog_1_method_6_code
def yX7_isFinished : MethodName := ⟨RX7, "isFinished", "()Z"⟩
abbrev cX7_winner : ByteArray := prog_1_method_7_code
def yX7_winner : MethodName := ⟨RX7, "winner", "()I"⟩
abbrev cX7_activeFleet : ByteArray := prog_1_method_8_code
def yX7_activeFleet : MethodName := ⟨RX7, "activeFleet", "()I"⟩
abbrev cX7_actionsLeft : ByteArray := prog_1_method_9_code
def yX7_actionsLeft : MethodName := ⟨RX7, "actionsLeft", "()I"⟩
abbrev cX7_turnCount : ByteArray := prog_1_method_10_code
def yX7_turnCount : MethodName := ⟨RX7, "turnCount", "()I"⟩
abbrev cX7_turnTo : ByteArray := prog_1_method_11_code
def yX7_turnTo : MethodName := ⟨RX7, "turnTo", "(II)I"⟩
abbrev cX7_sail : ByteArray := prog_1_method_12_code
def yX7_sail : MethodName := ⟨RX7, "sail", "(IIZ)I"⟩
abbrev cX7_fire : ByteArray := prog_1_method_13_code
def yX7_fire : MethodName := ⟨RX7, "fire", "(III)I"⟩
abbrev cX7_load : ByteArray := prog_1_method_14_code
def yX7_load : MethodName := ⟨RX7, "load", "(II)I"⟩
abbrev cX7_spoonCount : ByteArray := prog_1_method_16_code
def yX7_spoonCount : MethodName := ⟨RX7, "spoonCount", "()I"⟩
abbrev cX7_fleetOf : ByteArray := prog_1_method_17_code
def yX7_fleetOf : MethodName := ⟨RX7, "fleetOf", "(I)I"⟩
abbrev cX7_xOf : ByteArray := prog_1_method_18_code
def yX7_xOf : MethodName := ⟨RX7, "xOf", "(I)I"⟩
abbrev cX7_yOf : ByteArray := prog_1_method_19_code
def yX7_yOf : MethodName := ⟨RX7, "yOf", "(I)I"⟩
abbrev cX7_bearingOf : ByteArray := prog_1_method_20_code
def yX7_bearingOf : MethodName := ⟨RX7, "bearingOf", "(I)I"⟩
abbrev cX7_cubesOf : ByteArray := prog_1_method_21_code
def yX7_cubesOf : MethodName := ⟨RX7, "cubesOf", "(I)I"⟩
abbrev cX7_hullOf : ByteArray := prog_1_method_22_code
def yX7_hullOf : MethodName := ⟨RX7, "hullOf", "(I)I"⟩
abbrev cX7_isSunk : ByteArray := prog_1_method_23_code
def yX7_isSunk : MethodName := ⟨RX7, "isSunk", "(I)Z"⟩
abbrev cX7_spoonAt : ByteArray := prog_1_method_24_code
def yX7_spoonAt : MethodName := ⟨RX7, "spoonAt", "(II)I"⟩
abbrev cX7_knownX : ByteArray := prog_1_method_25_code
def yX7_knownX : MethodName := ⟨RX7, "knownX", "(I)I"⟩
abbrev cX7_knownY : ByteArray := prog_1_method_26_code
def yX7_knownY : MethodName := ⟨RX7, "knownY", "(I)I"⟩
abbrev cX7_isHidden : ByteArray := prog_1_method_27_code
def yX7_isHidden : MethodName := ⟨RX7, "isHidden", "(I)Z"⟩
abbrev cX7_floating : ByteArray := prog_1_method_28_code
def yX7_floating : MethodName := ⟨RX7, "floating", "(I)I"⟩
abbrev cX7_spoonAtRank : ByteArray := prog_1_method_29_code
def yX7_spoonAtRank : MethodName := ⟨RX7, "spoonAtRank", "(I)I"⟩
abbrev cX7_distance : ByteArray := prog_1_method_30_code
def yX7_distance : MethodName := ⟨RX7, "distance", "(II)I"⟩
abbrev cX7_directionTo : ByteArray := prog_1_method_31_code
def yX7_directionTo : MethodName := ⟨RX7, "directionTo", "(III)I"⟩
abbrev cX7_isInReach : ByteArray := prog_1_method_32_code
def yX7_isInReach : MethodName := ⟨RX7, "isInReach", "(III)Z"⟩
abbrev cX7_targetCount : ByteArray := prog_1_method_33_code
def yX7_targetCount : MethodName := ⟨RX7, "targetCount", "(I)I"⟩
abbrev cX7_targetCountByCells : ByteArray := prog_1_method_34_code
def yX7_targetCountByCells : MethodName := ⟨RX7, "targetCountByCells", "(I)I"⟩
abbrev cX7_cellsAhead : ByteArray := prog_1_method_35_code
def yX7_cellsAhead : MethodName := ⟨RX7, "cellsAhead", "(I)I"⟩
abbrev cX7_potOf : ByteArray := prog_1_method_36_code
def yX7_potOf : MethodName := ⟨RX7, "potOf", "(I)I"⟩
abbrev cX7_fleetCubes : ByteArray := prog_1_method_37_code
def yX7_fleetCubes : MethodName := ⟨RX7, "fleetCubes", "(I)I"⟩
abbrev cX7_fleetCubesByAccount : ByteArray := prog_1_method_38_code
def yX7_fleetCubesByAccount : MethodName := ⟨RX7, "fleetCubesByAccount", "(I)I"⟩
abbrev cX7_shotCount : ByteArray := prog_1_method_39_code
def yX7_shotCount : MethodName := ⟨RX7, "shotCount", "()I"⟩
abbrev cX7_hitCount : ByteArray := prog_1_method_40_code
def yX7_hitCount : MethodName := ⟨RX7, "hitCount", "()I"⟩
abbrev cX7_cellsSailed : ByteArray := prog_1_method_41_code
def yX7_cellsSailed : MethodName := ⟨RX7, "cellsSailed", "()J"⟩
abbrev cX7_secretCount : ByteArray := prog_1_method_42_code
def yX7_secretCount : MethodName := ⟨RX7, "secretCount", "()I"⟩
abbrev cX7_append : ByteArray := prog_1_method_43_code
def yX7_append : MethodName := ⟨RX7, "append", "(C)I"⟩
abbrev cX7_run : ByteArray := prog_1_method_44_code
def yX7_run : MethodName := ⟨RX7, "run", "()I"⟩
abbrev cX7_failedCommand : ByteArray := prog_1_method_46_code
def yX7_failedCommand : MethodName := ⟨RX7, "failedCommand", "()I"⟩
abbrev cX7_describeRow : ByteArray := prog_1_method_47_code
def yX7_describeRow : MethodName := ⟨RX7, "describeRow", "(I)I"⟩
abbrev cX7_lineAt : ByteArray := prog_1_method_48_code
def yX7_lineAt : MethodName := ⟨RX7, "lineAt", "(I)C"⟩
abbrev cX7_hitShare : ByteArray := prog_1_method_49_code
def yX7_hitShare : MethodName := ⟨RX7, "hitShare", "()F"⟩
abbrev cX7_meanCubes : ByteArray := prog_1_method_50_code
def yX7_meanCubes : MethodName := ⟨RX7, "meanCubes", "(I)D"⟩
abbrev cX7_isConsistent : ByteArray := prog_1_method_51_code
def yX7_isConsistent : MethodName := ⟨RX7, "isConsistent", "()Z"⟩
abbrev cX7_undo : ByteArray := prog_1_method_52_code
def yX7_undo : MethodName := ⟨RX7, "undo", "()I"⟩
abbrev cX7_save : ByteArray := prog_1_method_53_code
def yX7_save : MethodName := ⟨RX7, "save", "()I"⟩
abbrev cX7_restore : ByteArray := prog_1_method_54_code
def yX7_restore : MethodName := ⟨RX7, "restore", "()I"⟩
abbrev cX7_concluded : ByteArray := prog_1_method_55_code
def yX7_concluded : MethodName := ⟨RX7, "concluded", "(I)I"⟩
abbrev cX7_keepReason : ByteArray := prog_1_method_56_code
def yX7_keepReason : MethodName := ⟨RX7, "keepReason", "(I)V"⟩
abbrev cX7_firstFailure : ByteArray := prog_1_method_57_code
def yX7_firstFailure : MethodName := ⟨RX7, "firstFailure", "(I)I"⟩
abbrev cX7_carryOut : ByteArray := prog_1_method_58_code
def yX7_carryOut : MethodName := ⟨RX7, "carryOut", "(LSpoonNavy$CommandText;)I"⟩
abbrev cX7_existing : ByteArray := prog_1_method_59_code
def yX7_existing : MethodName := ⟨RX7, "existing", "(I)LSpoonNavy$Spoon;"⟩
abbrev cX7_existingAfloat : ByteArray := prog_1_method_60_code
def yX7_existingAfloat : MethodName := ⟨RX7, "existingAfloat", "(I)LSpoonNavy$Spoon;"⟩
abbrev cX7_requireGoingOn : ByteArray := prog_1_method_61_code
def yX7_requireGoingOn : MethodName := ⟨RX7, "requireGoingOn", "()V"⟩
abbrev cX7_requireFleet : ByteArray := prog_1_method_62_code
def yX7_requireFleet : MethodName := ⟨RX7, "requireFleet", "(I)V"⟩
abbrev cX7_requireCell : ByteArray := prog_1_method_63_code
def yX7_requireCell : MethodName := ⟨RX7, "requireCell", "(II)V"⟩
abbrev cX7_isFleet : ByteArray := prog_1_method_64_code
def yX7_isFleet : MethodName := ⟨RX7, "isFleet", "(I)Z"⟩
abbrev cX7_isOnTray : ByteArray := prog_1_method_65_code
def yX7_isOnTray : MethodName := ⟨RX7, "isOnTray", "(II)Z"⟩
abbrev cX7_isBearing : ByteArray := prog_1_method_66_code
def yX7_isBearing : MethodName := ⟨RX7, "isBearing", "(I)Z"⟩
abbrev cX7_isCubeNumber : ByteArray := prog_1_method_67_code
def yX7_isCubeNumber : MethodName := ⟨RX7, "isCubeNumber", "(I)Z"⟩
abbrev cX7_stepX : ByteArray := prog_1_method_68_code
def yX7_stepX : MethodName := ⟨RX7, "stepX", "(I)I"⟩
abbrev cX7_stepY : ByteArray := prog_1_method_69_code
def yX7_stepY : MethodName := ⟨RX7, "stepY", "(I)I"⟩
abbrev cX7_directionOf : ByteArray := prog_1_method_70_code
def yX7_directionOf : MethodName := ⟨RX7, "directionOf", "(II)I"⟩
abbrev cX7_stepsBetween : ByteArray := prog_1_method_71_code
def yX7_stepsBetween : MethodName := ⟨RX7, "stepsBetween", "(II)I"⟩
def RX8 : String := "SpoonNavyModel"
def TX8 : u_T := fun k => match k with
  | _ => ("", "", "", false)
def tyX8 : Nat → FieldType := fun k => match k with
  | _ => .int
theorem nmX8 : ∀ a, a < 0 → ∀ b, b < 0 → a ≠ b → (TX8 a).2.1 ≠ (TX8 b).2.1 := by decide +kernel
theorem tyX8_ok : ∀ k, k < 0 → parseFieldDescriptor (TX8 k).2.2.1 = some (tyX8 k) := by decide +kernel
def RJx145de : String := "java/io/Serializable"
def TJx145de : u_T := fun k => match k with
  | _ => ("", "", "", false)
def tyJx145de : Nat → FieldType := fun k => match k with
  | _ => .int
theorem nmJx145de : ∀ a, a < 0 → ∀ b, b < 0 → a ≠ b → (TJx145de a).2.1 ≠ (TJx145de b).2.1 := by decide +kernel
theorem tyJx145de_ok : ∀ k, k < 0 → parseFieldDescriptor (TJx145de k).2.2.1 = some (tyJx145de k) := by decide +kernel
def RJx00060 : String := "java/lang/ArrayIndexOutOfBoundsException"
def TJx00060 : u_T := fun k => match k with
  | 0 => ("java/lang/Throwable", "backtrace", "Ljava/lang/Object;", false)
  | 1 => ("java/lang/Throwable", "detailMessage", "Ljava/lang/String;", false)
  | 2 => ("java/lang/Throwable", "cause", "Ljava/lang/Throwable;", false)
  | 3 => ("java/lang/Throwable", "stackTrace", "[Ljava/lang/StackTraceElement;", false)
  | 4 => ("java/lang/Throwable", "depth", "I", false)
  | _ => ("java/lang/Throwable", "suppressedExceptions", "Ljava/util/List;", false)
def tyJx00060 : Nat → FieldType := fun k => match k with
  | 0 => .object "java/lang/Object"
  | 1 => .object "java/lang/String"
  | 2 => .object "java/lang/Throwable"
  | 3 => .array (.object "java/lang/StackTraceElement")
  | 4 => .int
  | _ => .object "java/util/List"
theorem nmJx00060 : ∀ a, a < 6 → ∀ b, b < 6 → a ≠ b → (TJx00060 a).2.1 ≠ (TJx00060 b).2.1 := by decide +kernel
theorem tyJx00060_ok : ∀ k, k < 6 → parseFieldDescriptor (TJx00060 k).2.2.1 = some (tyJx00060 k) := by decide +kernel
abbrev cJx00060_init_a7421 : ByteArray := prog_13_method_2_code
def yJx00060_init_a7421 : MethodName := ⟨RJx00060, "<init>", "(Ljava/lang/String;)V"⟩
def RJx9f9b0 : String := "java/lang/CharSequence"
def TJx9f9b0 : u_T := fun k => match k with
  | _ => ("", "", "", false)
def tyJx9f9b0 : Nat → FieldType := fun k => match k with
  | _ => .int
theorem nmJx9f9b0 : ∀ a, a < 0 → ∀ b, b < 0 → a ≠ b → (TJx9f9b0 a).2.1 ≠ (TJx9f9b0 b).2.1 := by decide +kernel
theorem tyJx9f9b0_ok : ∀ k, k < 0 → parseFieldDescriptor (TJx9f9b0 k).2.2.1 = some (tyJx9f9b0 k) := by decide +kernel
def RJxb160c : String := "java/lang/Comparable"
def TJxb160c : u_T := fun k => match k with
  | _ => ("", "", "", false)
def tyJxb160c : Nat → FieldType := fun k => match k with
  | _ => .int
theorem nmJxb160c : ∀ a, a < 0 → ∀ b, b < 0 → a ≠ b → (TJxb160c a).2.1 ≠ (TJxb160c b).2.1 := by decide +kernel
theorem tyJxb160c_ok : ∀ k, k < 0 → parseFieldDescriptor (TJxb160c k).2.2.1 = some (tyJxb160c k) := by decide +kernel
def RJx29ce0 : String := "java/lang/Enum"
def TJx29ce0 : u_T := fun k => match k with
  | _ => ("", "", "", false)
def tyJx29ce0 : Nat → FieldType := fun k => match k with
  | _ => .int
theorem nmJx29ce0 : ∀ a, a < 0 → ∀ b, b < 0 → a ≠ b → (TJx29ce0 a).2.1 ≠ (TJx29ce0 b).2.1 := by decide +kernel
theorem tyJx29ce0_ok : ∀ k, k < 0 → parseFieldDescriptor (TJx29ce0 k).2.2.1 = some (tyJx29ce0 k) := by decide +kernel
abbrev cJx29ce0_ordinal_8abf5 : ByteArray := prog_16_method_2_code
def yJx29ce0_ordinal_8abf5 : MethodName := ⟨RJx29ce0, "ordinal", "()I"⟩
def RJ9 : String := "java/lang/Math"
def TJ9 : u_T := fun k => match k with
  | _ => ("", "", "", false)
def tyJ9 : Nat → FieldType := fun k => match k with
  | _ => .int
theorem nmJ9 : ∀ a, a < 0 → ∀ b, b < 0 → a ≠ b → (TJ9 a).2.1 ≠ (TJ9 b).2.1 := by decide +kernel
theorem tyJ9_ok : ∀ k, k < 0 → parseFieldDescriptor (TJ9 k).2.2.1 = some (tyJ9 k) := by decide +kernel
abbrev cJ9_abs_0f7a4 : ByteArray := prog_21_method_59_code
def yJ9_abs_0f7a4 : MethodName := ⟨RJ9, "abs", "(I)I"⟩
abbrev cJ9_max_7cf53 : ByteArray := prog_21_method_65_code
def yJ9_max_7cf53 : MethodName := ⟨RJ9, "max", "(II)I"⟩
abbrev cJ9_min_7cf53 : ByteArray := prog_21_method_69_code
def yJ9_min_7cf53 : MethodName := ⟨RJ9, "min", "(II)I"⟩
def RJ0 : String := "java/lang/String"
def TJ0 : u_T := fun k => match k with
  | 0 => ("java/lang/String", "value", "[B", true)
  | _ => ("java/lang/String", "coder", "B", true)
def tyJ0 : Nat → FieldType := fun k => match k with
  | 0 => .array .byte
  | _ => .byte
theorem nmJ0 : ∀ a, a < 2 → ∀ b, b < 2 → a ≠ b → (TJ0 a).2.1 ≠ (TJ0 b).2.1 := by decide +kernel
theorem tyJ0_ok : ∀ k, k < 2 → parseFieldDescriptor (TJ0 k).2.2.1 = some (tyJ0 k) := by decide +kernel
abbrev cJ0_length_8abf5 : ByteArray := prog_23_method_54_code
def yJ0_length_8abf5 : MethodName := ⟨RJ0, "length", "()I"⟩
abbrev cJ0_charAt_5068e : ByteArray := prog_23_method_56_code
def yJ0_charAt_5068e : MethodName := ⟨RJ0, "charAt", "(I)C"⟩
abbrev cJ0_coder_7d493 : ByteArray := prog_23_method_152_code
def yJ0_coder_7d493 : MethodName := ⟨RJ0, "coder", "()B"⟩
abbrev cJ0_isLatin1_aae02 : ByteArray := prog_23_method_154_code
def yJ0_isLatin1_aae02 : MethodName := ⟨RJ0, "isLatin1", "()Z"⟩
abbrev cJ0_checkIndex_df160 : ByteArray := prog_23_method_155_code
def yJ0_checkIndex_df160 : MethodName := ⟨RJ0, "checkIndex", "(II)V"⟩
def RJ1 : String := "java/lang/StringLatin1"
def TJ1 : u_T := fun k => match k with
  | _ => ("", "", "", false)
def tyJ1 : Nat → FieldType := fun k => match k with
  | _ => .int
theorem nmJ1 : ∀ a, a < 0 → ∀ b, b < 0 → a ≠ b → (TJ1 a).2.1 ≠ (TJ1 b).2.1 := by decide +kernel
theorem tyJ1_ok : ∀ k, k < 0 → parseFieldDescriptor (TJ1 k).2.2.1 = some (tyJ1 k) := by decide +kernel
abbrev cJ1_charAt_3b067 : ByteArray := prog_24_method_2_code
def yJ1_charAt_3b067 : MethodName := ⟨RJ1, "charAt", "([BI)C"⟩
def RJ2 : String := "java/lang/StringUTF16"
def TJ2 : u_T := fun k => match k with
  | _ => ("", "", "", false)
def tyJ2 : Nat → FieldType := fun k => match k with
  | _ => .int
theorem nmJ2 : ∀ a, a < 0 → ∀ b, b < 0 → a ≠ b → (TJ2 a).2.1 ≠ (TJ2 b).2.1 := by decide +kernel
theorem tyJ2_ok : ∀ k, k < 0 → parseFieldDescriptor (TJ2 k).2.2.1 = some (tyJ2 k) := by decide +kernel
abbrev cJ2_getChar_3b067 : ByteArray := prog_25_method_5_code
def yJ2_getChar_3b067 : MethodName := ⟨RJ2, "getChar", "([BI)C"⟩
abbrev cJ2_length_9d52b : ByteArray := prog_25_method_6_code
def yJ2_length_9d52b : MethodName := ⟨RJ2, "length", "([B)I"⟩
abbrev cJ2_charAt_3b067 : ByteArray := prog_25_method_83_code
def yJ2_charAt_3b067 : MethodName := ⟨RJ2, "charAt", "([BI)C"⟩
abbrev cJ2_checkIndex_2214a : ByteArray := prog_25_method_91_code
def yJ2_checkIndex_2214a : MethodName := ⟨RJ2, "checkIndex", "(I[B)V"⟩
def RJxfd54e : String := "java/lang/constant/Constable"
def TJxfd54e : u_T := fun k => match k with
  | _ => ("", "", "", false)
def tyJxfd54e : Nat → FieldType := fun k => match k with
  | _ => .int
theorem nmJxfd54e : ∀ a, a < 0 → ∀ b, b < 0 → a ≠ b → (TJxfd54e a).2.1 ≠ (TJxfd54e b).2.1 := by decide +kernel
theorem tyJxfd54e_ok : ∀ k, k < 0 → parseFieldDescriptor (TJxfd54e k).2.2.1 = some (tyJxfd54e k) := by decide +kernel
def RJx3cf43 : String := "java/lang/constant/ConstantDesc"
def TJx3cf43 : u_T := fun k => match k with
  | _ => ("", "", "", false)
def tyJx3cf43 : Nat → FieldType := fun k => match k with
  | _ => .int
theorem nmJx3cf43 : ∀ a, a < 0 → ∀ b, b < 0 → a ≠ b → (TJx3cf43 a).2.1 ≠ (TJx3cf43 b).2.1 := by decide +kernel
theorem tyJx3cf43_ok : ∀ k, k < 0 → parseFieldDescriptor (TJx3cf43 k).2.2.1 = some (tyJx3cf43 k) := by decide +kernel
def RJ3 : String := "jdk/internal/util/Preconditions"
def TJ3 : u_T := fun k => match k with
  | _ => ("", "", "", false)
def tyJ3 : Nat → FieldType := fun k => match k with
  | _ => .int
theorem nmJ3 : ∀ a, a < 0 → ∀ b, b < 0 → a ≠ b → (TJ3 a).2.1 ≠ (TJ3 b).2.1 := by decide +kernel
theorem tyJ3_ok : ∀ k, k < 0 → parseFieldDescriptor (TJ3 k).2.2.1 = some (tyJ3 k) := by decide +kernel
abbrev cJ3_checkIndex_8e157 : ByteArray := prog_31_method_11_code
def yJ3_checkIndex_8e157 : MethodName := ⟨RJ3, "checkIndex", "(IILjava/util/function/BiFunction;)I"⟩
def RL : String := "SpoonNavyLaw"
abbrev cL_cell : ByteArray := method_2_code
def yL_cell : MethodName := ⟨RL, "cell", "([II)I"⟩
abbrev cL_addSpoon : ByteArray := method_3_code
def yL_addSpoon : MethodName := ⟨RL, "addSpoon", "(LSpoonNavy;IIIII)I"⟩
abbrev cL_start : ByteArray := method_4_code
def yL_start : MethodName := ⟨RL, "start", "(LSpoonNavy;)I"⟩
abbrev cL_endTurn : ByteArray := method_5_code
def yL_endTurn : MethodName := ⟨RL, "endTurn", "(LSpoonNavy;)I"⟩
abbrev cL_winner : ByteArray := method_6_code
def yL_winner : MethodName := ⟨RL, "winner", "(LSpoonNavy;)I"⟩
abbrev cL_activeFleet : ByteArray := method_7_code
def yL_activeFleet : MethodName := ⟨RL, "activeFleet", "(LSpoonNavy;)I"⟩
abbrev cL_actionsLeft : ByteArray := method_8_code
def yL_actionsLeft : MethodName := ⟨RL, "actionsLeft", "(LSpoonNavy;)I"⟩
abbrev cL_turnTo : ByteArray := method_9_code
def yL_turnTo : MethodName := ⟨RL, "turnTo", "(LSpoonNavy;II)I"⟩
abbrev cL_sail : ByteArray := method_10_code
def yL_sail : MethodName := ⟨RL, "sail", "(LSpoonNavy;IIZ)I"⟩
abbrev cL_fire : ByteArray := method_11_code
def yL_fire : MethodName := ⟨RL, "fire", "(LSpoonNavy;III)I"⟩
abbrev cL_load : ByteArray := method_12_code
def yL_load : MethodName := ⟨RL, "load", "(LSpoonNavy;II)I"⟩
abbrev cL_xOf : ByteArray := method_14_code
def yL_xOf : MethodName := ⟨RL, "xOf", "(LSpoonNavy;I)I"⟩
abbrev cL_yOf : ByteArray := method_15_code
def yL_yOf : MethodName := ⟨RL, "yOf", "(LSpoonNavy;I)I"⟩
abbrev cL_spoonAt : ByteArray := method_16_code
def yL_spoonAt : MethodName := ⟨RL, "spoonAt", "(LSpoonNavy;II)I"⟩
abbrev cL_knownX : ByteArray := method_17_code
def yL_knownX : MethodName := ⟨RL, "knownX", "(LSpoonNavy;I)I"⟩
abbrev cL_knownY : ByteArray := method_18_code
def yL_knownY : MethodName := ⟨RL, "knownY", "(LSpoonNavy;I)I"⟩
abbrev cL_spoonAtRank : ByteArray := method_19_code
def yL_spoonAtRank : MethodName := ⟨RL, "spoonAtRank", "(LSpoonNavy;I)I"⟩
abbrev cL_distance : ByteArray := method_20_code
def yL_distance : MethodName := ⟨RL, "distance", "(LSpoonNavy;II)I"⟩
abbrev cL_directionTo : ByteArray := method_21_code
def yL_directionTo : MethodName := ⟨RL, "directionTo", "(LSpoonNavy;III)I"⟩
abbrev cL_cellsAhead : ByteArray := method_22_code
def yL_cellsAhead : MethodName := ⟨RL, "cellsAhead", "(LSpoonNavy;I)I"⟩
abbrev cL_hitShare : ByteArray := method_23_code
def yL_hitShare : MethodName := ⟨RL, "hitShare", "(LSpoonNavy;)F"⟩
abbrev cL_meanCubes : ByteArray := method_24_code
def yL_meanCubes : MethodName := ⟨RL, "meanCubes", "(LSpoonNavy;I)D"⟩
abbrev cL_run : ByteArray := method_25_code
def yL_run : MethodName := ⟨RL, "run", "(LSpoonNavy;)I"⟩
abbrev cL_failedCommand : ByteArray := method_26_code
def yL_failedCommand : MethodName := ⟨RL, "failedCommand", "(LSpoonNavy;)I"⟩
abbrev cL_undo : ByteArray := method_27_code
def yL_undo : MethodName := ⟨RL, "undo", "(LSpoonNavy;)I"⟩
abbrev cL_restore : ByteArray := method_28_code
def yL_restore : MethodName := ⟨RL, "restore", "(LSpoonNavy;)I"⟩
abbrev cL_put : ByteArray := method_29_code
def yL_put : MethodName := ⟨RL, "put", "(LSpoonNavy;C)Z"⟩
abbrev cL_write : ByteArray := method_30_code
def yL_write : MethodName := ⟨RL, "write", "(LSpoonNavy;Ljava/lang/String;)LSpoonNavy;"⟩
abbrev cL_act : ByteArray := method_31_code
def yL_act : MethodName := ⟨RL, "act", "(LSpoonNavy;I)I"⟩
abbrev cL_digest : ByteArray := method_32_code
def yL_digest : MethodName := ⟨RL, "digest", "(LSpoonNavy;)J"⟩
abbrev cL_far : ByteArray := method_33_code
def yL_far : MethodName := ⟨RL, "far", "(II)I"⟩
abbrev cL_isGame : ByteArray := method_34_code
def yL_isGame : MethodName := ⟨RL, "isGame", "(LSpoonNavy;)Z"⟩
abbrev cL_isSpoon : ByteArray := method_35_code
def yL_isSpoon : MethodName := ⟨RL, "isSpoon", "(LSpoonNavy;I)Z"⟩
abbrev cL_areDirections : ByteArray := method_36_code
def yL_areDirections : MethodName := ⟨RL, "areDirections", "(LSpoonNavy;I)Z"⟩
abbrev cL_areRows : ByteArray := method_37_code
def yL_areRows : MethodName := ⟨RL, "areRows", "(LSpoonNavy;)Z"⟩
abbrev cL_isSailed : ByteArray := method_38_code
def yL_isSailed : MethodName := ⟨RL, "isSailed", "(LSpoonNavy;IZ)Z"⟩
abbrev cL_distanceOf : ByteArray := method_39_code
def yL_distanceOf : MethodName := ⟨RL, "distanceOf", "(LSpoonNavy;III)I"⟩
abbrev cL_areKnown : ByteArray := method_40_code
def yL_areKnown : MethodName := ⟨RL, "areKnown", "(LSpoonNavy;)Z"⟩
abbrev cL_isFired : ByteArray := method_41_code
def yL_isFired : MethodName := ⟨RL, "isFired", "(LSpoonNavy;II)Z"⟩
abbrev cL_isFit : ByteArray := method_42_code
def yL_isFit : MethodName := ⟨RL, "isFit", "(LSpoonNavy;)Z"⟩
abbrev cL_law : ByteArray := code
def yL_law : MethodName := ⟨RL, "law", "([I)Z"⟩

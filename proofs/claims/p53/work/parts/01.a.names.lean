/-! FROM 01.a.names.lean.txt -/
section
def RX0 : String := "CheatHeap$Game"
def TX0 : u_T := fun k => match k with
  | 0 => ("CheatHeap$Game", "rules", "LCheatHeap$Rules;", true)
  | 1 => ("CheatHeap$Game", "hands", "LCheatHeap$Hands;", true)
  | 2 => ("CheatHeap$Game", "pile", "LCheatHeap$Pile;", true)
  | 3 => ("CheatHeap$Game", "script", "LCheatHeap$Script;", true)
  | 4 => ("CheatHeap$Game", "kind", "I", false)
  | 5 => ("CheatHeap$Game", "turn", "I", false)
  | 6 => ("CheatHeap$Game", "winner", "I", false)
  | 7 => ("CheatHeap$Game", "open", "Z", false)
  | 8 => ("CheatHeap$Game", "wants", "LCheatHeap$Row;", true)
  | 9 => ("CheatHeap$Game", "wanted", "I", false)
  | 10 => ("CheatHeap$Game", "rest", "LCheatHeap$Row;", true)
  | 11 => ("CheatHeap$Game", "sumForeseen", "I", false)
  | 12 => ("CheatHeap$Game", "ridBehind", "I", false)
  | 13 => ("CheatHeap$Game", "latestKind", "I", false)
  | _ => ("CheatHeap$Game", "firstLie", "I", false)
def tyX0 : Nat → FieldType := fun k => match k with
  | 0 => .object "CheatHeap$Rules"
  | 1 => .object "CheatHeap$Hands"
  | 2 => .object "CheatHeap$Pile"
  | 3 => .object "CheatHeap$Script"
  | 4 => .int
  | 5 => .int
  | 6 => .int
  | 7 => .boolean
  | 8 => .object "CheatHeap$Row"
  | 9 => .int
  | 10 => .object "CheatHeap$Row"
  | 11 => .int
  | 12 => .int
  | 13 => .int
  | _ => .int
abbrev wsX00 : List Cond := u_ws RX0 TX0 15
theorem nmX0 : ∀ a, a < 15 → ∀ b, b < 15 → a ≠ b → (TX0 a).2.1 ≠ (TX0 b).2.1 := by decide +kernel
theorem tyX0_ok : ∀ k, k < 15 → parseFieldDescriptor (TX0 k).2.2.1 = some (tyX0 k) := by decide +kernel
abbrev cX0_init : ByteArray := prog_2_method_1_code
def yX0_init : MethodName := ⟨RX0, "<init>", "()V"⟩
abbrev cX0_reset : ByteArray := prog_2_method_2_code
def yX0_reset : MethodName := ⟨RX0, "reset", "()V"⟩
abbrev cX0_copyFrom : ByteArray := prog_2_method_3_code
def yX0_copyFrom : MethodName := ⟨RX0, "copyFrom", "(LCheatHeap$Game;)V"⟩
abbrev cX0_clearWanted : ByteArray := prog_2_method_4_code
def yX0_clearWanted : MethodName := ⟨RX0, "clearWanted", "()V"⟩
abbrev cX0_want : ByteArray := prog_2_method_5_code
def yX0_want : MethodName := ⟨RX0, "want", "(II)V"⟩
abbrev cX0_holdsWanted : ByteArray := prog_2_method_6_code
def yX0_holdsWanted : MethodName := ⟨RX0, "holdsWanted", "()Z"⟩
abbrev cX0_layWanted : ByteArray := prog_2_method_7_code
def yX0_layWanted : MethodName := ⟨RX0, "layWanted", "()V"⟩
abbrev cX0_letLie : ByteArray := prog_2_method_8_code
def yX0_letLie : MethodName := ⟨RX0, "letLie", "()V"⟩
abbrev cX0_challenge : ByteArray := prog_2_method_9_code
def yX0_challenge : MethodName := ⟨RX0, "challenge", "(I)I"⟩
abbrev cX0_winIfRid : ByteArray := prog_2_method_10_code
def yX0_winIfRid : MethodName := ⟨RX0, "winIfRid", "()V"⟩
abbrev cX0_unknownTo : ByteArray := prog_2_method_11_code
def yX0_unknownTo : MethodName := ⟨RX0, "unknownTo", "(II)I"⟩
abbrev cX0_allUnknownTo : ByteArray := prog_2_method_12_code
def yX0_allUnknownTo : MethodName := ⟨RX0, "allUnknownTo", "(I)I"⟩
abbrev cX0_isImpossibleFor : ByteArray := prog_2_method_13_code
def yX0_isImpossibleFor : MethodName := ⟨RX0, "isImpossibleFor", "(I)Z"⟩
abbrev cX0_trueWays : ByteArray := prog_2_method_14_code
def yX0_trueWays : MethodName := ⟨RX0, "trueWays", "(I)J"⟩
abbrev cX0_allWays : ByteArray := prog_2_method_15_code
def yX0_allWays : MethodName := ⟨RX0, "allWays", "(I)J"⟩
abbrev cX0_worthTop : ByteArray := prog_2_method_16_code
def yX0_worthTop : MethodName := ⟨RX0, "worthTop", "(I)J"⟩
abbrev cX0_lyingOf : ByteArray := prog_2_method_17_code
def yX0_lyingOf : MethodName := ⟨RX0, "lyingOf", "(I)I"⟩
abbrev cX0_turnsAhead : ByteArray := prog_2_method_18_code
def yX0_turnsAhead : MethodName := ⟨RX0, "turnsAhead", "(I)I"⟩
abbrev cX0_fallingKind : ByteArray := prog_2_method_19_code
def yX0_fallingKind : MethodName := ⟨RX0, "fallingKind", "(II)I"⟩
abbrev cX0_foresee : ByteArray := prog_2_method_20_code
def yX0_foresee : MethodName := ⟨RX0, "foresee", "(II)V"⟩
abbrev cX0_sixteenthsLeft : ByteArray := prog_2_method_21_code
def yX0_sixteenthsLeft : MethodName := ⟨RX0, "sixteenthsLeft", "(III)I"⟩
def RX1 : String := "CheatHeap$Hands"
def TX1 : u_T := fun k => match k with
  | 0 => ("CheatHeap$Hands", "held", "LCheatHeap$Row;", true)
  | 1 => ("CheatHeap$Hands", "laid", "LCheatHeap$Row;", true)
  | 2 => ("CheatHeap$Hands", "cards", "LCheatHeap$Row;", true)
  | 3 => ("CheatHeap$Hands", "lying", "LCheatHeap$Row;", true)
  | 4 => ("CheatHeap$Hands", "doubting", "LCheatHeap$Row;", true)
  | 5 => ("CheatHeap$Hands", "shown", "LCheatHeap$Row;", true)
  | _ => ("CheatHeap$Hands", "untrue", "LCheatHeap$Row;", true)
def tyX1 : Nat → FieldType := fun k => match k with
  | 0 => .object "CheatHeap$Row"
  | 1 => .object "CheatHeap$Row"
  | 2 => .object "CheatHeap$Row"
  | 3 => .object "CheatHeap$Row"
  | 4 => .object "CheatHeap$Row"
  | 5 => .object "CheatHeap$Row"
  | _ => .object "CheatHeap$Row"
abbrev wsX10 : List Cond := u_ws RX1 TX1 7
theorem nmX1 : ∀ a, a < 7 → ∀ b, b < 7 → a ≠ b → (TX1 a).2.1 ≠ (TX1 b).2.1 := by decide +kernel
theorem tyX1_ok : ∀ k, k < 7 → parseFieldDescriptor (TX1 k).2.2.1 = some (tyX1 k) := by decide +kernel
abbrev cX1_init : ByteArray := prog_3_method_1_code
def yX1_init : MethodName := ⟨RX1, "<init>", "()V"⟩
abbrev cX1_reset : ByteArray := prog_3_method_2_code
def yX1_reset : MethodName := ⟨RX1, "reset", "()V"⟩
abbrev cX1_copyFrom : ByteArray := prog_3_method_3_code
def yX1_copyFrom : MethodName := ⟨RX1, "copyFrom", "(LCheatHeap$Hands;)V"⟩
abbrev cX1_heldBy : ByteArray := prog_3_method_4_code
def yX1_heldBy : MethodName := ⟨RX1, "heldBy", "(II)I"⟩
abbrev cX1_laidBy : ByteArray := prog_3_method_5_code
def yX1_laidBy : MethodName := ⟨RX1, "laidBy", "(II)I"⟩
abbrev cX1_allLaidBy : ByteArray := prog_3_method_6_code
def yX1_allLaidBy : MethodName := ⟨RX1, "allLaidBy", "(I)I"⟩
abbrev cX1_knownTo : ByteArray := prog_3_method_7_code
def yX1_knownTo : MethodName := ⟨RX1, "knownTo", "(II)I"⟩
abbrev cX1_deal : ByteArray := prog_3_method_8_code
def yX1_deal : MethodName := ⟨RX1, "deal", "(III)V"⟩
abbrev cX1_moveToHeap : ByteArray := prog_3_method_9_code
def yX1_moveToHeap : MethodName := ⟨RX1, "moveToHeap", "(III)V"⟩
abbrev cX1_takeHeap : ByteArray := prog_3_method_10_code
def yX1_takeHeap : MethodName := ⟨RX1, "takeHeap", "(I)V"⟩
abbrev cX1_honestTop : ByteArray := prog_3_method_11_code
def yX1_honestTop : MethodName := ⟨RX1, "honestTop", "(I)J"⟩
abbrev cX1_honestBottom : ByteArray := prog_3_method_12_code
def yX1_honestBottom : MethodName := ⟨RX1, "honestBottom", "(I)J"⟩
def RX2 : String := "CheatHeap$Pile"
def TX2 : u_T := fun k => match k with
  | 0 => ("CheatHeap$Pile", "layings", "I", false)
  | 1 => ("CheatHeap$Pile", "cards", "I", false)
  | 2 => ("CheatHeap$Pile", "layer", "LCheatHeap$Row;", true)
  | 3 => ("CheatHeap$Pile", "kindSaid", "LCheatHeap$Row;", true)
  | 4 => ("CheatHeap$Pile", "size", "LCheatHeap$Row;", true)
  | _ => ("CheatHeap$Pile", "card", "LCheatHeap$Row;", true)
def tyX2 : Nat → FieldType := fun k => match k with
  | 0 => .int
  | 1 => .int
  | 2 => .object "CheatHeap$Row"
  | 3 => .object "CheatHeap$Row"
  | 4 => .object "CheatHeap$Row"
  | _ => .object "CheatHeap$Row"
abbrev wsX20 : List Cond := u_ws RX2 TX2 6
theorem nmX2 : ∀ a, a < 6 → ∀ b, b < 6 → a ≠ b → (TX2 a).2.1 ≠ (TX2 b).2.1 := by decide +kernel
theorem tyX2_ok : ∀ k, k < 6 → parseFieldDescriptor (TX2 k).2.2.1 = some (tyX2 k) := by decide +kernel
abbrev cX2_init : ByteArray := prog_4_method_1_code
def yX2_init : MethodName := ⟨RX2, "<init>", "()V"⟩
abbrev cX2_clear : ByteArray := prog_4_method_2_code
def yX2_clear : MethodName := ⟨RX2, "clear", "()V"⟩
abbrev cX2_copyFrom : ByteArray := prog_4_method_3_code
def yX2_copyFrom : MethodName := ⟨RX2, "copyFrom", "(LCheatHeap$Pile;)V"⟩
abbrev cX2_begin : ByteArray := prog_4_method_4_code
def yX2_begin : MethodName := ⟨RX2, "begin", "(II)V"⟩
abbrev cX2_add : ByteArray := prog_4_method_5_code
def yX2_add : MethodName := ⟨RX2, "add", "(II)V"⟩
abbrev cX2_kindOf : ByteArray := prog_4_method_6_code
def yX2_kindOf : MethodName := ⟨RX2, "kindOf", "(II)I"⟩
abbrev cX2_truth : ByteArray := prog_4_method_7_code
def yX2_truth : MethodName := ⟨RX2, "truth", "(I)I"⟩
abbrev cX2_topTruth : ByteArray := prog_4_method_8_code
def yX2_topTruth : MethodName := ⟨RX2, "topTruth", "()I"⟩
abbrev cX2_topSize : ByteArray := prog_4_method_9_code
def yX2_topSize : MethodName := ⟨RX2, "topSize", "()I"⟩
abbrev cX2_timesSaid : ByteArray := prog_4_method_10_code
def yX2_timesSaid : MethodName := ⟨RX2, "timesSaid", "(II)I"⟩
def RX3 : String := "CheatHeap$Reader"
def TX3 : u_T := fun k => match k with
  | _ => ("", "", "", false)
def tyX3 : Nat → FieldType := fun k => match k with
  | _ => .int
abbrev wsX30 : List Cond := u_ws RX3 TX3 0
theorem nmX3 : ∀ a, a < 0 → ∀ b, b < 0 → a ≠ b → (TX3 a).2.1 ≠ (TX3 b).2.1 := by decide +kernel
theorem tyX3_ok : ∀ k, k < 0 → parseFieldDescriptor (TX3 k).2.2.1 = some (tyX3 k) := by decide +kernel
abbrev cX3_init : ByteArray := prog_5_method_1_code
def yX3_init : MethodName := ⟨RX3, "<init>", "()V"⟩
abbrev cX3_start : ByteArray := prog_5_method_2_code
def yX3_start : MethodName := ⟨RX3, "start", "([BI)V"⟩
abbrev cX3_advance : ByteArray := prog_5_method_3_code
def yX3_advance : MethodName := ⟨RX3, "advance", "()V"⟩
abbrev cX3_endOfRun : ByteArray := prog_5_method_4_code
def yX3_endOfRun : MethodName := ⟨RX3, "endOfRun", "(II)I"⟩
abbrev cX3_size : ByteArray := prog_5_method_5_code
def yX3_size : MethodName := ⟨RX3, "size", "()I"⟩
abbrev cX3_signAt : ByteArray := prog_5_method_6_code
def yX3_signAt : MethodName := ⟨RX3, "signAt", "(I)I"⟩
abbrev cX3_fails : ByteArray := prog_5_method_7_code
def yX3_fails : MethodName := ⟨RX3, "fails", "(I)Z"⟩
abbrev cX3_isWord : ByteArray := prog_5_method_8_code
def yX3_isWord : MethodName := ⟨RX3, "isWord", "(Ljava/lang/String;)Z"⟩
abbrev cX3_isReserved : ByteArray := prog_5_method_9_code
def yX3_isReserved : MethodName := ⟨RX3, "isReserved", "()Z"⟩
abbrev cX3_mustBeName : ByteArray := prog_5_method_10_code
def yX3_mustBeName : MethodName := ⟨RX3, "mustBeName", "()Z"⟩
abbrev cX3_mustBeNumber : ByteArray := prog_5_method_11_code
def yX3_mustBeNumber : MethodName := ⟨RX3, "mustBeNumber", "(II)Z"⟩
abbrev cX3_passPlayer : ByteArray := prog_5_method_12_code
def yX3_passPlayer : MethodName := ⟨RX3, "passPlayer", "(LCheatHeap$Rules;)I"⟩
abbrev cX3_passNumber : ByteArray := prog_5_method_13_code
def yX3_passNumber : MethodName := ⟨RX3, "passNumber", "(II)I"⟩
abbrev cX3_passWord : ByteArray := prog_5_method_14_code
def yX3_passWord : MethodName := ⟨RX3, "passWord", "(Ljava/lang/String;)Z"⟩
abbrev cX3_passSemicolon : ByteArray := prog_5_method_15_code
def yX3_passSemicolon : MethodName := ⟨RX3, "passSemicolon", "()Z"⟩
def RX4 : String := "CheatHeap$RoundReader"
def TX4 : u_T := fun k => match k with
  | 0 => ("CheatHeap$Reader", "text", "[B", false)
  | 1 => ("CheatHeap$Reader", "length", "I", false)
  | 2 => ("CheatHeap$Reader", "begin", "I", false)
  | 3 => ("CheatHeap$Reader", "end", "I", false)
  | 4 => ("CheatHeap$Reader", "type", "I", false)
  | 5 => ("CheatHeap$Reader", "value", "I", false)
  | 6 => ("CheatHeap$Reader", "fault", "I", false)
  | 7 => ("CheatHeap$Reader", "place", "I", false)
  | 8 => ("CheatHeap$RoundReader", "script", "LCheatHeap$Script;", true)
  | 9 => ("CheatHeap$RoundReader", "openAt", "LCheatHeap$Row;", true)
  | _ => ("CheatHeap$RoundReader", "depth", "I", false)
def tyX4 : Nat → FieldType := fun k => match k with
  | 0 => .array .byte
  | 1 => .int
  | 2 => .int
  | 3 => .int
  | 4 => .int
  | 5 => .int
  | 6 => .int
  | 7 => .int
  | 8 => .object "CheatHeap$Script"
  | 9 => .object "CheatHeap$Row"
  | _ => .int
abbrev wsX40 : List Cond := u_ws RX4 TX4 11
theorem nmX4 : ∀ a, a < 11 → ∀ b, b < 11 → a ≠ b → (TX4 a).2.1 ≠ (TX4 b).2.1 := by decide +kernel
theorem tyX4_ok : ∀ k, k < 11 → parseFieldDescriptor (TX4 k).2.2.1 = some (tyX4 k) := by decide +kernel
abbrev cX4_init : ByteArray := prog_6_method_1_code
def yX4_init : MethodName := ⟨RX4, "<init>", "()V"⟩
abbrev cX4_takes : ByteArray := prog_6_method_2_code
def yX4_takes : MethodName := ⟨RX4, "takes", "([BILCheatHeap$Rules;)Z"⟩
abbrev cX4_readEnd : ByteArray := prog_6_method_3_code
def yX4_readEnd : MethodName := ⟨RX4, "readEnd", "()Z"⟩
abbrev cX4_readStep : ByteArray := prog_6_method_4_code
def yX4_readStep : MethodName := ⟨RX4, "readStep", "(LCheatHeap$Rules;)Z"⟩
abbrev cX4_actionHere : ByteArray := prog_6_method_5_code
def yX4_actionHere : MethodName := ⟨RX4, "actionHere", "()I"⟩
abbrev cX4_readTest : ByteArray := prog_6_method_6_code
def yX4_readTest : MethodName := ⟨RX4, "readTest", "(I)Z"⟩
abbrev cX4_readOperands : ByteArray := prog_6_method_7_code
def yX4_readOperands : MethodName := ⟨RX4, "readOperands", "(ILCheatHeap$Rules;)Z"⟩
def RX5 : String := "CheatHeap$Row"
def TX5 : u_T := fun k => match k with
  | _ => ("CheatHeap$Row", "cells", "[I", true)
def tyX5 : Nat → FieldType := fun k => match k with
  | _ => .array .int
abbrev wsX50 : List Cond := u_ws RX5 TX5 1
theorem nmX5 : ∀ a, a < 1 → ∀ b, b < 1 → a ≠ b → (TX5 a).2.1 ≠ (TX5 b).2.1 := by decide +kernel
theorem tyX5_ok : ∀ k, k < 1 → parseFieldDescriptor (TX5 k).2.2.1 = some (tyX5 k) := by decide +kernel
abbrev cX5_init : ByteArray := prog_7_method_1_code
def yX5_init : MethodName := ⟨RX5, "<init>", "(I)V"⟩
abbrev cX5_get : ByteArray := prog_7_method_2_code
def yX5_get : MethodName := ⟨RX5, "get", "(I)I"⟩
abbrev cX5_set : ByteArray := prog_7_method_3_code
def yX5_set : MethodName := ⟨RX5, "set", "(II)V"⟩
abbrev cX5_add : ByteArray := prog_7_method_4_code
def yX5_add : MethodName := ⟨RX5, "add", "(II)V"⟩
abbrev cX5_sum : ByteArray := prog_7_method_5_code
def yX5_sum : MethodName := ⟨RX5, "sum", "(II)I"⟩
abbrev cX5_clear : ByteArray := prog_7_method_6_code
def yX5_clear : MethodName := ⟨RX5, "clear", "()V"⟩
abbrev cX5_copyFrom : ByteArray := prog_7_method_7_code
def yX5_copyFrom : MethodName := ⟨RX5, "copyFrom", "(LCheatHeap$Row;)V"⟩
def RX6 : String := "CheatHeap$Rules"
def TX6 : u_T := fun k => match k with
  | 0 => ("CheatHeap$Rules", "kinds", "I", false)
  | 1 => ("CheatHeap$Rules", "each", "I", false)
  | 2 => ("CheatHeap$Rules", "law", "I", false)
  | 3 => ("CheatHeap$Rules", "most", "I", false)
  | 4 => ("CheatHeap$Rules", "players", "I", false)
  | 5 => ("CheatHeap$Rules", "dealt", "LCheatHeap$Row;", true)
  | 6 => ("CheatHeap$Rules", "names", "LCheatHeap$Row;", true)
  | _ => ("CheatHeap$Rules", "nameLength", "LCheatHeap$Row;", true)
def tyX6 : Nat → FieldType := fun k => match k with
  | 0 => .int
  | 1 => .int
  | 2 => .int
  | 3 => .int
  | 4 => .int
  | 5 => .object "CheatHeap$Row"
  | 6 => .object "CheatHeap$Row"
  | _ => .object "CheatHeap$Row"
abbrev wsX60 : List Cond := u_ws RX6 TX6 8
theorem nmX6 : ∀ a, a < 8 → ∀ b, b < 8 → a ≠ b → (TX6 a).2.1 ≠ (TX6 b).2.1 := by decide +kernel
theorem tyX6_ok : ∀ k, k < 8 → parseFieldDescriptor (TX6 k).2.2.1 = some (tyX6 k) := by decide +kernel
abbrev cX6_init : ByteArray := prog_8_method_1_code
def yX6_init : MethodName := ⟨RX6, "<init>", "()V"⟩
abbrev cX6_reset : ByteArray := prog_8_method_2_code
def yX6_reset : MethodName := ⟨RX6, "reset", "()V"⟩
abbrev cX6_copyFrom : ByteArray := prog_8_method_3_code
def yX6_copyFrom : MethodName := ⟨RX6, "copyFrom", "(LCheatHeap$Rules;)V"⟩
abbrev cX6_playerAfter : ByteArray := prog_8_method_4_code
def yX6_playerAfter : MethodName := ⟨RX6, "playerAfter", "(II)I"⟩
abbrev cX6_kindAfter : ByteArray := prog_8_method_5_code
def yX6_kindAfter : MethodName := ⟨RX6, "kindAfter", "(II)I"⟩
abbrev cX6_kindAfterDoubt : ByteArray := prog_8_method_6_code
def yX6_kindAfterDoubt : MethodName := ⟨RX6, "kindAfterDoubt", "(I)I"⟩
abbrev cX6_addPlayer : ByteArray := prog_8_method_7_code
def yX6_addPlayer : MethodName := ⟨RX6, "addPlayer", "(LCheatHeap$Reader;)V"⟩
abbrev cX6_playerNamed : ByteArray := prog_8_method_8_code
def yX6_playerNamed : MethodName := ⟨RX6, "playerNamed", "(LCheatHeap$Reader;)I"⟩
abbrev cX6_isNamed : ByteArray := prog_8_method_9_code
def yX6_isNamed : MethodName := ⟨RX6, "isNamed", "(ILCheatHeap$Reader;)Z"⟩
def RX7 : String := "CheatHeap$Run"
def TX7 : u_T := fun k => match k with
  | 0 => ("CheatHeap$Run", "steps", "I", false)
  | 1 => ("CheatHeap$Run", "missed", "I", false)
  | 2 => ("CheatHeap$Run", "layings", "I", false)
  | 3 => ("CheatHeap$Run", "doubts", "I", false)
  | 4 => ("CheatHeap$Run", "rightDoubts", "I", false)
  | 5 => ("CheatHeap$Run", "isCut", "Z", false)
  | 6 => ("CheatHeap$Run", "state", "I", false)
  | _ => ("CheatHeap$Run", "timesLeft", "LCheatHeap$Row;", true)
def tyX7 : Nat → FieldType := fun k => match k with
  | 0 => .int
  | 1 => .int
  | 2 => .int
  | 3 => .int
  | 4 => .int
  | 5 => .boolean
  | 6 => .int
  | _ => .object "CheatHeap$Row"
abbrev wsX70 : List Cond := u_ws RX7 TX7 8
theorem nmX7 : ∀ a, a < 8 → ∀ b, b < 8 → a ≠ b → (TX7 a).2.1 ≠ (TX7 b).2.1 := by decide +kernel
theorem tyX7_ok : ∀ k, k < 8 → parseFieldDescriptor (TX7 k).2.2.1 = some (tyX7 k) := by decide +kernel
abbrev cX7_init : ByteArray := prog_9_method_1_code
def yX7_init : MethodName := ⟨RX7, "<init>", "()V"⟩
abbrev cX7_go : ByteArray := prog_9_method_2_code
def yX7_go : MethodName := ⟨RX7, "go", "(LCheatHeap$Game;I)V"⟩
abbrev cX7_behindEnd : ByteArray := prog_9_method_3_code
def yX7_behindEnd : MethodName := ⟨RX7, "behindEnd", "(LCheatHeap$Script;I)I"⟩
abbrev cX7_behindStep : ByteArray := prog_9_method_4_code
def yX7_behindStep : MethodName := ⟨RX7, "behindStep", "(LCheatHeap$Game;I)I"⟩
abbrev cX7_takeTurn : ByteArray := prog_9_method_5_code
def yX7_takeTurn : MethodName := ⟨RX7, "takeTurn", "(LCheatHeap$Game;)V"⟩
abbrev cX7_choose : ByteArray := prog_9_method_6_code
def yX7_choose : MethodName := ⟨RX7, "choose", "(LCheatHeap$Game;)V"⟩
abbrev cX7_fullestOther : ByteArray := prog_9_method_7_code
def yX7_fullestOther : MethodName := ⟨RX7, "fullestOther", "(LCheatHeap$Game;)I"⟩
abbrev cX7_firstDoubter : ByteArray := prog_9_method_8_code
def yX7_firstDoubter : MethodName := ⟨RX7, "firstDoubter", "(LCheatHeap$Game;)I"⟩
abbrev cX7_draw : ByteArray := prog_9_method_9_code
def yX7_draw : MethodName := ⟨RX7, "draw", "()I"⟩
def RX8 : String := "CheatHeap$Script"
def TX8 : u_T := fun k => match k with
  | 0 => ("CheatHeap$Script", "isThere", "Z", false)
  | 1 => ("CheatHeap$Script", "steps", "I", false)
  | 2 => ("CheatHeap$Script", "lines", "I", false)
  | 3 => ("CheatHeap$Script", "action", "LCheatHeap$Row;", true)
  | 4 => ("CheatHeap$Script", "mate", "LCheatHeap$Row;", true)
  | 5 => ("CheatHeap$Script", "who", "LCheatHeap$Row;", true)
  | 6 => ("CheatHeap$Script", "comparison", "LCheatHeap$Row;", true)
  | _ => ("CheatHeap$Script", "number", "LCheatHeap$Row;", true)
def tyX8 : Nat → FieldType := fun k => match k with
  | 0 => .boolean
  | 1 => .int
  | 2 => .int
  | 3 => .object "CheatHeap$Row"
  | 4 => .object "CheatHeap$Row"
  | 5 => .object "CheatHeap$Row"
  | 6 => .object "CheatHeap$Row"
  | _ => .object "CheatHeap$Row"
abbrev wsX80 : List Cond := u_ws RX8 TX8 8
theorem nmX8 : ∀ a, a < 8 → ∀ b, b < 8 → a ≠ b → (TX8 a).2.1 ≠ (TX8 b).2.1 := by decide +kernel
theorem tyX8_ok : ∀ k, k < 8 → parseFieldDescriptor (TX8 k).2.2.1 = some (tyX8 k) := by decide +kernel
abbrev cX8_init : ByteArray := prog_10_method_1_code
def yX8_init : MethodName := ⟨RX8, "<init>", "()V"⟩
abbrev cX8_clear : ByteArray := prog_10_method_2_code
def yX8_clear : MethodName := ⟨RX8, "clear", "()V"⟩
abbrev cX8_copyFrom : ByteArray := prog_10_method_3_code
def yX8_copyFrom : MethodName := ⟨RX8, "copyFrom", "(LCheatHeap$Script;)V"⟩
abbrev cX8_add : ByteArray := prog_10_method_4_code
def yX8_add : MethodName := ⟨RX8, "add", "(I)I"⟩
abbrev cX8_meets : ByteArray := prog_10_method_5_code
def yX8_meets : MethodName := ⟨RX8, "meets", "(II)Z"⟩
abbrev cX8_isWhen : ByteArray := prog_10_method_6_code
def yX8_isWhen : MethodName := ⟨RX8, "isWhen", "(I)Z"⟩
abbrev cX8_hasName : ByteArray := prog_10_method_7_code
def yX8_hasName : MethodName := ⟨RX8, "hasName", "(I)Z"⟩
abbrev cX8_hasComparison : ByteArray := prog_10_method_8_code
def yX8_hasComparison : MethodName := ⟨RX8, "hasComparison", "(I)Z"⟩
abbrev cX8_highest : ByteArray := prog_10_method_9_code
def yX8_highest : MethodName := ⟨RX8, "highest", "(I)I"⟩
def RX9 : String := "CheatHeap$TableReader"
def TX9 : u_T := fun k => match k with
  | 0 => ("CheatHeap$Reader", "text", "[B", false)
  | 1 => ("CheatHeap$Reader", "length", "I", false)
  | 2 => ("CheatHeap$Reader", "begin", "I", false)
  | 3 => ("CheatHeap$Reader", "end", "I", false)
  | 4 => ("CheatHeap$Reader", "type", "I", false)
  | 5 => ("CheatHeap$Reader", "value", "I", false)
  | 6 => ("CheatHeap$Reader", "fault", "I", false)
  | 7 => ("CheatHeap$Reader", "place", "I", false)
  | 8 => ("CheatHeap$TableReader", "game", "LCheatHeap$Game;", true)
  | 9 => ("CheatHeap$TableReader", "isLawTold", "Z", false)
  | 10 => ("CheatHeap$TableReader", "isMostTold", "Z", false)
  | _ => ("CheatHeap$TableReader", "toldKinds", "LCheatHeap$Row;", true)
def tyX9 : Nat → FieldType := fun k => match k with
  | 0 => .array .byte
  | 1 => .int
  | 2 => .int
  | 3 => .int
  | 4 => .int
  | 5 => .int
  | 6 => .int
  | 7 => .int
  | 8 => .object "CheatHeap$Game"
  | 9 => .boolean
  | 10 => .boolean
  | _ => .object "CheatHeap$Row"
abbrev wsX90 : List Cond := u_ws RX9 TX9 12
theorem nmX9 : ∀ a, a < 12 → ∀ b, b < 12 → a ≠ b → (TX9 a).2.1 ≠ (TX9 b).2.1 := by decide +kernel
theorem tyX9_ok : ∀ k, k < 12 → parseFieldDescriptor (TX9 k).2.2.1 = some (tyX9 k) := by decide +kernel
abbrev cX9_init : ByteArray := prog_11_method_1_code
def yX9_init : MethodName := ⟨RX9, "<init>", "()V"⟩
abbrev cX9_takes : ByteArray := prog_11_method_2_code
def yX9_takes : MethodName := ⟨RX9, "takes", "([BI)Z"⟩
abbrev cX9_readHead : ByteArray := prog_11_method_3_code
def yX9_readHead : MethodName := ⟨RX9, "readHead", "()Z"⟩
abbrev cX9_readPart : ByteArray := prog_11_method_4_code
def yX9_readPart : MethodName := ⟨RX9, "readPart", "()Z"⟩
abbrev cX9_readLaw : ByteArray := prog_11_method_5_code
def yX9_readLaw : MethodName := ⟨RX9, "readLaw", "()Z"⟩
abbrev cX9_readMost : ByteArray := prog_11_method_6_code
def yX9_readMost : MethodName := ⟨RX9, "readMost", "()Z"⟩
abbrev cX9_readPlayer : ByteArray := prog_11_method_7_code
def yX9_readPlayer : MethodName := ⟨RX9, "readPlayer", "()Z"⟩
abbrev cX9_readSixteenths : ByteArray := prog_11_method_8_code
def yX9_readSixteenths : MethodName := ⟨RX9, "readSixteenths", "(Ljava/lang/String;LCheatHeap$Row;I)Z"⟩
abbrev cX9_readHand : ByteArray := prog_11_method_9_code
def yX9_readHand : MethodName := ⟨RX9, "readHand", "()Z"⟩
def RX10 : String := "CheatHeap$Tray"
def TX10 : u_T := fun k => match k with
  | 0 => ("CheatHeap$Tray", "sort", "I", false)
  | 1 => ("CheatHeap$Tray", "places", "I", false)
  | _ => ("CheatHeap$Tray", "cells", "[J", true)
def tyX10 : Nat → FieldType := fun k => match k with
  | 0 => .int
  | 1 => .int
  | _ => .array .long
abbrev wsX100 : List Cond := u_ws RX10 TX10 3
theorem nmX10 : ∀ a, a < 3 → ∀ b, b < 3 → a ≠ b → (TX10 a).2.1 ≠ (TX10 b).2.1 := by decide +kernel
theorem tyX10_ok : ∀ k, k < 3 → parseFieldDescriptor (TX10 k).2.2.1 = some (tyX10 k) := by decide +kernel
abbrev cX10_init : ByteArray := prog_12_method_1_code
def yX10_init : MethodName := ⟨RX10, "<init>", "()V"⟩
abbrev cX10_isMissing : ByteArray := prog_12_method_2_code
def yX10_isMissing : MethodName := ⟨RX10, "isMissing", "()Z"⟩
abbrev cX10_hasPlaces : ByteArray := prog_12_method_3_code
def yX10_hasPlaces : MethodName := ⟨RX10, "hasPlaces", "(II)Z"⟩
abbrev cX10_make : ByteArray := prog_12_method_4_code
def yX10_make : MethodName := ⟨RX10, "make", "(II)V"⟩
abbrev cX10_get : ByteArray := prog_12_method_5_code
def yX10_get : MethodName := ⟨RX10, "get", "(I)J"⟩
abbrev cX10_put : ByteArray := prog_12_method_6_code
def yX10_put : MethodName := ⟨RX10, "put", "(IJ)V"⟩
abbrev cX10_cut : ByteArray := prog_12_method_7_code
def yX10_cut : MethodName := ⟨RX10, "cut", "(J)J"⟩
abbrev cX10_copyFrom : ByteArray := prog_12_method_8_code
def yX10_copyFrom : MethodName := ⟨RX10, "copyFrom", "(LCheatHeap$Tray;III)V"⟩
def RX11 : String := "CheatHeap"
def TX11 : u_T := fun k => match k with
  | 0 => ("CheatHeap", "status", "I", false)
  | 1 => ("CheatHeap", "fractionTop", "J", false)
  | 2 => ("CheatHeap", "fractionBottom", "J", false)
  | 3 => ("CheatHeap", "trays", "[LCheatHeap$Tray;", true)
  | 4 => ("CheatHeap", "tape", "[B", true)
  | 5 => ("CheatHeap", "taped", "I", false)
  | 6 => ("CheatHeap", "faultKind", "I", false)
  | 7 => ("CheatHeap", "faultPlace", "I", false)
  | 8 => ("CheatHeap", "game", "LCheatHeap$Game;", true)
  | 9 => ("CheatHeap", "spare", "LCheatHeap$Game;", true)
  | 10 => ("CheatHeap", "marks", "[LCheatHeap$Game;", true)
  | 11 => ("CheatHeap", "marked", "I", false)
  | 12 => ("CheatHeap", "tableReader", "LCheatHeap$TableReader;", true)
  | 13 => ("CheatHeap", "roundReader", "LCheatHeap$RoundReader;", true)
  | 14 => ("CheatHeap", "run", "LCheatHeap$Run;", true)
  | 15 => ("CheatHeap", "trial", "LCheatHeap$Run;", true)
  | _ => ("CheatHeap", "hasPlayed", "Z", false)
def tyX11 : Nat → FieldType := fun k => match k with
  | 0 => .int
  | 1 => .long
  | 2 => .long
  | 3 => .array (.object "CheatHeap$Tray")
  | 4 => .array .byte
  | 5 => .int
  | 6 => .int
  | 7 => .int
  | 8 => .object "CheatHeap$Game"
  | 9 => .object "CheatHeap$Game"
  | 10 => .array (.object "CheatHeap$Game")
  | 11 => .int
  | 12 => .object "CheatHeap$TableReader"
  | 13 => .object "CheatHeap$RoundReader"
  | 14 => .object "CheatHeap$Run"
  | 15 => .object "CheatHeap$Run"
  | _ => .boolean
abbrev wsX110 : List Cond := u_ws RX11 TX11 17
theorem nmX11 : ∀ a, a < 17 → ∀ b, b < 17 → a ≠ b → (TX11 a).2.1 ≠ (TX11 b).2.1 := by decide +kernel
theorem tyX11_ok : ∀ k, k < 17 → parseFieldDescriptor (TX11 k).2.2.1 = some (tyX11 k) := by decide +kernel
abbrev cX11_init : ByteArray := prog_1_method_1_code
def yX11_init : MethodName := ⟨RX11, "<init>", "()V"⟩
abbrev cX11_status : ByteArray := prog_1_method_2_code
def yX11_status : MethodName := ⟨RX11, "status", "()I"⟩
abbrev cX11_top : ByteArray := prog_1_method_3_code
def yX11_top : MethodName := ⟨RX11, "top", "()J"⟩
abbrev cX11_bottom : ByteArray := prog_1_method_4_code
def yX11_bottom : MethodName := ⟨RX11, "bottom", "()J"⟩
abbrev cX11_tray : ByteArray := prog_1_method_5_code
def yX11_tray : MethodName := ⟨RX11, "tray", "(III)Z"⟩
abbrev cX11_write : ByteArray := prog_1_method_6_code
def yX11_write : MethodName := ⟨RX11, "write", "(IIJ)Z"⟩
abbrev cX11_read : ByteArray := prog_1_method_7_code
def yX11_read : MethodName := ⟨RX11, "read", "(II)J"⟩
abbrev cX11_pour : ByteArray := prog_1_method_8_code
def yX11_pour : MethodName := ⟨RX11, "pour", "(IIIII)Z"⟩
abbrev cX11_trayAt : ByteArray := prog_1_method_9_code
def yX11_trayAt : MethodName := ⟨RX11, "trayAt", "(I)LCheatHeap$Tray;"⟩
abbrev cX11_placeStatus : ByteArray := prog_1_method_10_code
def yX11_placeStatus : MethodName := ⟨RX11, "placeStatus", "(LCheatHeap$Tray;I)I"⟩
abbrev cX11_feed : ByteArray := prog_1_method_11_code
def yX11_feed : MethodName := ⟨RX11, "feed", "(IIIII)I"⟩
abbrev cX11_tapeInt : ByteArray := prog_1_method_12_code
def yX11_tapeInt : MethodName := ⟨RX11, "tapeInt", "(I)V"⟩
abbrev cX11_table : ByteArray := prog_1_method_13_code
def yX11_table : MethodName := ⟨RX11, "table", "(I)I"⟩
abbrev cX11_round : ByteArray := prog_1_method_14_code
def yX11_round : MethodName := ⟨RX11, "round", "(I)I"⟩
abbrev cX11_endReading : ByteArray := prog_1_method_15_code
def yX11_endReading : MethodName := ⟨RX11, "endReading", "(LCheatHeap$Reader;)V"⟩
abbrev cX11_fault : ByteArray := prog_1_method_16_code
def yX11_fault : MethodName := ⟨RX11, "fault", "(I)I"⟩
abbrev cX11_many : ByteArray := prog_1_method_17_code
def yX11_many : MethodName := ⟨RX11, "many", "(I)I"⟩
abbrev cX11_player : ByteArray := prog_1_method_18_code
def yX11_player : MethodName := ⟨RX11, "player", "(II)I"⟩
abbrev cX11_hand : ByteArray := prog_1_method_19_code
def yX11_hand : MethodName := ⟨RX11, "hand", "(II)I"⟩
abbrev cX11_inGame : ByteArray := prog_1_method_20_code
def yX11_inGame : MethodName := ⟨RX11, "inGame", "(I)I"⟩
abbrev cX11_laying : ByteArray := prog_1_method_21_code
def yX11_laying : MethodName := ⟨RX11, "laying", "(II)I"⟩
abbrev cX11_cardOf : ByteArray := prog_1_method_22_code
def yX11_cardOf : MethodName := ⟨RX11, "cardOf", "(II)I"⟩
abbrev cX11_copyHand : ByteArray := prog_1_method_23_code
def yX11_copyHand : MethodName := ⟨RX11, "copyHand", "(II)I"⟩
abbrev cX11_lay : ByteArray := prog_1_method_24_code
def yX11_lay : MethodName := ⟨RX11, "lay", "(IIII)I"⟩
abbrev cX11_leave : ByteArray := prog_1_method_25_code
def yX11_leave : MethodName := ⟨RX11, "leave", "()I"⟩
abbrev cX11_doubt : ByteArray := prog_1_method_26_code
def yX11_doubt : MethodName := ⟨RX11, "doubt", "(I)I"⟩
abbrev cX11_bend : ByteArray := prog_1_method_27_code
def yX11_bend : MethodName := ⟨RX11, "bend", "(III)Z"⟩
abbrev cX11_isSixteenths : ByteArray := prog_1_method_28_code
def yX11_isSixteenths : MethodName := ⟨RX11, "isSixteenths", "(I)Z"⟩
abbrev cX11_known : ByteArray := prog_1_method_29_code
def yX11_known : MethodName := ⟨RX11, "known", "(II)I"⟩
abbrev cX11_unknown : ByteArray := prog_1_method_30_code
def yX11_unknown : MethodName := ⟨RX11, "unknown", "(II)I"⟩
abbrev cX11_impossible : ByteArray := prog_1_method_31_code
def yX11_impossible : MethodName := ⟨RX11, "impossible", "(I)I"⟩
abbrev cX11_blind : ByteArray := prog_1_method_32_code
def yX11_blind : MethodName := ⟨RX11, "blind", "(I)Z"⟩
abbrev cX11_honest : ByteArray := prog_1_method_33_code
def yX11_honest : MethodName := ⟨RX11, "honest", "(I)Z"⟩
abbrev cX11_belief : ByteArray := prog_1_method_34_code
def yX11_belief : MethodName := ⟨RX11, "belief", "(I)Z"⟩
abbrev cX11_worth : ByteArray := prog_1_method_35_code
def yX11_worth : MethodName := ⟨RX11, "worth", "(I)Z"⟩
abbrev cX11_ready : ByteArray := prog_1_method_36_code
def yX11_ready : MethodName := ⟨RX11, "ready", "()I"⟩
abbrev cX11_heap : ByteArray := prog_1_method_37_code
def yX11_heap : MethodName := ⟨RX11, "heap", "(II)Z"⟩
abbrev cX11_said : ByteArray := prog_1_method_38_code
def yX11_said : MethodName := ⟨RX11, "said", "(II)I"⟩
abbrev cX11_waits : ByteArray := prog_1_method_39_code
def yX11_waits : MethodName := ⟨RX11, "waits", "(I)I"⟩
abbrev cX11_falls : ByteArray := prog_1_method_40_code
def yX11_falls : MethodName := ⟨RX11, "falls", "(II)I"⟩
abbrev cX11_honestly : ByteArray := prog_1_method_41_code
def yX11_honestly : MethodName := ⟨RX11, "honestly", "(II)I"⟩
abbrev cX11_rid : ByteArray := prog_1_method_42_code
def yX11_rid : MethodName := ⟨RX11, "rid", "(I)I"⟩
abbrev cX11_lastKind : ByteArray := prog_1_method_43_code
def yX11_lastKind : MethodName := ⟨RX11, "lastKind", "(I)I"⟩
abbrev cX11_mustLie : ByteArray := prog_1_method_44_code
def yX11_mustLie : MethodName := ⟨RX11, "mustLie", "(I)I"⟩
abbrev cX11_soonest : ByteArray := prog_1_method_45_code
def yX11_soonest : MethodName := ⟨RX11, "soonest", "()I"⟩
abbrev cX11_forecastStatus : ByteArray := prog_1_method_46_code
def yX11_forecastStatus : MethodName := ⟨RX11, "forecastStatus", "(II)I"⟩
abbrev cX11_best : ByteArray := prog_1_method_47_code
def yX11_best : MethodName := ⟨RX11, "best", "(II)I"⟩
abbrev cX11_sayer : ByteArray := prog_1_method_48_code
def yX11_sayer : MethodName := ⟨RX11, "sayer", "(I)I"⟩
abbrev cX11_has : ByteArray := prog_1_method_49_code
def yX11_has : MethodName := ⟨RX11, "has", "(I)I"⟩
abbrev cX11_lies : ByteArray := prog_1_method_50_code
def yX11_lies : MethodName := ⟨RX11, "lies", "(I)I"⟩
abbrev cX11_guess : ByteArray := prog_1_method_51_code
def yX11_guess : MethodName := ⟨RX11, "guess", "(III)Z"⟩
abbrev cX11_fullest : ByteArray := prog_1_method_52_code
def yX11_fullest : MethodName := ⟨RX11, "fullest", "()I"⟩
abbrev cX11_quartet : ByteArray := prog_1_method_53_code
def yX11_quartet : MethodName := ⟨RX11, "quartet", "(I)I"⟩
abbrev cX11_sorts : ByteArray := prog_1_method_54_code
def yX11_sorts : MethodName := ⟨RX11, "sorts", "(I)I"⟩
abbrev cX11_liar : ByteArray := prog_1_method_55_code
def yX11_liar : MethodName := ⟨RX11, "liar", "()I"⟩
abbrev cX11_play : ByteArray := prog_1_method_56_code
def yX11_play : MethodName := ⟨RX11, "play", "(I)I"⟩
abbrev cX11_played : ByteArray := prog_1_method_57_code
def yX11_played : MethodName := ⟨RX11, "played", "(I)I"⟩
abbrev cX11_wins : ByteArray := prog_1_method_58_code
def yX11_wins : MethodName := ⟨RX11, "wins", "(III)Z"⟩
abbrev cX11_left : ByteArray := prog_1_method_59_code
def yX11_left : MethodName := ⟨RX11, "left", "(III)Z"⟩
abbrev cX11_seedsStatus : ByteArray := prog_1_method_60_code
def yX11_seedsStatus : MethodName := ⟨RX11, "seedsStatus", "(III)I"⟩
abbrev cX11_mark : ByteArray := prog_1_method_61_code
def yX11_mark : MethodName := ⟨RX11, "mark", "()I"⟩
abbrev cX11_back : ByteArray := prog_1_method_62_code
def yX11_back : MethodName := ⟨RX11, "back", "()I"⟩
abbrev cX11_markAt : ByteArray := prog_1_method_63_code
def yX11_markAt : MethodName := ⟨RX11, "markAt", "(I)LCheatHeap$Game;"⟩
abbrev cX11_good : ByteArray := prog_1_method_64_code
def yX11_good : MethodName := ⟨RX11, "good", "(I)I"⟩
abbrev cX11_none : ByteArray := prog_1_method_65_code
def yX11_none : MethodName := ⟨RX11, "none", "(I)I"⟩
abbrev cX11_goodOrNotThere : ByteArray := prog_1_method_66_code
def yX11_goodOrNotThere : MethodName := ⟨RX11, "goodOrNotThere", "(I)I"⟩
abbrev cX11_yes : ByteArray := prog_1_method_67_code
def yX11_yes : MethodName := ⟨RX11, "yes", "()Z"⟩
abbrev cX11_no : ByteArray := prog_1_method_68_code
def yX11_no : MethodName := ⟨RX11, "no", "(I)Z"⟩
abbrev cX11_tell : ByteArray := prog_1_method_69_code
def yX11_tell : MethodName := ⟨RX11, "tell", "(JJ)Z"⟩
abbrev cX11_commonDivisor : ByteArray := prog_1_method_70_code
def yX11_commonDivisor : MethodName := ⟨RX11, "commonDivisor", "(JJ)J"⟩
abbrev cX11_waysToTake : ByteArray := prog_1_method_71_code
def yX11_waysToTake : MethodName := ⟨RX11, "waysToTake", "(II)J"⟩
abbrev cX11_isPlayer : ByteArray := prog_1_method_72_code
def yX11_isPlayer : MethodName := ⟨RX11, "isPlayer", "(I)Z"⟩
abbrev cX11_isKind : ByteArray := prog_1_method_73_code
def yX11_isKind : MethodName := ⟨RX11, "isKind", "(I)Z"⟩
abbrev cX11_isKindOrNone : ByteArray := prog_1_method_74_code
def yX11_isKindOrNone : MethodName := ⟨RX11, "isKindOrNone", "(I)Z"⟩
abbrev cX11_doubterStatus : ByteArray := prog_1_method_75_code
def yX11_doubterStatus : MethodName := ⟨RX11, "doubterStatus", "(I)I"⟩
def RX12 : String := "CheatHeapModel"
def TX12 : u_T := fun k => match k with
  | 0 => ("CheatHeapModel", "status", "I", false)
  | 1 => ("CheatHeapModel", "thrown", "I", false)
  | 2 => ("CheatHeapModel", "above", "J", false)
  | 3 => ("CheatHeapModel", "under", "J", false)
  | 4 => ("CheatHeapModel", "traySort", "[I", true)
  | 5 => ("CheatHeapModel", "trayMany", "[I", true)
  | 6 => ("CheatHeapModel", "numbers", "[J", true)
  | 7 => ("CheatHeapModel", "tape", "[B", true)
  | 8 => ("CheatHeapModel", "taped", "I", false)
  | 9 => ("CheatHeapModel", "textEnd", "I", false)
  | 10 => ("CheatHeapModel", "faultKind", "I", false)
  | 11 => ("CheatHeapModel", "faultAt", "I", false)
  | 12 => ("CheatHeapModel", "bad", "I", false)
  | 13 => ("CheatHeapModel", "badAt", "I", false)
  | 14 => ("CheatHeapModel", "token", "I", false)
  | 15 => ("CheatHeapModel", "at", "I", false)
  | 16 => ("CheatHeapModel", "behind", "I", false)
  | 17 => ("CheatHeapModel", "number", "I", false)
  | 18 => ("CheatHeapModel", "letters", "I", false)
  | 19 => ("CheatHeapModel", "word", "J", false)
  | 20 => ("CheatHeapModel", "c", "[I", true)
  | 21 => ("CheatHeapModel", "kept", "[I", true)
  | 22 => ("CheatHeapModel", "handTold", "[I", true)
  | 23 => ("CheatHeapModel", "words", "[J", true)
  | 24 => ("CheatHeapModel", "markMany", "I", false)
  | 25 => ("CheatHeapModel", "lawTold", "Z", false)
  | 26 => ("CheatHeapModel", "mostTold", "Z", false)
  | 27 => ("CheatHeapModel", "newSteps", "I", false)
  | 28 => ("CheatHeapModel", "lying", "[I", true)
  | 29 => ("CheatHeapModel", "asked", "[I", true)
  | 30 => ("CheatHeapModel", "blindTop", "J", false)
  | 31 => ("CheatHeapModel", "blindBottom", "J", false)
  | 32 => ("CheatHeapModel", "left", "[I", true)
  | 33 => ("CheatHeapModel", "laidAll", "I", false)
  | 34 => ("CheatHeapModel", "lastLaid", "I", false)
  | 35 => ("CheatHeapModel", "firstLie", "I", false)
  | 36 => ("CheatHeapModel", "playedLast", "[I", true)
  | 37 => ("CheatHeapModel", "hasPlayed", "Z", false)
  | 38 => ("CheatHeapModel", "isOver", "Z", false)
  | 39 => ("CheatHeapModel", "random", "I", false)
  | 40 => ("CheatHeapModel", "done", "I", false)
  | 41 => ("CheatHeapModel", "missed", "I", false)
  | 42 => ("CheatHeapModel", "layMany", "I", false)
  | 43 => ("CheatHeapModel", "doubtMany", "I", false)
  | 44 => ("CheatHeapModel", "rightMany", "I", false)
  | _ => ("CheatHeapModel", "leftOver", "I", false)
def tyX12 : Nat → FieldType := fun k => match k with
  | 0 => .int
  | 1 => .int
  | 2 => .long
  | 3 => .long
  | 4 => .array .int
  | 5 => .array .int
  | 6 => .array .long
  | 7 => .array .byte
  | 8 => .int
  | 9 => .int
  | 10 => .int
  | 11 => .int
  | 12 => .int
  | 13 => .int
  | 14 => .int
  | 15 => .int
  | 16 => .int
  | 17 => .int
  | 18 => .int
  | 19 => .long
  | 20 => .array .int
  | 21 => .array .int
  | 22 => .array .int
  | 23 => .array .long
  | 24 => .int
  | 25 => .boolean
  | 26 => .boolean
  | 27 => .int
  | 28 => .array .int
  | 29 => .array .int
  | 30 => .long
  | 31 => .long
  | 32 => .array .int
  | 33 => .int
  | 34 => .int
  | 35 => .int
  | 36 => .array .int
  | 37 => .boolean
  | 38 => .boolean
  | 39 => .int
  | 40 => .int
  | 41 => .int
  | 42 => .int
  | 43 => .int
  | 44 => .int
  | _ => .int
abbrev wsX120 : List Cond := u_ws RX12 TX12 46
theorem nmX12 : ∀ a, a < 46 → ∀ b, b < 46 → a ≠ b → (TX12 a).2.1 ≠ (TX12 b).2.1 := by decide +kernel
theorem tyX12_ok : ∀ k, k < 46 → parseFieldDescriptor (TX12 k).2.2.1 = some (tyX12 k) := by decide +kernel
abbrev cX12_init : ByteArray := prog_14_method_1_code
def yX12_init : MethodName := ⟨RX12, "<init>", "()V"⟩
abbrev cX12_status : ByteArray := prog_14_method_3_code
def yX12_status : MethodName := ⟨RX12, "status", "()I"⟩
abbrev cX12_top : ByteArray := prog_14_method_4_code
def yX12_top : MethodName := ⟨RX12, "top", "()J"⟩
abbrev cX12_bottom : ByteArray := prog_14_method_5_code
def yX12_bottom : MethodName := ⟨RX12, "bottom", "()J"⟩
abbrev cX12_refuse : ByteArray := prog_14_method_6_code
def yX12_refuse : MethodName := ⟨RX12, "refuse", "(I)I"⟩
abbrev cX12_no : ByteArray := prog_14_method_7_code
def yX12_no : MethodName := ⟨RX12, "no", "(I)Z"⟩
abbrev cX12_isIn : ByteArray := prog_14_method_8_code
def yX12_isIn : MethodName := ⟨RX12, "isIn", "(JJJ)Z"⟩
abbrev cX12_fraction : ByteArray := prog_14_method_9_code
def yX12_fraction : MethodName := ⟨RX12, "fraction", "(JJ)Z"⟩
abbrev cX12_cut : ByteArray := prog_14_method_10_code
def yX12_cut : MethodName := ⟨RX12, "cut", "(IJ)J"⟩
abbrev cX12_tray : ByteArray := prog_14_method_11_code
def yX12_tray : MethodName := ⟨RX12, "tray", "(III)Z"⟩
abbrev cX12_trayed : ByteArray := prog_14_method_12_code
def yX12_trayed : MethodName := ⟨RX12, "trayed", "(I)I"⟩
abbrev cX12_placed : ByteArray := prog_14_method_13_code
def yX12_placed : MethodName := ⟨RX12, "placed", "(II)I"⟩
abbrev cX12_write : ByteArray := prog_14_method_14_code
def yX12_write : MethodName := ⟨RX12, "write", "(IIJ)Z"⟩
abbrev cX12_read : ByteArray := prog_14_method_15_code
def yX12_read : MethodName := ⟨RX12, "read", "(II)J"⟩
abbrev cX12_pour : ByteArray := prog_14_method_16_code
def yX12_pour : MethodName := ⟨RX12, "pour", "(IIIII)Z"⟩
abbrev cX12_isTray : ByteArray := prog_14_method_17_code
def yX12_isTray : MethodName := ⟨RX12, "isTray", "(I)Z"⟩
abbrev cX12_look2 : ByteArray := prog_14_method_18_code
def yX12_look2 : MethodName := ⟨RX12, "look2", "(I)I"⟩
abbrev cX12_isLetter : ByteArray := prog_14_method_19_code
def yX12_isLetter : MethodName := ⟨RX12, "isLetter", "(I)Z"⟩
abbrev cX12_isDigit : ByteArray := prog_14_method_20_code
def yX12_isDigit : MethodName := ⟨RX12, "isDigit", "(I)Z"⟩
abbrev cX12_isSignByte : ByteArray := prog_14_method_21_code
def yX12_isSignByte : MethodName := ⟨RX12, "isSignByte", "(I)Z"⟩
abbrev cX12_next : ByteArray := prog_14_method_22_code
def yX12_next : MethodName := ⟨RX12, "next", "()V"⟩
abbrev cX12_isSign : ByteArray := prog_14_method_23_code
def yX12_isSign : MethodName := ⟨RX12, "isSign", "(I)Z"⟩
abbrev cX12_spelled : ByteArray := prog_14_method_24_code
def yX12_spelled : MethodName := ⟨RX12, "spelled", "(IIIIII)J"⟩
abbrev cX12_isWord : ByteArray := prog_14_method_25_code
def yX12_isWord : MethodName := ⟨RX12, "isWord", "(J)Z"⟩
abbrev cX12_isKinds : ByteArray := prog_14_method_26_code
def yX12_isKinds : MethodName := ⟨RX12, "isKinds", "()Z"⟩
abbrev cX12_isEach : ByteArray := prog_14_method_27_code
def yX12_isEach : MethodName := ⟨RX12, "isEach", "()Z"⟩
abbrev cX12_isLaw : ByteArray := prog_14_method_28_code
def yX12_isLaw : MethodName := ⟨RX12, "isLaw", "()Z"⟩
abbrev cX12_isMost : ByteArray := prog_14_method_29_code
def yX12_isMost : MethodName := ⟨RX12, "isMost", "()Z"⟩
abbrev cX12_isPlayer : ByteArray := prog_14_method_30_code
def yX12_isPlayer : MethodName := ⟨RX12, "isPlayer", "()Z"⟩
abbrev cX12_isLies : ByteArray := prog_14_method_31_code
def yX12_isLies : MethodName := ⟨RX12, "isLies", "()Z"⟩
abbrev cX12_isDoubts : ByteArray := prog_14_method_32_code
def yX12_isDoubts : MethodName := ⟨RX12, "isDoubts", "()Z"⟩
abbrev cX12_isHand : ByteArray := prog_14_method_33_code
def yX12_isHand : MethodName := ⟨RX12, "isHand", "()Z"⟩
abbrev cX12_isOf : ByteArray := prog_14_method_34_code
def yX12_isOf : MethodName := ⟨RX12, "isOf", "()Z"⟩
abbrev cX12_lawWord : ByteArray := prog_14_method_35_code
def yX12_lawWord : MethodName := ⟨RX12, "lawWord", "()I"⟩
abbrev cX12_stepWord : ByteArray := prog_14_method_36_code
def yX12_stepWord : MethodName := ⟨RX12, "stepWord", "()I"⟩
abbrev cX12_testWord : ByteArray := prog_14_method_37_code
def yX12_testWord : MethodName := ⟨RX12, "testWord", "()I"⟩
abbrev cX12_isEnd : ByteArray := prog_14_method_38_code
def yX12_isEnd : MethodName := ⟨RX12, "isEnd", "()Z"⟩
abbrev cX12_isKept : ByteArray := prog_14_method_39_code
def yX12_isKept : MethodName := ⟨RX12, "isKept", "()Z"⟩
abbrev cX12_isName : ByteArray := prog_14_method_40_code
def yX12_isName : MethodName := ⟨RX12, "isName", "()Z"⟩
abbrev cX12_fail : ByteArray := prog_14_method_41_code
def yX12_fail : MethodName := ⟨RX12, "fail", "(II)V"⟩
abbrev cX12_wrong : ByteArray := prog_14_method_42_code
def yX12_wrong : MethodName := ⟨RX12, "wrong", "()V"⟩
abbrev cX12_must : ByteArray := prog_14_method_43_code
def yX12_must : MethodName := ⟨RX12, "must", "(Z)V"⟩
abbrev cX12_count : ByteArray := prog_14_method_44_code
def yX12_count : MethodName := ⟨RX12, "count", "(II)I"⟩
abbrev cX12_feed : ByteArray := prog_14_method_45_code
def yX12_feed : MethodName := ⟨RX12, "feed", "(IIIII)I"⟩
abbrev cX12_lays : ByteArray := prog_14_method_46_code
def yX12_lays : MethodName := ⟨RX12, "lays", "(I)V"⟩
abbrev cX12_opens : ByteArray := prog_14_method_47_code
def yX12_opens : MethodName := ⟨RX12, "opens", "(II)Z"⟩
abbrev cX12_isWell : ByteArray := prog_14_method_48_code
def yX12_isWell : MethodName := ⟨RX12, "isWell", "()Z"⟩
abbrev cX12_fault : ByteArray := prog_14_method_49_code
def yX12_fault : MethodName := ⟨RX12, "fault", "(I)I"⟩
abbrev cX12_named : ByteArray := prog_14_method_50_code
def yX12_named : MethodName := ⟨RX12, "named", "(I)I"⟩
abbrev cX12_readTold : ByteArray := prog_14_method_51_code
def yX12_readTold : MethodName := ⟨RX12, "readTold", "(I)I"⟩
abbrev cX12_readPlayer : ByteArray := prog_14_method_52_code
def yX12_readPlayer : MethodName := ⟨RX12, "readPlayer", "()V"⟩
abbrev cX12_toldOf : ByteArray := prog_14_method_53_code
def yX12_toldOf : MethodName := ⟨RX12, "toldOf", "(I)I"⟩
abbrev cX12_readHand : ByteArray := prog_14_method_54_code
def yX12_readHand : MethodName := ⟨RX12, "readHand", "()V"⟩
abbrev cX12_readLaw : ByteArray := prog_14_method_55_code
def yX12_readLaw : MethodName := ⟨RX12, "readLaw", "()V"⟩
abbrev cX12_readMost : ByteArray := prog_14_method_56_code
def yX12_readMost : MethodName := ⟨RX12, "readMost", "()V"⟩
abbrev cX12_table : ByteArray := prog_14_method_57_code
def yX12_table : MethodName := ⟨RX12, "table", "(I)I"⟩
abbrev cX12_readTest : ByteArray := prog_14_method_58_code
def yX12_readTest : MethodName := ⟨RX12, "readTest", "(I)V"⟩
abbrev cX12_readRest : ByteArray := prog_14_method_59_code
def yX12_readRest : MethodName := ⟨RX12, "readRest", "(I)V"⟩
abbrev cX12_readStep : ByteArray := prog_14_method_60_code
def yX12_readStep : MethodName := ⟨RX12, "readStep", "(I)V"⟩
abbrev cX12_round : ByteArray := prog_14_method_61_code
def yX12_round : MethodName := ⟨RX12, "round", "(I)I"⟩
abbrev cX12_isPlayerAt : ByteArray := prog_14_method_62_code
def yX12_isPlayerAt : MethodName := ⟨RX12, "isPlayerAt", "(I)Z"⟩
abbrev cX12_isKindAt : ByteArray := prog_14_method_63_code
def yX12_isKindAt : MethodName := ⟨RX12, "isKindAt", "(I)Z"⟩
abbrev cX12_handOf : ByteArray := prog_14_method_64_code
def yX12_handOf : MethodName := ⟨RX12, "handOf", "(II)I"⟩
abbrev cX12_cardsOf : ByteArray := prog_14_method_65_code
def yX12_cardsOf : MethodName := ⟨RX12, "cardsOf", "(I)I"⟩
abbrev cX12_laid : ByteArray := prog_14_method_66_code
def yX12_laid : MethodName := ⟨RX12, "laid", "(I)I"⟩
abbrev cX12_heapMany : ByteArray := prog_14_method_67_code
def yX12_heapMany : MethodName := ⟨RX12, "heapMany", "()I"⟩
abbrev cX12_laidOf : ByteArray := prog_14_method_68_code
def yX12_laidOf : MethodName := ⟨RX12, "laidOf", "(II)I"⟩
abbrev cX12_many : ByteArray := prog_14_method_69_code
def yX12_many : MethodName := ⟨RX12, "many", "(I)I"⟩
abbrev cX12_player : ByteArray := prog_14_method_70_code
def yX12_player : MethodName := ⟨RX12, "player", "(II)I"⟩
abbrev cX12_hand : ByteArray := prog_14_method_71_code
def yX12_hand : MethodName := ⟨RX12, "hand", "(II)I"⟩
abbrev cX12_inGameOf : ByteArray := prog_14_method_72_code
def yX12_inGameOf : MethodName := ⟨RX12, "inGameOf", "(I)I"⟩
abbrev cX12_inGame : ByteArray := prog_14_method_73_code
def yX12_inGame : MethodName := ⟨RX12, "inGame", "(I)I"⟩
abbrev cX12_sortOf : ByteArray := prog_14_method_74_code
def yX12_sortOf : MethodName := ⟨RX12, "sortOf", "(I)I"⟩
abbrev cX12_laying : ByteArray := prog_14_method_75_code
def yX12_laying : MethodName := ⟨RX12, "laying", "(II)I"⟩
abbrev cX12_cardOf : ByteArray := prog_14_method_76_code
def yX12_cardOf : MethodName := ⟨RX12, "cardOf", "(II)I"⟩
abbrev cX12_copyHand : ByteArray := prog_14_method_77_code
def yX12_copyHand : MethodName := ⟨RX12, "copyHand", "(II)I"⟩
abbrev cX12_nextKind : ByteArray := prog_14_method_78_code
def yX12_nextKind : MethodName := ⟨RX12, "nextKind", "(Z)I"⟩
abbrev cX12_behindOf : ByteArray := prog_14_method_79_code
def yX12_behindOf : MethodName := ⟨RX12, "behindOf", "(I)I"⟩
abbrev cX12_laysDown : ByteArray := prog_14_method_80_code
def yX12_laysDown : MethodName := ⟨RX12, "laysDown", "(I[I)V"⟩
abbrev cX12_lay : ByteArray := prog_14_method_81_code
def yX12_lay : MethodName := ⟨RX12, "lay", "(IIII)I"⟩
abbrev cX12_leaves : ByteArray := prog_14_method_82_code
def yX12_leaves : MethodName := ⟨RX12, "leaves", "()V"⟩
abbrev cX12_leave : ByteArray := prog_14_method_83_code
def yX12_leave : MethodName := ⟨RX12, "leave", "()I"⟩
abbrev cX12_takes : ByteArray := prog_14_method_84_code
def yX12_takes : MethodName := ⟨RX12, "takes", "(I)V"⟩
abbrev cX12_doubts : ByteArray := prog_14_method_85_code
def yX12_doubts : MethodName := ⟨RX12, "doubts", "(I)I"⟩
abbrev cX12_doubt : ByteArray := prog_14_method_86_code
def yX12_doubt : MethodName := ⟨RX12, "doubt", "(I)I"⟩
abbrev cX12_bend : ByteArray := prog_14_method_87_code
def yX12_bend : MethodName := ⟨RX12, "bend", "(III)Z"⟩
abbrev cX12_knownOf : ByteArray := prog_14_method_88_code
def yX12_knownOf : MethodName := ⟨RX12, "knownOf", "(II)I"⟩
abbrev cX12_unknownOf : ByteArray := prog_14_method_89_code
def yX12_unknownOf : MethodName := ⟨RX12, "unknownOf", "(II)I"⟩
abbrev cX12_unknownAll : ByteArray := prog_14_method_90_code
def yX12_unknownAll : MethodName := ⟨RX12, "unknownAll", "(I)I"⟩
abbrev cX12_known : ByteArray := prog_14_method_91_code
def yX12_known : MethodName := ⟨RX12, "known", "(II)I"⟩
abbrev cX12_unknown : ByteArray := prog_14_method_92_code
def yX12_unknown : MethodName := ⟨RX12, "unknown", "(II)I"⟩
abbrev cX12_choose : ByteArray := prog_14_method_93_code
def yX12_choose : MethodName := ⟨RX12, "choose", "(II)J"⟩
abbrev cX12_blinds : ByteArray := prog_14_method_94_code
def yX12_blinds : MethodName := ⟨RX12, "blinds", "(I)V"⟩
abbrev cX12_isImpossible : ByteArray := prog_14_method_95_code
def yX12_isImpossible : MethodName := ⟨RX12, "isImpossible", "(I)Z"⟩
abbrev cX12_whyNot : ByteArray := prog_14_method_96_code
def yX12_whyNot : MethodName := ⟨RX12, "whyNot", "(I)I"⟩
abbrev cX12_impossible : ByteArray := prog_14_method_97_code
def yX12_impossible : MethodName := ⟨RX12, "impossible", "(I)I"⟩
abbrev cX12_blind : ByteArray := prog_14_method_98_code
def yX12_blind : MethodName := ⟨RX12, "blind", "(I)Z"⟩
abbrev cX12_honest : ByteArray := prog_14_method_99_code
def yX12_honest : MethodName := ⟨RX12, "honest", "(I)Z"⟩
abbrev cX12_belief : ByteArray := prog_14_method_100_code
def yX12_belief : MethodName := ⟨RX12, "belief", "(I)Z"⟩
abbrev cX12_worth : ByteArray := prog_14_method_101_code
def yX12_worth : MethodName := ⟨RX12, "worth", "(I)Z"⟩
abbrev cX12_ready : ByteArray := prog_14_method_102_code
def yX12_ready : MethodName := ⟨RX12, "ready", "()I"⟩
abbrev cX12_heap : ByteArray := prog_14_method_103_code
def yX12_heap : MethodName := ⟨RX12, "heap", "(II)Z"⟩
abbrev cX12_said : ByteArray := prog_14_method_104_code
def yX12_said : MethodName := ⟨RX12, "said", "(II)I"⟩
abbrev cX12_waitsOf : ByteArray := prog_14_method_105_code
def yX12_waitsOf : MethodName := ⟨RX12, "waitsOf", "(I)I"⟩
abbrev cX12_waits : ByteArray := prog_14_method_106_code
def yX12_waits : MethodName := ⟨RX12, "waits", "(I)I"⟩
abbrev cX12_fallsTo : ByteArray := prog_14_method_107_code
def yX12_fallsTo : MethodName := ⟨RX12, "fallsTo", "(II)I"⟩
abbrev cX12_falls : ByteArray := prog_14_method_108_code
def yX12_falls : MethodName := ⟨RX12, "falls", "(II)I"⟩
abbrev cX12_honestFor : ByteArray := prog_14_method_109_code
def yX12_honestFor : MethodName := ⟨RX12, "honestFor", "(II)I"⟩
abbrev cX12_honestly : ByteArray := prog_14_method_110_code
def yX12_honestly : MethodName := ⟨RX12, "honestly", "(II)I"⟩
abbrev cX12_ridOf : ByteArray := prog_14_method_111_code
def yX12_ridOf : MethodName := ⟨RX12, "ridOf", "(I)I"⟩
abbrev cX12_rid : ByteArray := prog_14_method_112_code
def yX12_rid : MethodName := ⟨RX12, "rid", "(I)I"⟩
abbrev cX12_lastKind : ByteArray := prog_14_method_113_code
def yX12_lastKind : MethodName := ⟨RX12, "lastKind", "(I)I"⟩
abbrev cX12_mustLie : ByteArray := prog_14_method_114_code
def yX12_mustLie : MethodName := ⟨RX12, "mustLie", "(I)I"⟩
abbrev cX12_soonest : ByteArray := prog_14_method_115_code
def yX12_soonest : MethodName := ⟨RX12, "soonest", "()I"⟩
abbrev cX12_best : ByteArray := prog_14_method_116_code
def yX12_best : MethodName := ⟨RX12, "best", "(II)I"⟩
abbrev cX12_sayer : ByteArray := prog_14_method_117_code
def yX12_sayer : MethodName := ⟨RX12, "sayer", "(I)I"⟩
abbrev cX12_has : ByteArray := prog_14_method_118_code
def yX12_has : MethodName := ⟨RX12, "has", "(I)I"⟩
abbrev cX12_lies : ByteArray := prog_14_method_119_code
def yX12_lies : MethodName := ⟨RX12, "lies", "(I)I"⟩
abbrev cX12_guess : ByteArray := prog_14_method_120_code
def yX12_guess : MethodName := ⟨RX12, "guess", "(III)Z"⟩
abbrev cX12_fullest : ByteArray := prog_14_method_121_code
def yX12_fullest : MethodName := ⟨RX12, "fullest", "()I"⟩
abbrev cX12_quartet : ByteArray := prog_14_method_122_code
def yX12_quartet : MethodName := ⟨RX12, "quartet", "(I)I"⟩
abbrev cX12_sorts : ByteArray := prog_14_method_123_code
def yX12_sorts : MethodName := ⟨RX12, "sorts", "(I)I"⟩
abbrev cX12_liar : ByteArray := prog_14_method_124_code
def yX12_liar : MethodName := ⟨RX12, "liar", "()I"⟩
abbrev cX12_draw : ByteArray := prog_14_method_125_code
def yX12_draw : MethodName := ⟨RX12, "draw", "()I"⟩
abbrev cX12_otherKind : ByteArray := prog_14_method_126_code
def yX12_otherKind : MethodName := ⟨RX12, "otherKind", "(I)I"⟩
abbrev cX12_turns : ByteArray := prog_14_method_127_code
def yX12_turns : MethodName := ⟨RX12, "turns", "()Z"⟩
abbrev cX12_does : ByteArray := prog_14_method_128_code
def yX12_does : MethodName := ⟨RX12, "does", "(I)Z"⟩
abbrev cX12_isSo : ByteArray := prog_14_method_129_code
def yX12_isSo : MethodName := ⟨RX12, "isSo", "(I)Z"⟩
abbrev cX12_doOne : ByteArray := prog_14_method_130_code
def yX12_doOne : MethodName := ⟨RX12, "doOne", "(I)V"⟩
abbrev cX12_doAll : ByteArray := prog_14_method_131_code
def yX12_doAll : MethodName := ⟨RX12, "doAll", "(II)V"⟩
abbrev cX12_plays : ByteArray := prog_14_method_132_code
def yX12_plays : MethodName := ⟨RX12, "plays", "(I)V"⟩
abbrev cX12_play : ByteArray := prog_14_method_133_code
def yX12_play : MethodName := ⟨RX12, "play", "(I)I"⟩
abbrev cX12_played : ByteArray := prog_14_method_134_code
def yX12_played : MethodName := ⟨RX12, "played", "(I)I"⟩
abbrev cX12_tries : ByteArray := prog_14_method_135_code
def yX12_tries : MethodName := ⟨RX12, "tries", "(IIIZ)Z"⟩
abbrev cX12_wins : ByteArray := prog_14_method_136_code
def yX12_wins : MethodName := ⟨RX12, "wins", "(III)Z"⟩
abbrev cX12_left : ByteArray := prog_14_method_137_code
def yX12_left : MethodName := ⟨RX12, "left", "(III)Z"⟩
abbrev cX12_copy : ByteArray := prog_14_method_138_code
def yX12_copy : MethodName := ⟨RX12, "copy", "(II)V"⟩
abbrev cX12_mark : ByteArray := prog_14_method_139_code
def yX12_mark : MethodName := ⟨RX12, "mark", "()I"⟩
abbrev cX12_back : ByteArray := prog_14_method_140_code
def yX12_back : MethodName := ⟨RX12, "back", "()I"⟩
def RJ9 : String := "java/lang/Math"
def TJ9 : u_T := fun k => match k with
  | _ => ("", "", "", false)
def tyJ9 : Nat → FieldType := fun k => match k with
  | _ => .int
abbrev wsJ90 : List Cond := u_ws RJ9 TJ9 0
theorem nmJ9 : ∀ a, a < 0 → ∀ b, b < 0 → a ≠ b → (TJ9 a).2.1 ≠ (TJ9 b).2.1 := by decide +kernel
theorem tyJ9_ok : ∀ k, k < 0 → parseFieldDescriptor (TJ9 k).2.2.1 = some (tyJ9 k) := by decide +kernel
abbrev cJ9_floorMod_7cf53 : ByteArray := prog_15_method_50_code
def yJ9_floorMod_7cf53 : MethodName := ⟨RJ9, "floorMod", "(II)I"⟩
abbrev cJ9_abs_067f4 : ByteArray := prog_15_method_61_code
def yJ9_abs_067f4 : MethodName := ⟨RJ9, "abs", "(J)J"⟩
abbrev cJ9_max_7cf53 : ByteArray := prog_15_method_65_code
def yJ9_max_7cf53 : MethodName := ⟨RJ9, "max", "(II)I"⟩
abbrev cJ9_min_7cf53 : ByteArray := prog_15_method_69_code
def yJ9_min_7cf53 : MethodName := ⟨RJ9, "min", "(II)I"⟩
def RJ0 : String := "java/lang/String"
def TJ0 : u_T := fun k => match k with
  | _ => ("", "", "", false)
def tyJ0 : Nat → FieldType := fun k => match k with
  | _ => .int
abbrev wsJ00 : List Cond := u_ws RJ0 TJ0 0
theorem nmJ0 : ∀ a, a < 0 → ∀ b, b < 0 → a ≠ b → (TJ0 a).2.1 ≠ (TJ0 b).2.1 := by decide +kernel
theorem tyJ0_ok : ∀ k, k < 0 → parseFieldDescriptor (TJ0 k).2.2.1 = some (tyJ0 k) := by decide +kernel
abbrev cJ0_length_8abf5 : ByteArray := prog_16_method_54_code
def yJ0_length_8abf5 : MethodName := ⟨RJ0, "length", "()I"⟩
abbrev cJ0_charAt_5068e : ByteArray := prog_16_method_56_code
def yJ0_charAt_5068e : MethodName := ⟨RJ0, "charAt", "(I)C"⟩
abbrev cJ0_coder_7d493 : ByteArray := prog_16_method_152_code
def yJ0_coder_7d493 : MethodName := ⟨RJ0, "coder", "()B"⟩
abbrev cJ0_isLatin1_aae02 : ByteArray := prog_16_method_154_code
def yJ0_isLatin1_aae02 : MethodName := ⟨RJ0, "isLatin1", "()Z"⟩
abbrev cJ0_checkIndex_df160 : ByteArray := prog_16_method_155_code
def yJ0_checkIndex_df160 : MethodName := ⟨RJ0, "checkIndex", "(II)V"⟩
def RJ1 : String := "java/lang/StringLatin1"
def TJ1 : u_T := fun k => match k with
  | _ => ("", "", "", false)
def tyJ1 : Nat → FieldType := fun k => match k with
  | _ => .int
abbrev wsJ10 : List Cond := u_ws RJ1 TJ1 0
theorem nmJ1 : ∀ a, a < 0 → ∀ b, b < 0 → a ≠ b → (TJ1 a).2.1 ≠ (TJ1 b).2.1 := by decide +kernel
theorem tyJ1_ok : ∀ k, k < 0 → parseFieldDescriptor (TJ1 k).2.2.1 = some (tyJ1 k) := by decide +kernel
abbrev cJ1_charAt_3b067 : ByteArray := prog_17_method_2_code
def yJ1_charAt_3b067 : MethodName := ⟨RJ1, "charAt", "([BI)C"⟩
def RJ2 : String := "java/lang/StringUTF16"
def TJ2 : u_T := fun k => match k with
  | _ => ("", "", "", false)
def tyJ2 : Nat → FieldType := fun k => match k with
  | _ => .int
abbrev wsJ20 : List Cond := u_ws RJ2 TJ2 0
theorem nmJ2 : ∀ a, a < 0 → ∀ b, b < 0 → a ≠ b → (TJ2 a).2.1 ≠ (TJ2 b).2.1 := by decide +kernel
theorem tyJ2_ok : ∀ k, k < 0 → parseFieldDescriptor (TJ2 k).2.2.1 = some (tyJ2 k) := by decide +kernel
abbrev cJ2_getChar_3b067 : ByteArray := prog_18_method_5_code
def yJ2_getChar_3b067 : MethodName := ⟨RJ2, "getChar", "([BI)C"⟩
abbrev cJ2_length_9d52b : ByteArray := prog_18_method_6_code
def yJ2_length_9d52b : MethodName := ⟨RJ2, "length", "([B)I"⟩
abbrev cJ2_charAt_3b067 : ByteArray := prog_18_method_83_code
def yJ2_charAt_3b067 : MethodName := ⟨RJ2, "charAt", "([BI)C"⟩
abbrev cJ2_checkIndex_2214a : ByteArray := prog_18_method_91_code
def yJ2_checkIndex_2214a : MethodName := ⟨RJ2, "checkIndex", "(I[B)V"⟩
def RJ10 : String := "java/lang/System"
def TJ10 : u_T := fun k => match k with
  | _ => ("", "", "", false)
def tyJ10 : Nat → FieldType := fun k => match k with
  | _ => .int
abbrev wsJ100 : List Cond := u_ws RJ10 TJ10 0
theorem nmJ10 : ∀ a, a < 0 → ∀ b, b < 0 → a ≠ b → (TJ10 a).2.1 ≠ (TJ10 b).2.1 := by decide +kernel
theorem tyJ10_ok : ∀ k, k < 0 → parseFieldDescriptor (TJ10 k).2.2.1 = some (tyJ10 k) := by decide +kernel
def RJ3 : String := "jdk/internal/util/Preconditions"
def TJ3 : u_T := fun k => match k with
  | _ => ("", "", "", false)
def tyJ3 : Nat → FieldType := fun k => match k with
  | _ => .int
abbrev wsJ30 : List Cond := u_ws RJ3 TJ3 0
theorem nmJ3 : ∀ a, a < 0 → ∀ b, b < 0 → a ≠ b → (TJ3 a).2.1 ≠ (TJ3 b).2.1 := by decide +kernel
theorem tyJ3_ok : ∀ k, k < 0 → parseFieldDescriptor (TJ3 k).2.2.1 = some (tyJ3 k) := by decide +kernel
abbrev cJ3_checkIndex_8e157 : ByteArray := prog_20_method_11_code
def yJ3_checkIndex_8e157 : MethodName := ⟨RJ3, "checkIndex", "(IILjava/util/function/BiFunction;)I"⟩
def RL : String := "CheatHeapLaw"
abbrev cL_law : ByteArray := code
def yL_law : MethodName := ⟨RL, "law", "([I)Z"⟩
abbrev vwCl : List vw_C := [(RX0, TX0, 15), (RX1, TX1, 7), (RX2, TX2, 6), (RX4, TX4, 11), (RX5, TX5, 1), (RX6, TX6, 8), (RX7, TX7, 8), (RX8, TX8, 8), (RX9, TX9, 12), (RX10, TX10, 3), (RX11, TX11, 17), (RX12, TX12, 46)]
end
/-! FROM 01.b.dec.lean.txt -/
section
/-! DECODING, cheaply: by the bytes, some rows at a time -/
def dq (x : Except DecodeError (Instr × Nat)) (I : Instr) (n : Nat) : Bool := match x with | .ok (i, m) => decide (i = I) && decide (m = n) | .error _ => false
theorem d_of {c : ByteArray} {pc n : Nat} {I : Instr} (h : dq (decode c pc) I n = true) : decode c pc = .ok (I, n) := by
  revert h
  cases decode c pc with
  | error e => intro h; exact Bool.noConfusion h
  | ok p =>
    obtain ⟨i, m⟩ := p
    intro h
    have h' : (decide (i = I) && decide (m = n)) = true := h
    rw [Bool.and_eq_true, decide_eq_true_eq, decide_eq_true_eq] at h'
    rw [h'.1, h'.2]
theorem dl_u1 {c : ByteArray} {pc : Nat} {a : UInt8} {r : List UInt8} (h : c.data.toList.drop pc = a :: r) : (Reader.u1 : Decoder Nat) c pc = .ok (a.toNat, pc + 1) ∧ c.data.toList.drop (pc + 1) = r := by
  have hl : pc < c.data.toList.length := by
    by_cases q : pc < c.data.toList.length
    · exact q
    · rw [List.drop_eq_nil_of_le (by omega)] at h
      cases h
  have e := List.drop_eq_getElem_cons hl
  rw [h] at e
  obtain ⟨e1, e2⟩ := List.cons.inj e
  refine ⟨?_, e2.symm⟩
  have hl' : pc < c.size := hl
  show (if h : pc < c.size then (do set (pc + 1); Pure.pure c[pc].toNat : Decoder Nat) else throw (HasTruncated.truncated pc)) c pc = _
  rw [dif_pos hl', e1]
  rfl

/-- behind the first byte -/
theorem dl_op {c : ByteArray} {pc op : Nat} (hu : (Reader.u1 : Decoder Nat) c pc = .ok (op, pc + 1)) : ∃ K : Nat → Decoder Instr, decode c pc = Except.bind (K op c (pc + 1)) (fun x => .ok (x.1, x.2 - pc)) ∧ K 1 = Pure.pure Instr.aconst_null ∧ K 2 = Pure.pure (Instr.iconst (-1)) ∧ K 3 = Pure.pure (Instr.iconst 0) ∧ K 4 = Pure.pure (Instr.iconst 1) ∧ K 5 = Pure.pure (Instr.iconst 2) ∧ K 6 = Pure.pure (Instr.iconst 3) ∧ K 7 = Pure.pure (Instr.iconst 4) ∧ K 8 = Pure.pure (Instr.iconst 5) ∧ K 9 = Pure.pure (Instr.lconst 0) ∧ K 10 = Pure.pure (Instr.lconst 1) ∧ K 26 = Pure.pure (Instr.iload_n 0) ∧ K 27 = Pure.pure (Instr.iload_n 1) ∧ K 28 = Pure.pure (Instr.iload_n 2) ∧ K 29 = Pure.pure (Instr.iload_n 3) ∧ K 30 = Pure.pure (Instr.lload_n 0) ∧ K 31 = Pure.pure (Instr.lload_n 1) ∧ K 32 = Pure.pure (Instr.lload_n 2) ∧ K 33 = Pure.pure (Instr.lload_n 3) ∧ K 42 = Pure.pure (Instr.aload_n 0) ∧ K 43 = Pure.pure (Instr.aload_n 1) ∧ K 44 = Pure.pure (Instr.aload_n 2) ∧ K 45 = Pure.pure (Instr.aload_n 3) ∧ K 46 = Pure.pure Instr.iaload ∧ K 47 = Pure.pure Instr.laload ∧ K 50 = Pure.pure Instr.aaload ∧ K 51 = Pure.pure Instr.baload ∧ K 59 = Pure.pure (Instr.istore_n 0) ∧ K 60 = Pure.pure (Instr.istore_n 1) ∧ K 61 = Pure.pure (Instr.istore_n 2) ∧ K 62 = Pure.pure (Instr.istore_n 3) ∧ K 63 = Pure.pure (Instr.lstore_n 0) ∧ K 64 = Pure.pure (Instr.lstore_n 1) ∧ K 65 = Pure.pure (Instr.lstore_n 2) ∧ K 66 = Pure.pure (Instr.lstore_n 3) ∧ K 75 = Pure.pure (Instr.astore_n 0) ∧ K 76 = Pure.pure (Instr.astore_n 1) ∧ K 77 = Pure.pure (Instr.astore_n 2) ∧ K 78 = Pure.pure (Instr.astore_n 3) ∧ K 79 = Pure.pure Instr.iastore ∧ K 80 = Pure.pure Instr.lastore ∧ K 83 = Pure.pure Instr.aastore ∧ K 84 = Pure.pure Instr.bastore ∧ K 87 = Pure.pure Instr.pop ∧ K 88 = Pure.pure Instr.pop2 ∧ K 89 = Pure.pure Instr.dup ∧ K 92 = Pure.pure Instr.dup2 ∧ K 96 = Pure.pure Instr.iadd ∧ K 97 = Pure.pure Instr.ladd ∧ K 100 = Pure.pure Instr.isub ∧ K 101 = Pure.pure Instr.lsub ∧ K 104 = Pure.pure Instr.imul ∧ K 105 = Pure.pure Instr.lmul ∧ K 108 = Pure.pure Instr.idiv ∧ K 109 = Pure.pure Instr.ldiv ∧ K 112 = Pure.pure Instr.irem ∧ K 113 = Pure.pure Instr.lrem ∧ K 116 = Pure.pure Instr.ineg ∧ K 117 = Pure.pure Instr.lneg ∧ K 120 = Pure.pure Instr.ishl ∧ K 121 = Pure.pure Instr.lshl ∧ K 122 = Pure.pure Instr.ishr ∧ K 126 = Pure.pure Instr.iand ∧ K 127 = Pure.pure Instr.land ∧ K 128 = Pure.pure Instr.ior ∧ K 129 = Pure.pure Instr.lor ∧ K 130 = Pure.pure Instr.ixor ∧ K 133 = Pure.pure Instr.i2l ∧ K 136 = Pure.pure Instr.l2i ∧ K 145 = Pure.pure Instr.i2b ∧ K 146 = Pure.pure Instr.i2c ∧ K 147 = Pure.pure Instr.i2s ∧ K 148 = Pure.pure Instr.lcmp ∧ K 172 = Pure.pure Instr.ireturn ∧ K 173 = Pure.pure Instr.lreturn ∧ K 176 = Pure.pure Instr.areturn ∧ K 177 = Pure.pure Instr.return_ ∧ K 190 = Pure.pure Instr.arraylength ∧ K 191 = Pure.pure Instr.athrow ∧ K 18 = (do let x ← Reader.u1; Pure.pure (Instr.ldc x)) ∧ K 21 = (do let x ← Reader.u1; Pure.pure (Instr.iload x)) ∧ K 22 = (do let x ← Reader.u1; Pure.pure (Instr.lload x)) ∧ K 25 = (do let x ← Reader.u1; Pure.pure (Instr.aload x)) ∧ K 54 = (do let x ← Reader.u1; Pure.pure (Instr.istore x)) ∧ K 55 = (do let x ← Reader.u1; Pure.pure (Instr.lstore x)) ∧ K 58 = (do let x ← Reader.u1; Pure.pure (Instr.astore x)) ∧ K 16 = (do let x ← Reader.s1; Pure.pure (Instr.bipush x)) ∧ K 19 = (do let x ← Reader.u2; Pure.pure (Instr.ldc_w x)) ∧ K 20 = (do let x ← Reader.u2; Pure.pure (Instr.ldc2_w x)) ∧ K 178 = (do let x ← Reader.u2; Pure.pure (Instr.getstatic x)) ∧ K 180 = (do let x ← Reader.u2; Pure.pure (Instr.getfield x)) ∧ K 181 = (do let x ← Reader.u2; Pure.pure (Instr.putfield x)) ∧ K 182 = (do let x ← Reader.u2; Pure.pure (Instr.invokevirtual x)) ∧ K 183 = (do let x ← Reader.u2; Pure.pure (Instr.invokespecial x)) ∧ K 184 = (do let x ← Reader.u2; Pure.pure (Instr.invokestatic x)) ∧ K 187 = (do let x ← Reader.u2; Pure.pure (Instr.new x)) ∧ K 189 = (do let x ← Reader.u2; Pure.pure (Instr.anewarray x)) ∧ K 17 = (do let x ← Reader.s2; Pure.pure (Instr.sipush x)) ∧ K 167 = (do let x ← Reader.s2; Pure.pure (Instr.goto x)) ∧ K 198 = (do let x ← Reader.s2; Pure.pure (Instr.ifnull x)) ∧ K 199 = (do let x ← Reader.s2; Pure.pure (Instr.ifnonnull x)) ∧ K 153 = (do let x ← Reader.s2; Pure.pure (Instr.ifCond Jvm.ClassFile.Cond.eq x)) ∧ K 159 = (do let x ← Reader.s2; Pure.pure (Instr.if_icmp Jvm.ClassFile.Cond.eq x)) ∧ K 154 = (do let x ← Reader.s2; Pure.pure (Instr.ifCond Jvm.ClassFile.Cond.ne x)) ∧ K 160 = (do let x ← Reader.s2; Pure.pure (Instr.if_icmp Jvm.ClassFile.Cond.ne x)) ∧ K 155 = (do let x ← Reader.s2; Pure.pure (Instr.ifCond Jvm.ClassFile.Cond.lt x)) ∧ K 161 = (do let x ← Reader.s2; Pure.pure (Instr.if_icmp Jvm.ClassFile.Cond.lt x)) ∧ K 156 = (do let x ← Reader.s2; Pure.pure (Instr.ifCond Jvm.ClassFile.Cond.ge x)) ∧ K 162 = (do let x ← Reader.s2; Pure.pure (Instr.if_icmp Jvm.ClassFile.Cond.ge x)) ∧ K 157 = (do let x ← Reader.s2; Pure.pure (Instr.ifCond Jvm.ClassFile.Cond.gt x)) ∧ K 163 = (do let x ← Reader.s2; Pure.pure (Instr.if_icmp Jvm.ClassFile.Cond.gt x)) ∧ K 158 = (do let x ← Reader.s2; Pure.pure (Instr.ifCond Jvm.ClassFile.Cond.le x)) ∧ K 164 = (do let x ← Reader.s2; Pure.pure (Instr.if_icmp Jvm.ClassFile.Cond.le x)) ∧ K 132 = (do let x ← Reader.u1; let y ← Reader.s1; Pure.pure (Instr.iinc x y)) := by
  have key : ∀ L : Nat → Decoder Instr, Decoder.instr pc = (Reader.u1 >>= L) → decode c pc = Except.bind (L op c (pc + 1)) (fun x => .ok (x.1, x.2 - pc)) := fun L hL => by
    show Except.bind (Decoder.instr pc c pc) (fun x => Except.ok (x.1, x.2 - pc)) = _
    rw [hL]
    show Except.bind (Except.bind ((Reader.u1 : Decoder Nat) c pc) (fun p => L p.1 c p.2)) (fun x => Except.ok (x.1, x.2 - pc)) = _
    rw [hu]
    rfl
  refine ⟨_, key _ (by unfold Decoder.instr; rfl), ?_⟩
  exact ⟨rfl, rfl, rfl, rfl, rfl, rfl, rfl, rfl, rfl, rfl, rfl, rfl, rfl, rfl, rfl, rfl, rfl, rfl, rfl, rfl, rfl, rfl, rfl, rfl, rfl, rfl, rfl, rfl, rfl, rfl, rfl, rfl, rfl, rfl, rfl, rfl, rfl, rfl, rfl, rfl, rfl, rfl, rfl, rfl, rfl, rfl, rfl, rfl, rfl, rfl, rfl, rfl, rfl, rfl, rfl, rfl, rfl, rfl, rfl, rfl, rfl, rfl, rfl, rfl, rfl, rfl, rfl, rfl, rfl, rfl, rfl, rfl, rfl, rfl, rfl, rfl, rfl, rfl, rfl, rfl, rfl, rfl, rfl, rfl, rfl, rfl, rfl, rfl, rfl, rfl, rfl, rfl, rfl, rfl, rfl, rfl, rfl, rfl, rfl, rfl, rfl, rfl, rfl, rfl, rfl, rfl, rfl, rfl, rfl, rfl, rfl, rfl, rfl⟩

theorem dl_u2 {c : ByteArray} {pc : Nat} {a b : UInt8} {r : List UInt8} (h : c.data.toList.drop pc = a :: b :: r) : (Reader.u2 : Decoder Nat) c pc = .ok (a.toNat * 256 + b.toNat, pc + 2) := by
  obtain ⟨u, d1⟩ := dl_u1 h
  obtain ⟨v, d2⟩ := dl_u1 d1
  show Except.bind ((Reader.u1 : Decoder Nat) c pc) (fun x => Except.bind ((Reader.u1 : Decoder Nat) c x.2) (fun y => Except.ok (x.1 * 256 + y.1, y.2))) = _
  rw [u]
  show Except.bind ((Reader.u1 : Decoder Nat) c (pc + 1)) (fun y => Except.ok (a.toNat * 256 + y.1, y.2)) = _
  rw [v]
  rfl
theorem dl_s2 {c : ByteArray} {pc : Nat} {a b : UInt8} {r : List UInt8} (h : c.data.toList.drop pc = a :: b :: r) : (Reader.s2 : Decoder Int) c pc = .ok (Reader.signed 16 (a.toNat * 256 + b.toNat), pc + 2) := by
  show Except.bind ((Reader.u2 : Decoder Nat) c pc) (fun x => Except.ok (Reader.signed 16 x.1, x.2)) = _
  rw [dl_u2 h]
  rfl

theorem dl_s1 {c : ByteArray} {pc : Nat} {a : UInt8} {r : List UInt8} (h : c.data.toList.drop pc = a :: r) : (Reader.s1 : Decoder Int) c pc = .ok (Reader.signed 8 a.toNat, pc + 1) := by
  show Except.bind ((Reader.u1 : Decoder Nat) c pc) (fun x => Except.ok (Reader.signed 8 x.1, x.2)) = _
  rw [(dl_u1 h).1]
  rfl
def dk_c0 (a : UInt8) (n k : Nat) : Bool := Nat.beq a.toNat k && Nat.beq n 1
def dk_c1 (a : UInt8) (r : List UInt8) (n k i : Nat) : Bool := Nat.beq a.toNat k && Nat.beq n 2 && (match r with | b :: _ => Nat.beq b.toNat i | [] => false)
def dk_c2 (a : UInt8) (r : List UInt8) (n k i : Nat) : Bool := Nat.beq a.toNat k && Nat.beq n 3 && (match r with | b :: d :: _ => Nat.beq (b.toNat * 256 + d.toNat) i | _ => false)
def dk_s1 (a : UInt8) (r : List UInt8) (n k : Nat) (i : Int) : Bool := Nat.beq a.toNat k && Nat.beq n 2 && (match r with | b :: _ => decide (Reader.signed 8 b.toNat = i) | [] => false)
def dk_s2 (a : UInt8) (r : List UInt8) (n k : Nat) (i : Int) : Bool := Nat.beq a.toNat k && Nat.beq n 3 && (match r with | b :: d :: _ => decide (Reader.signed 16 (b.toNat * 256 + d.toNat) = i) | _ => false)
def dk_us (a : UInt8) (r : List UInt8) (n k i : Nat) (j : Int) : Bool := Nat.beq a.toNat k && Nat.beq n 3 && (match r with | b :: d :: _ => Nat.beq b.toNat i && decide (Reader.signed 8 d.toNat = j) | _ => false)
def dk_ic (a : UInt8) (n : Nat) (i : Int) : Bool := decide (((a.toNat : Nat) : Int) = i + 3) && decide (2 ≤ a.toNat) && decide (a.toNat ≤ 8) && Nat.beq n 1
def dk_co : Jvm.ClassFile.Cond → Nat
  | .eq => 0
  | .ne => 1
  | .lt => 2
  | .ge => 3
  | .gt => 4
  | .le => 5
section
variable {c : ByteArray} {pc n : Nat} {a : UInt8} {r : List UInt8} {K : Nat → Decoder Instr}
theorem dk_0 {I : Instr} {k : Nat} (e : decode c pc = Except.bind (K a.toNat c (pc + 1)) (fun x => .ok (x.1, x.2 - pc))) (f : K k = Pure.pure I) (h : dk_c0 a n k = true) : decode c pc = .ok (I, n) := by
  unfold dk_c0 at h
  rw [Bool.and_eq_true] at h
  have h1 : a.toNat = k := Nat.eq_of_beq_eq_true h.1
  have h2 : n = 1 := Nat.eq_of_beq_eq_true h.2
  rw [e, h1, f, h2]
  show Except.ok (I, pc + 1 - pc) = _
  rw [Nat.add_sub_cancel_left]
theorem dk_1 {k : Nat} {i : Nat} {f : Nat → Instr} (e : decode c pc = Except.bind (K a.toNat c (pc + 1)) (fun x => .ok (x.1, x.2 - pc))) (hk : K k = (do let x ← Reader.u1; Pure.pure (f x))) (d1 : c.data.toList.drop (pc + 1) = r) (h : dk_c1 a r n k i = true) : decode c pc = .ok (f i, n) := by
  unfold dk_c1 at h
  cases r with
  | nil =>
    have h' : (Nat.beq a.toNat k && Nat.beq n 2 && false) = true := h
    rw [Bool.and_false] at h'
    cases h'
  | cons b r =>
    have h' : (Nat.beq a.toNat k && Nat.beq n 2 && Nat.beq b.toNat i) = true := h
    rw [Bool.and_eq_true, Bool.and_eq_true] at h'
    have h1 : a.toNat = k := Nat.eq_of_beq_eq_true h'.1.1
    have h2 : n = 2 := Nat.eq_of_beq_eq_true h'.1.2
    have h3 : b.toNat = i := Nat.eq_of_beq_eq_true h'.2
    have w := (dl_u1 d1).1
    rw [e, h1, hk]
    show Except.bind (Except.bind ((Reader.u1 : Decoder Nat) c (pc + 1)) (fun p => Except.ok (f p.1, p.2))) (fun x => Except.ok (x.1, x.2 - pc)) = _
    rw [w, h3]
    show Except.ok (f i, pc + 2 - pc) = _
    rw [Nat.add_sub_cancel_left, h2]
theorem dk_1s {k : Nat} {i : Int} {f : Int → Instr} (e : decode c pc = Except.bind (K a.toNat c (pc + 1)) (fun x => .ok (x.1, x.2 - pc))) (hk : K k = (do let x ← Reader.s1; Pure.pure (f x))) (d1 : c.data.toList.drop (pc + 1) = r) (h : dk_s1 a r n k i = true) : decode c pc = .ok (f i, n) := by
  unfold dk_s1 at h
  cases r with
  | nil =>
    have h' : (Nat.beq a.toNat k && Nat.beq n 2 && false) = true := h
    rw [Bool.and_false] at h'
    cases h'
  | cons b r =>
    have h' : (Nat.beq a.toNat k && Nat.beq n 2 && decide (Reader.signed 8 b.toNat = i)) = true := h
    rw [Bool.and_eq_true, Bool.and_eq_true] at h'
    have h1 : a.toNat = k := Nat.eq_of_beq_eq_true h'.1.1
    have h2 : n = 2 := Nat.eq_of_beq_eq_true h'.1.2
    have h3 : Reader.signed 8 b.toNat = i := of_decide_eq_true h'.2
    have w := dl_s1 d1
    rw [e, h1, hk]
    show Except.bind (Except.bind ((Reader.s1 : Decoder Int) c (pc + 1)) (fun p => Except.ok (f p.1, p.2))) (fun x => Except.ok (x.1, x.2 - pc)) = _
    rw [w, h3]
    show Except.ok (f i, pc + 2 - pc) = _
    rw [Nat.add_sub_cancel_left, h2]
theorem dk_2 {k : Nat} {i : Nat} {f : Nat → Instr} (e : decode c pc = Except.bind (K a.toNat c (pc + 1)) (fun x => .ok (x.1, x.2 - pc))) (hk : K k = (do let x ← Reader.u2; Pure.pure (f x))) (d1 : c.data.toList.drop (pc + 1) = r) (h : dk_c2 a r n k i = true) : decode c pc = .ok (f i, n) := by
  unfold dk_c2 at h
  cases r with
  | nil =>
    have h' : (Nat.beq a.toNat k && Nat.beq n 3 && false) = true := h
    rw [Bool.and_false] at h'
    cases h'
  | cons b r =>
    cases r with
    | nil =>
      have h' : (Nat.beq a.toNat k && Nat.beq n 3 && false) = true := h
      rw [Bool.and_false] at h'
      cases h'
    | cons d r =>
      have h' : (Nat.beq a.toNat k && Nat.beq n 3 && Nat.beq (b.toNat * 256 + d.toNat) i) = true := h
      rw [Bool.and_eq_true, Bool.and_eq_true] at h'
      have h1 : a.toNat = k := Nat.eq_of_beq_eq_true h'.1.1
      have h2 : n = 3 := Nat.eq_of_beq_eq_true h'.1.2
      have h3 : b.toNat * 256 + d.toNat = i := Nat.eq_of_beq_eq_true h'.2
      have w := dl_u2 d1
      rw [e, h1, hk]
      show Except.bind (Except.bind ((Reader.u2 : Decoder Nat) c (pc + 1)) (fun p => Except.ok (f p.1, p.2))) (fun x => Except.ok (x.1, x.2 - pc)) = _
      rw [w, h3]
      show Except.ok (f i, pc + 3 - pc) = _
      rw [Nat.add_sub_cancel_left, h2]
theorem dk_2s {k : Nat} {i : Int} {f : Int → Instr} (e : decode c pc = Except.bind (K a.toNat c (pc + 1)) (fun x => .ok (x.1, x.2 - pc))) (hk : K k = (do let x ← Reader.s2; Pure.pure (f x))) (d1 : c.data.toList.drop (pc + 1) = r) (h : dk_s2 a r n k i = true) : decode c pc = .ok (f i, n) := by
  unfold dk_s2 at h
  cases r with
  | nil =>
    have h' : (Nat.beq a.toNat k && Nat.beq n 3 && false) = true := h
    rw [Bool.and_false] at h'
    cases h'
  | cons b r =>
    cases r with
    | nil =>
      have h' : (Nat.beq a.toNat k && Nat.beq n 3 && false) = true := h
      rw [Bool.and_false] at h'
      cases h'
    | cons d r =>
      have h' : (Nat.beq a.toNat k && Nat.beq n 3 && decide (Reader.signed 16 (b.toNat * 256 + d.toNat) = i)) = true := h
      rw [Bool.and_eq_true, Bool.and_eq_true] at h'
      have h1 : a.toNat = k := Nat.eq_of_beq_eq_true h'.1.1
      have h2 : n = 3 := Nat.eq_of_beq_eq_true h'.1.2
      have h3 : Reader.signed 16 (b.toNat * 256 + d.toNat) = i := of_decide_eq_true h'.2
      have w := dl_s2 d1
      rw [e, h1, hk]
      show Except.bind (Except.bind ((Reader.s2 : Decoder Int) c (pc + 1)) (fun p => Except.ok (f p.1, p.2))) (fun x => Except.ok (x.1, x.2 - pc)) = _
      rw [w, h3]
      show Except.ok (f i, pc + 3 - pc) = _
      rw [Nat.add_sub_cancel_left, h2]
theorem dk_u {k i : Nat} {j : Int} (e : decode c pc = Except.bind (K a.toNat c (pc + 1)) (fun x => .ok (x.1, x.2 - pc))) (hk : K k = (do let x ← Reader.u1; let y ← Reader.s1; Pure.pure (Instr.iinc x y))) (d1 : c.data.toList.drop (pc + 1) = r) (h : dk_us a r n k i j = true) : decode c pc = .ok (Instr.iinc i j, n) := by
  unfold dk_us at h
  cases r with
  | nil =>
    have h' : (Nat.beq a.toNat k && Nat.beq n 3 && false) = true := h
    rw [Bool.and_false] at h'
    cases h'
  | cons b r =>
    cases r with
    | nil =>
      have h' : (Nat.beq a.toNat k && Nat.beq n 3 && false) = true := h
      rw [Bool.and_false] at h'
      cases h'
    | cons d r =>
      have h' : (Nat.beq a.toNat k && Nat.beq n 3 && (Nat.beq b.toNat i && decide (Reader.signed 8 d.toNat = j))) = true := h
      rw [Bool.and_eq_true, Bool.and_eq_true, Bool.and_eq_true] at h'
      have h1 : a.toNat = k := Nat.eq_of_beq_eq_true h'.1.1
      have h2 : n = 3 := Nat.eq_of_beq_eq_true h'.1.2
      have h3 : b.toNat = i := Nat.eq_of_beq_eq_true h'.2.1
      have h4 : Reader.signed 8 d.toNat = j := of_decide_eq_true h'.2.2
      obtain ⟨w1, d2⟩ := dl_u1 d1
      have w2 := dl_s1 d2
      rw [e, h1, hk]
      show Except.bind (Except.bind ((Reader.u1 : Decoder Nat) c (pc + 1)) (fun p => Except.bind ((Reader.s1 : Decoder Int) c p.2) (fun q => Except.ok (Instr.iinc p.1 q.1, q.2)))) (fun x => Except.ok (x.1, x.2 - pc)) = _
      rw [w1]
      show Except.bind (Except.bind ((Reader.s1 : Decoder Int) c (pc + 1 + 1)) (fun q => Except.ok (Instr.iinc b.toNat q.1, q.2))) (fun x => Except.ok (x.1, x.2 - pc)) = _
      rw [w2, h3, h4]
      show Except.ok (Instr.iinc i j, pc + 3 - pc) = _
      rw [Nat.add_sub_cancel_left, h2]
end
def dk (I : Instr) (n : Nat) (a : UInt8) (r : List UInt8) : Bool :=
  match I with
  | .aload_n k => dk_c0 a n (42 + k.val)
  | .iload_n k => dk_c0 a n (26 + k.val)
  | .lload_n k => dk_c0 a n (30 + k.val)
  | .istore_n k => dk_c0 a n (59 + k.val)
  | .lstore_n k => dk_c0 a n (63 + k.val)
  | .astore_n k => dk_c0 a n (75 + k.val)
  | .lconst k => dk_c0 a n (9 + k.val)
  | .iconst i => dk_ic a n i
  | .aconst_null => dk_c0 a n 1
  | .iaload => dk_c0 a n 46
  | .laload => dk_c0 a n 47
  | .aaload => dk_c0 a n 50
  | .baload => dk_c0 a n 51
  | .iastore => dk_c0 a n 79
  | .lastore => dk_c0 a n 80
  | .aastore => dk_c0 a n 83
  | .bastore => dk_c0 a n 84
  | .pop => dk_c0 a n 87
  | .pop2 => dk_c0 a n 88
  | .dup => dk_c0 a n 89
  | .dup2 => dk_c0 a n 92
  | .iadd => dk_c0 a n 96
  | .ladd => dk_c0 a n 97
  | .isub => dk_c0 a n 100
  | .lsub => dk_c0 a n 101
  | .imul => dk_c0 a n 104
  | .lmul => dk_c0 a n 105
  | .idiv => dk_c0 a n 108
  | .ldiv => dk_c0 a n 109
  | .irem => dk_c0 a n 112
  | .lrem => dk_c0 a n 113
  | .ineg => dk_c0 a n 116
  | .lneg => dk_c0 a n 117
  | .ishl => dk_c0 a n 120
  | .lshl => dk_c0 a n 121
  | .ishr => dk_c0 a n 122
  | .iand => dk_c0 a n 126
  | .land => dk_c0 a n 127
  | .ior => dk_c0 a n 128
  | .lor => dk_c0 a n 129
  | .ixor => dk_c0 a n 130
  | .i2l => dk_c0 a n 133
  | .l2i => dk_c0 a n 136
  | .i2b => dk_c0 a n 145
  | .i2c => dk_c0 a n 146
  | .i2s => dk_c0 a n 147
  | .lcmp => dk_c0 a n 148
  | .ireturn => dk_c0 a n 172
  | .lreturn => dk_c0 a n 173
  | .areturn => dk_c0 a n 176
  | .return_ => dk_c0 a n 177
  | .arraylength => dk_c0 a n 190
  | .athrow => dk_c0 a n 191
  | .ldc i => dk_c1 a r n 18 i
  | .iload i => dk_c1 a r n 21 i
  | .lload i => dk_c1 a r n 22 i
  | .aload i => dk_c1 a r n 25 i
  | .istore i => dk_c1 a r n 54 i
  | .lstore i => dk_c1 a r n 55 i
  | .astore i => dk_c1 a r n 58 i
  | .bipush i => dk_s1 a r n 16 i
  | .ldc_w i => dk_c2 a r n 19 i
  | .ldc2_w i => dk_c2 a r n 20 i
  | .getstatic i => dk_c2 a r n 178 i
  | .getfield i => dk_c2 a r n 180 i
  | .putfield i => dk_c2 a r n 181 i
  | .invokevirtual i => dk_c2 a r n 182 i
  | .invokespecial i => dk_c2 a r n 183 i
  | .invokestatic i => dk_c2 a r n 184 i
  | .new i => dk_c2 a r n 187 i
  | .anewarray i => dk_c2 a r n 189 i
  | .sipush i => dk_s2 a r n 17 i
  | .goto i => dk_s2 a r n 167 i
  | .ifnull i => dk_s2 a r n 198 i
  | .ifnonnull i => dk_s2 a r n 199 i
  | .ifCond d i => dk_s2 a r n (153 + dk_co d) i
  | .if_icmp d i => dk_s2 a r n (159 + dk_co d) i
  | .iinc i j => dk_us a r n 132 i j
  | _ => false
def dks (I : Instr) (n : Nat) : List UInt8 → Bool
  | [] => false
  | a :: r => dk I n a r
theorem dks_ok {c : ByteArray} {pc n : Nat} {I : Instr} (h : dks I n (c.data.toList.drop pc) = true) : decode c pc = .ok (I, n) := by
  revert h
  cases hD : c.data.toList.drop pc with
  | nil => intro h; exact absurd h Bool.false_ne_true
  | cons a r =>
    intro h
    obtain ⟨u, d1⟩ := dl_u1 hD
    obtain ⟨K, e, k1, k2, k3, k4, k5, k6, k7, k8, k9, k10, k26, k27, k28, k29, k30, k31, k32, k33, k42, k43, k44, k45, k46, k47, k50, k51, k59, k60, k61, k62, k63, k64, k65, k66, k75, k76, k77, k78, k79, k80, k83, k84, k87, k88, k89, k92, k96, k97, k100, k101, k104, k105, k108, k109, k112, k113, k116, k117, k120, k121, k122, k126, k127, k128, k129, k130, k133, k136, k145, k146, k147, k148, k172, k173, k176, k177, k190, k191, k18, k21, k22, k25, k54, k55, k58, k16, k19, k20, k178, k180, k181, k182, k183, k184, k187, k189, k17, k167, k198, k199, k153, k159, k154, k160, k155, k161, k156, k162, k157, k163, k158, k164, k132⟩ := dl_op u
    have f42 : ∀ k : Fin 4, K (42 + k.val) = Pure.pure (Instr.aload_n k) := fun k => by
      match k with
      | 0 => exact k42
      | 1 => exact k43
      | 2 => exact k44
      | 3 => exact k45
    have f26 : ∀ k : Fin 4, K (26 + k.val) = Pure.pure (Instr.iload_n k) := fun k => by
      match k with
      | 0 => exact k26
      | 1 => exact k27
      | 2 => exact k28
      | 3 => exact k29
    have f30 : ∀ k : Fin 4, K (30 + k.val) = Pure.pure (Instr.lload_n k) := fun k => by
      match k with
      | 0 => exact k30
      | 1 => exact k31
      | 2 => exact k32
      | 3 => exact k33
    have f59 : ∀ k : Fin 4, K (59 + k.val) = Pure.pure (Instr.istore_n k) := fun k => by
      match k with
      | 0 => exact k59
      | 1 => exact k60
      | 2 => exact k61
      | 3 => exact k62
    have f63 : ∀ k : Fin 4, K (63 + k.val) = Pure.pure (Instr.lstore_n k) := fun k => by
      match k with
      | 0 => exact k63
      | 1 => exact k64
      | 2 => exact k65
      | 3 => exact k66
    have f75 : ∀ k : Fin 4, K (75 + k.val) = Pure.pure (Instr.astore_n k) := fun k => by
      match k with
      | 0 => exact k75
      | 1 => exact k76
      | 2 => exact k77
      | 3 => exact k78
    have f9 : ∀ k : Fin 2, K (9 + k.val) = Pure.pure (Instr.lconst k) := fun k => by
      match k with
      | 0 => exact k9
      | 1 => exact k10
    have fc : ∀ d : Jvm.ClassFile.Cond, K (153 + dk_co d) = (do let x ← Reader.s2; Pure.pure (Instr.ifCond d x)) := fun d => by
      cases d with
      | eq => exact k153
      | ne => exact k154
      | lt => exact k155
      | ge => exact k156
      | gt => exact k157
      | le => exact k158
    have fi : ∀ d : Jvm.ClassFile.Cond, K (159 + dk_co d) = (do let x ← Reader.s2; Pure.pure (Instr.if_icmp d x)) := fun d => by
      cases d with
      | eq => exact k159
      | ne => exact k160
      | lt => exact k161
      | ge => exact k162
      | gt => exact k163
      | le => exact k164
    cases I with
    | aload_n k => exact dk_0 e (f42 k) h
    | iload_n k => exact dk_0 e (f26 k) h
    | lload_n k => exact dk_0 e (f30 k) h
    | istore_n k => exact dk_0 e (f59 k) h
    | lstore_n k => exact dk_0 e (f63 k) h
    | astore_n k => exact dk_0 e (f75 k) h
    | lconst k => exact dk_0 e (f9 k) h
    | iconst i =>
      have h' : (decide (((a.toNat : Nat) : Int) = i + 3) && decide (2 ≤ a.toNat) && decide (a.toNat ≤ 8) && Nat.beq n 1) = true := h
      rw [Bool.and_eq_true, Bool.and_eq_true, Bool.and_eq_true, decide_eq_true_eq, decide_eq_true_eq, decide_eq_true_eq] at h'
      obtain ⟨⟨⟨h1, h2⟩, h3⟩, h4⟩ := h'
      have h5 : dk_c0 a n a.toNat = true := by
        unfold dk_c0
        rw [h4, Nat.beq_refl]
        rfl
      rcases (by omega : a.toNat = 2 ∨ a.toNat = 3 ∨ a.toNat = 4 ∨ a.toNat = 5 ∨ a.toNat = 6 ∨ a.toNat = 7 ∨ a.toNat = 8) with q | q | q | q | q | q | q
      · rw [q] at h1 h5
        have e9 : i = -1 := by omega
        subst e9
        exact dk_0 e k2 h5
      · rw [q] at h1 h5
        have e9 : i = 0 := by omega
        subst e9
        exact dk_0 e k3 h5
      · rw [q] at h1 h5
        have e9 : i = 1 := by omega
        subst e9
        exact dk_0 e k4 h5
      · rw [q] at h1 h5
        have e9 : i = 2 := by omega
        subst e9
        exact dk_0 e k5 h5
      · rw [q] at h1 h5
        have e9 : i = 3 := by omega
        subst e9
        exact dk_0 e k6 h5
      · rw [q] at h1 h5
        have e9 : i = 4 := by omega
        subst e9
        exact dk_0 e k7 h5
      · rw [q] at h1 h5
        have e9 : i = 5 := by omega
        subst e9
        exact dk_0 e k8 h5
    | aconst_null => exact dk_0 e k1 h
    | iaload => exact dk_0 e k46 h
    | laload => exact dk_0 e k47 h
    | aaload => exact dk_0 e k50 h
    | baload => exact dk_0 e k51 h
    | iastore => exact dk_0 e k79 h
    | lastore => exact dk_0 e k80 h
    | aastore => exact dk_0 e k83 h
    | bastore => exact dk_0 e k84 h
    | pop => exact dk_0 e k87 h
    | pop2 => exact dk_0 e k88 h
    | dup => exact dk_0 e k89 h
    | dup2 => exact dk_0 e k92 h
    | iadd => exact dk_0 e k96 h
    | ladd => exact dk_0 e k97 h
    | isub => exact dk_0 e k100 h
    | lsub => exact dk_0 e k101 h
    | imul => exact dk_0 e k104 h
    | lmul => exact dk_0 e k105 h
    | idiv => exact dk_0 e k108 h
    | ldiv => exact dk_0 e k109 h
    | irem => exact dk_0 e k112 h
    | lrem => exact dk_0 e k113 h
    | ineg => exact dk_0 e k116 h
    | lneg => exact dk_0 e k117 h
    | ishl => exact dk_0 e k120 h
    | lshl => exact dk_0 e k121 h
    | ishr => exact dk_0 e k122 h
    | iand => exact dk_0 e k126 h
    | land => exact dk_0 e k127 h
    | ior => exact dk_0 e k128 h
    | lor => exact dk_0 e k129 h
    | ixor => exact dk_0 e k130 h
    | i2l => exact dk_0 e k133 h
    | l2i => exact dk_0 e k136 h
    | i2b => exact dk_0 e k145 h
    | i2c => exact dk_0 e k146 h
    | i2s => exact dk_0 e k147 h
    | lcmp => exact dk_0 e k148 h
    | ireturn => exact dk_0 e k172 h
    | lreturn => exact dk_0 e k173 h
    | areturn => exact dk_0 e k176 h
    | return_ => exact dk_0 e k177 h
    | arraylength => exact dk_0 e k190 h
    | athrow => exact dk_0 e k191 h
    | ldc i => exact dk_1 (f := Instr.ldc) e k18 d1 h
    | iload i => exact dk_1 (f := Instr.iload) e k21 d1 h
    | lload i => exact dk_1 (f := Instr.lload) e k22 d1 h
    | aload i => exact dk_1 (f := Instr.aload) e k25 d1 h
    | istore i => exact dk_1 (f := Instr.istore) e k54 d1 h
    | lstore i => exact dk_1 (f := Instr.lstore) e k55 d1 h
    | astore i => exact dk_1 (f := Instr.astore) e k58 d1 h
    | bipush i => exact dk_1s (f := Instr.bipush) e k16 d1 h
    | ldc_w i => exact dk_2 (f := Instr.ldc_w) e k19 d1 h
    | ldc2_w i => exact dk_2 (f := Instr.ldc2_w) e k20 d1 h
    | getstatic i => exact dk_2 (f := Instr.getstatic) e k178 d1 h
    | getfield i => exact dk_2 (f := Instr.getfield) e k180 d1 h
    | putfield i => exact dk_2 (f := Instr.putfield) e k181 d1 h
    | invokevirtual i => exact dk_2 (f := Instr.invokevirtual) e k182 d1 h
    | invokespecial i => exact dk_2 (f := Instr.invokespecial) e k183 d1 h
    | invokestatic i => exact dk_2 (f := Instr.invokestatic) e k184 d1 h
    | new i => exact dk_2 (f := Instr.new) e k187 d1 h
    | anewarray i => exact dk_2 (f := Instr.anewarray) e k189 d1 h
    | sipush i => exact dk_2s (f := Instr.sipush) e k17 d1 h
    | goto i => exact dk_2s (f := Instr.goto) e k167 d1 h
    | ifnull i => exact dk_2s (f := Instr.ifnull) e k198 d1 h
    | ifnonnull i => exact dk_2s (f := Instr.ifnonnull) e k199 d1 h
    | ifCond d i => exact dk_2s (f := Instr.ifCond d) e (fc d) d1 h
    | if_icmp d i => exact dk_2s (f := Instr.if_icmp d) e (fi d) d1 h
    | iinc i j => exact dk_u e k132 d1 h
    | _ => exact absurd h Bool.false_ne_true
/-- some rows, one behind the other -/
def dkl : List UInt8 → List (Instr × Nat) → Bool
  | _, [] => true
  | L, e :: r => dks e.1 e.2 L && dkl (L.drop e.2) r
def dP (c : ByteArray) : Nat → List (Instr × Nat) → Prop
  | _, [] => True
  | pc, e :: r => decode c pc = .ok (e.1, e.2) ∧ dP c (pc + e.2) r
theorem dkl_ok {c : ByteArray} (l : List (Instr × Nat)) : ∀ pc : Nat, dkl (c.data.toList.drop pc) l = true → dP c pc l := by
  induction l with
  | nil => intro _ _; exact True.intro
  | cons e r ih =>
    intro pc h
    have h' : (dks e.1 e.2 (c.data.toList.drop pc) && dkl ((c.data.toList.drop pc).drop e.2) r) = true := h
    have q : (c.data.toList.drop pc).drop e.2 = c.data.toList.drop (pc + e.2) := by first | rw [List.drop_drop] | rw [List.drop_drop, Nat.add_comm]
    rw [Bool.and_eq_true, q] at h'
    exact ⟨dks_ok h'.1, ih (pc + e.2) h'.2⟩
end
/-! FROM 01.d0.lean.txt -/
section
theorem eX0_init_0 : decode cX0_init 0 = .ok (.aload_n 0, 1) ∧ decode cX0_init 1 = .ok (.invokespecial 3, 3) ∧ decode cX0_init 4 = .ok (.aload_n 0, 1) ∧ decode cX0_init 5 = .ok (.new 9, 3) ∧ decode cX0_init 8 = .ok (.dup, 1) ∧ decode cX0_init 9 = .ok (.invokespecial 11, 3) ∧ decode cX0_init 12 = .ok (.putfield 12, 3) ∧ decode cX0_init 15 = .ok (.aload_n 0, 1) ∧ True := dkl_ok (c := cX0_init) [(.aload_n 0, 1), (.invokespecial 3, 3), (.aload_n 0, 1), (.new 9, 3), (.dup, 1), (.invokespecial 11, 3), (.putfield 12, 3), (.aload_n 0, 1)] 0 (by decide +kernel)
theorem dX0_init_0 : decode cX0_init 0 = .ok (.aload_n 0, 1) := eX0_init_0.1
theorem dX0_init_1 : decode cX0_init 1 = .ok (.invokespecial 3, 3) := eX0_init_0.2.1
theorem dX0_init_4 : decode cX0_init 4 = .ok (.aload_n 0, 1) := eX0_init_0.2.2.1
theorem dX0_init_5 : decode cX0_init 5 = .ok (.new 9, 3) := eX0_init_0.2.2.2.1
theorem dX0_init_8 : decode cX0_init 8 = .ok (.dup, 1) := eX0_init_0.2.2.2.2.1
theorem dX0_init_9 : decode cX0_init 9 = .ok (.invokespecial 11, 3) := eX0_init_0.2.2.2.2.2.1
theorem dX0_init_12 : decode cX0_init 12 = .ok (.putfield 12, 3) := eX0_init_0.2.2.2.2.2.2.1
theorem dX0_init_15 : decode cX0_init 15 = .ok (.aload_n 0, 1) := eX0_init_0.2.2.2.2.2.2.2.1
theorem eX0_init_16 : decode cX0_init 16 = .ok (.new 18, 3) ∧ decode cX0_init 19 = .ok (.dup, 1) ∧ decode cX0_init 20 = .ok (.invokespecial 20, 3) ∧ decode cX0_init 23 = .ok (.putfield 21, 3) ∧ decode cX0_init 26 = .ok (.aload_n 0, 1) ∧ decode cX0_init 27 = .ok (.new 25, 3) ∧ decode cX0_init 30 = .ok (.dup, 1) ∧ decode cX0_init 31 = .ok (.invokespecial 27, 3) ∧ True := dkl_ok (c := cX0_init) [(.new 18, 3), (.dup, 1), (.invokespecial 20, 3), (.putfield 21, 3), (.aload_n 0, 1), (.new 25, 3), (.dup, 1), (.invokespecial 27, 3)] 16 (by decide +kernel)
theorem dX0_init_16 : decode cX0_init 16 = .ok (.new 18, 3) := eX0_init_16.1
theorem dX0_init_19 : decode cX0_init 19 = .ok (.dup, 1) := eX0_init_16.2.1
theorem dX0_init_20 : decode cX0_init 20 = .ok (.invokespecial 20, 3) := eX0_init_16.2.2.1
theorem dX0_init_23 : decode cX0_init 23 = .ok (.putfield 21, 3) := eX0_init_16.2.2.2.1
theorem dX0_init_26 : decode cX0_init 26 = .ok (.aload_n 0, 1) := eX0_init_16.2.2.2.2.1
theorem dX0_init_27 : decode cX0_init 27 = .ok (.new 25, 3) := eX0_init_16.2.2.2.2.2.1
theorem dX0_init_30 : decode cX0_init 30 = .ok (.dup, 1) := eX0_init_16.2.2.2.2.2.2.1
theorem dX0_init_31 : decode cX0_init 31 = .ok (.invokespecial 27, 3) := eX0_init_16.2.2.2.2.2.2.2.1
theorem eX0_init_34 : decode cX0_init 34 = .ok (.putfield 28, 3) ∧ decode cX0_init 37 = .ok (.aload_n 0, 1) ∧ decode cX0_init 38 = .ok (.new 32, 3) ∧ decode cX0_init 41 = .ok (.dup, 1) ∧ decode cX0_init 42 = .ok (.invokespecial 34, 3) ∧ decode cX0_init 45 = .ok (.putfield 35, 3) ∧ decode cX0_init 48 = .ok (.aload_n 0, 1) ∧ decode cX0_init 49 = .ok (.iconst 0, 1) ∧ True := dkl_ok (c := cX0_init) [(.putfield 28, 3), (.aload_n 0, 1), (.new 32, 3), (.dup, 1), (.invokespecial 34, 3), (.putfield 35, 3), (.aload_n 0, 1), (.iconst 0, 1)] 34 (by decide +kernel)
theorem dX0_init_34 : decode cX0_init 34 = .ok (.putfield 28, 3) := eX0_init_34.1
theorem dX0_init_37 : decode cX0_init 37 = .ok (.aload_n 0, 1) := eX0_init_34.2.1
theorem dX0_init_38 : decode cX0_init 38 = .ok (.new 32, 3) := eX0_init_34.2.2.1
theorem dX0_init_41 : decode cX0_init 41 = .ok (.dup, 1) := eX0_init_34.2.2.2.1
theorem dX0_init_42 : decode cX0_init 42 = .ok (.invokespecial 34, 3) := eX0_init_34.2.2.2.2.1
theorem dX0_init_45 : decode cX0_init 45 = .ok (.putfield 35, 3) := eX0_init_34.2.2.2.2.2.1
theorem dX0_init_48 : decode cX0_init 48 = .ok (.aload_n 0, 1) := eX0_init_34.2.2.2.2.2.2.1
theorem dX0_init_49 : decode cX0_init 49 = .ok (.iconst 0, 1) := eX0_init_34.2.2.2.2.2.2.2.1
theorem eX0_init_50 : decode cX0_init 50 = .ok (.putfield 39, 3) ∧ decode cX0_init 53 = .ok (.aload_n 0, 1) ∧ decode cX0_init 54 = .ok (.iconst 0, 1) ∧ decode cX0_init 55 = .ok (.putfield 43, 3) ∧ decode cX0_init 58 = .ok (.aload_n 0, 1) ∧ decode cX0_init 59 = .ok (.iconst (-1), 1) ∧ decode cX0_init 60 = .ok (.putfield 46, 3) ∧ decode cX0_init 63 = .ok (.aload_n 0, 1) ∧ True := dkl_ok (c := cX0_init) [(.putfield 39, 3), (.aload_n 0, 1), (.iconst 0, 1), (.putfield 43, 3), (.aload_n 0, 1), (.iconst (-1), 1), (.putfield 46, 3), (.aload_n 0, 1)] 50 (by decide +kernel)
theorem dX0_init_50 : decode cX0_init 50 = .ok (.putfield 39, 3) := eX0_init_50.1
theorem dX0_init_53 : decode cX0_init 53 = .ok (.aload_n 0, 1) := eX0_init_50.2.1
theorem dX0_init_54 : decode cX0_init 54 = .ok (.iconst 0, 1) := eX0_init_50.2.2.1
theorem dX0_init_55 : decode cX0_init 55 = .ok (.putfield 43, 3) := eX0_init_50.2.2.2.1
theorem dX0_init_58 : decode cX0_init 58 = .ok (.aload_n 0, 1) := eX0_init_50.2.2.2.2.1
theorem dX0_init_59 : decode cX0_init 59 = .ok (.iconst (-1), 1) := eX0_init_50.2.2.2.2.2.1
theorem dX0_init_60 : decode cX0_init 60 = .ok (.putfield 46, 3) := eX0_init_50.2.2.2.2.2.2.1
theorem dX0_init_63 : decode cX0_init 63 = .ok (.aload_n 0, 1) := eX0_init_50.2.2.2.2.2.2.2.1
theorem eX0_init_64 : decode cX0_init 64 = .ok (.iconst 0, 1) ∧ decode cX0_init 65 = .ok (.putfield 49, 3) ∧ decode cX0_init 68 = .ok (.aload_n 0, 1) ∧ decode cX0_init 69 = .ok (.new 53, 3) ∧ decode cX0_init 72 = .ok (.dup, 1) ∧ decode cX0_init 73 = .ok (.bipush 10, 2) ∧ decode cX0_init 75 = .ok (.invokespecial 55, 3) ∧ decode cX0_init 78 = .ok (.putfield 58, 3) ∧ True := dkl_ok (c := cX0_init) [(.iconst 0, 1), (.putfield 49, 3), (.aload_n 0, 1), (.new 53, 3), (.dup, 1), (.bipush 10, 2), (.invokespecial 55, 3), (.putfield 58, 3)] 64 (by decide +kernel)
theorem dX0_init_64 : decode cX0_init 64 = .ok (.iconst 0, 1) := eX0_init_64.1
theorem dX0_init_65 : decode cX0_init 65 = .ok (.putfield 49, 3) := eX0_init_64.2.1
theorem dX0_init_68 : decode cX0_init 68 = .ok (.aload_n 0, 1) := eX0_init_64.2.2.1
theorem dX0_init_69 : decode cX0_init 69 = .ok (.new 53, 3) := eX0_init_64.2.2.2.1
theorem dX0_init_72 : decode cX0_init 72 = .ok (.dup, 1) := eX0_init_64.2.2.2.2.1
theorem dX0_init_73 : decode cX0_init 73 = .ok (.bipush 10, 2) := eX0_init_64.2.2.2.2.2.1
theorem dX0_init_75 : decode cX0_init 75 = .ok (.invokespecial 55, 3) := eX0_init_64.2.2.2.2.2.2.1
theorem dX0_init_78 : decode cX0_init 78 = .ok (.putfield 58, 3) := eX0_init_64.2.2.2.2.2.2.2.1
theorem eX0_init_81 : decode cX0_init 81 = .ok (.aload_n 0, 1) ∧ decode cX0_init 82 = .ok (.iconst 0, 1) ∧ decode cX0_init 83 = .ok (.putfield 62, 3) ∧ decode cX0_init 86 = .ok (.aload_n 0, 1) ∧ decode cX0_init 87 = .ok (.new 53, 3) ∧ decode cX0_init 90 = .ok (.dup, 1) ∧ decode cX0_init 91 = .ok (.bipush 10, 2) ∧ decode cX0_init 93 = .ok (.invokespecial 55, 3) ∧ True := dkl_ok (c := cX0_init) [(.aload_n 0, 1), (.iconst 0, 1), (.putfield 62, 3), (.aload_n 0, 1), (.new 53, 3), (.dup, 1), (.bipush 10, 2), (.invokespecial 55, 3)] 81 (by decide +kernel)
theorem dX0_init_81 : decode cX0_init 81 = .ok (.aload_n 0, 1) := eX0_init_81.1
theorem dX0_init_82 : decode cX0_init 82 = .ok (.iconst 0, 1) := eX0_init_81.2.1
theorem dX0_init_83 : decode cX0_init 83 = .ok (.putfield 62, 3) := eX0_init_81.2.2.1
theorem dX0_init_86 : decode cX0_init 86 = .ok (.aload_n 0, 1) := eX0_init_81.2.2.2.1
theorem dX0_init_87 : decode cX0_init 87 = .ok (.new 53, 3) := eX0_init_81.2.2.2.2.1
theorem dX0_init_90 : decode cX0_init 90 = .ok (.dup, 1) := eX0_init_81.2.2.2.2.2.1
theorem dX0_init_91 : decode cX0_init 91 = .ok (.bipush 10, 2) := eX0_init_81.2.2.2.2.2.2.1
theorem dX0_init_93 : decode cX0_init 93 = .ok (.invokespecial 55, 3) := eX0_init_81.2.2.2.2.2.2.2.1
theorem eX0_init_96 : decode cX0_init 96 = .ok (.putfield 65, 3) ∧ decode cX0_init 99 = .ok (.aload_n 0, 1) ∧ decode cX0_init 100 = .ok (.iconst 0, 1) ∧ decode cX0_init 101 = .ok (.putfield 68, 3) ∧ decode cX0_init 104 = .ok (.aload_n 0, 1) ∧ decode cX0_init 105 = .ok (.iconst (-1), 1) ∧ decode cX0_init 106 = .ok (.putfield 71, 3) ∧ decode cX0_init 109 = .ok (.aload_n 0, 1) ∧ True := dkl_ok (c := cX0_init) [(.putfield 65, 3), (.aload_n 0, 1), (.iconst 0, 1), (.putfield 68, 3), (.aload_n 0, 1), (.iconst (-1), 1), (.putfield 71, 3), (.aload_n 0, 1)] 96 (by decide +kernel)
theorem dX0_init_96 : decode cX0_init 96 = .ok (.putfield 65, 3) := eX0_init_96.1
theorem dX0_init_99 : decode cX0_init 99 = .ok (.aload_n 0, 1) := eX0_init_96.2.1
theorem dX0_init_100 : decode cX0_init 100 = .ok (.iconst 0, 1) := eX0_init_96.2.2.1
theorem dX0_init_101 : decode cX0_init 101 = .ok (.putfield 68, 3) := eX0_init_96.2.2.2.1
theorem dX0_init_104 : decode cX0_init 104 = .ok (.aload_n 0, 1) := eX0_init_96.2.2.2.2.1
theorem dX0_init_105 : decode cX0_init 105 = .ok (.iconst (-1), 1) := eX0_init_96.2.2.2.2.2.1
theorem dX0_init_106 : decode cX0_init 106 = .ok (.putfield 71, 3) := eX0_init_96.2.2.2.2.2.2.1
theorem dX0_init_109 : decode cX0_init 109 = .ok (.aload_n 0, 1) := eX0_init_96.2.2.2.2.2.2.2.1
theorem eX0_init_110 : decode cX0_init 110 = .ok (.iconst (-1), 1) ∧ decode cX0_init 111 = .ok (.putfield 74, 3) ∧ decode cX0_init 114 = .ok (.aload_n 0, 1) ∧ decode cX0_init 115 = .ok (.iconst (-1), 1) ∧ decode cX0_init 116 = .ok (.putfield 77, 3) ∧ decode cX0_init 119 = .ok (.return_, 1) ∧ True := dkl_ok (c := cX0_init) [(.iconst (-1), 1), (.putfield 74, 3), (.aload_n 0, 1), (.iconst (-1), 1), (.putfield 77, 3), (.return_, 1)] 110 (by decide +kernel)
theorem dX0_init_110 : decode cX0_init 110 = .ok (.iconst (-1), 1) := eX0_init_110.1
theorem dX0_init_111 : decode cX0_init 111 = .ok (.putfield 74, 3) := eX0_init_110.2.1
theorem dX0_init_114 : decode cX0_init 114 = .ok (.aload_n 0, 1) := eX0_init_110.2.2.1
theorem dX0_init_115 : decode cX0_init 115 = .ok (.iconst (-1), 1) := eX0_init_110.2.2.2.1
theorem dX0_init_116 : decode cX0_init 116 = .ok (.putfield 77, 3) := eX0_init_110.2.2.2.2.1
theorem dX0_init_119 : decode cX0_init 119 = .ok (.return_, 1) := eX0_init_110.2.2.2.2.2.1
theorem eX0_reset_0 : decode cX0_reset 0 = .ok (.aload_n 0, 1) ∧ decode cX0_reset 1 = .ok (.getfield 12, 3) ∧ decode cX0_reset 4 = .ok (.invokevirtual 80, 3) ∧ decode cX0_reset 7 = .ok (.aload_n 0, 1) ∧ decode cX0_reset 8 = .ok (.getfield 21, 3) ∧ decode cX0_reset 11 = .ok (.invokevirtual 83, 3) ∧ decode cX0_reset 14 = .ok (.aload_n 0, 1) ∧ decode cX0_reset 15 = .ok (.getfield 28, 3) ∧ True := dkl_ok (c := cX0_reset) [(.aload_n 0, 1), (.getfield 12, 3), (.invokevirtual 80, 3), (.aload_n 0, 1), (.getfield 21, 3), (.invokevirtual 83, 3), (.aload_n 0, 1), (.getfield 28, 3)] 0 (by decide +kernel)
theorem dX0_reset_0 : decode cX0_reset 0 = .ok (.aload_n 0, 1) := eX0_reset_0.1
theorem dX0_reset_1 : decode cX0_reset 1 = .ok (.getfield 12, 3) := eX0_reset_0.2.1
theorem dX0_reset_4 : decode cX0_reset 4 = .ok (.invokevirtual 80, 3) := eX0_reset_0.2.2.1
theorem dX0_reset_7 : decode cX0_reset 7 = .ok (.aload_n 0, 1) := eX0_reset_0.2.2.2.1
theorem dX0_reset_8 : decode cX0_reset 8 = .ok (.getfield 21, 3) := eX0_reset_0.2.2.2.2.1
theorem dX0_reset_11 : decode cX0_reset 11 = .ok (.invokevirtual 83, 3) := eX0_reset_0.2.2.2.2.2.1
theorem dX0_reset_14 : decode cX0_reset 14 = .ok (.aload_n 0, 1) := eX0_reset_0.2.2.2.2.2.2.1
theorem dX0_reset_15 : decode cX0_reset 15 = .ok (.getfield 28, 3) := eX0_reset_0.2.2.2.2.2.2.2.1
theorem eX0_reset_18 : decode cX0_reset 18 = .ok (.invokevirtual 84, 3) ∧ decode cX0_reset 21 = .ok (.aload_n 0, 1) ∧ decode cX0_reset 22 = .ok (.getfield 35, 3) ∧ decode cX0_reset 25 = .ok (.invokevirtual 87, 3) ∧ decode cX0_reset 28 = .ok (.aload_n 0, 1) ∧ decode cX0_reset 29 = .ok (.iconst 0, 1) ∧ decode cX0_reset 30 = .ok (.putfield 39, 3) ∧ decode cX0_reset 33 = .ok (.aload_n 0, 1) ∧ True := dkl_ok (c := cX0_reset) [(.invokevirtual 84, 3), (.aload_n 0, 1), (.getfield 35, 3), (.invokevirtual 87, 3), (.aload_n 0, 1), (.iconst 0, 1), (.putfield 39, 3), (.aload_n 0, 1)] 18 (by decide +kernel)
theorem dX0_reset_18 : decode cX0_reset 18 = .ok (.invokevirtual 84, 3) := eX0_reset_18.1
theorem dX0_reset_21 : decode cX0_reset 21 = .ok (.aload_n 0, 1) := eX0_reset_18.2.1
theorem dX0_reset_22 : decode cX0_reset 22 = .ok (.getfield 35, 3) := eX0_reset_18.2.2.1
theorem dX0_reset_25 : decode cX0_reset 25 = .ok (.invokevirtual 87, 3) := eX0_reset_18.2.2.2.1
theorem dX0_reset_28 : decode cX0_reset 28 = .ok (.aload_n 0, 1) := eX0_reset_18.2.2.2.2.1
theorem dX0_reset_29 : decode cX0_reset 29 = .ok (.iconst 0, 1) := eX0_reset_18.2.2.2.2.2.1
theorem dX0_reset_30 : decode cX0_reset 30 = .ok (.putfield 39, 3) := eX0_reset_18.2.2.2.2.2.2.1
theorem dX0_reset_33 : decode cX0_reset 33 = .ok (.aload_n 0, 1) := eX0_reset_18.2.2.2.2.2.2.2.1
theorem eX0_reset_34 : decode cX0_reset 34 = .ok (.iconst 0, 1) ∧ decode cX0_reset 35 = .ok (.putfield 43, 3) ∧ decode cX0_reset 38 = .ok (.aload_n 0, 1) ∧ decode cX0_reset 39 = .ok (.iconst (-1), 1) ∧ decode cX0_reset 40 = .ok (.putfield 46, 3) ∧ decode cX0_reset 43 = .ok (.aload_n 0, 1) ∧ decode cX0_reset 44 = .ok (.iconst 0, 1) ∧ decode cX0_reset 45 = .ok (.putfield 49, 3) ∧ True := dkl_ok (c := cX0_reset) [(.iconst 0, 1), (.putfield 43, 3), (.aload_n 0, 1), (.iconst (-1), 1), (.putfield 46, 3), (.aload_n 0, 1), (.iconst 0, 1), (.putfield 49, 3)] 34 (by decide +kernel)
theorem dX0_reset_34 : decode cX0_reset 34 = .ok (.iconst 0, 1) := eX0_reset_34.1
theorem dX0_reset_35 : decode cX0_reset 35 = .ok (.putfield 43, 3) := eX0_reset_34.2.1
theorem dX0_reset_38 : decode cX0_reset 38 = .ok (.aload_n 0, 1) := eX0_reset_34.2.2.1
theorem dX0_reset_39 : decode cX0_reset 39 = .ok (.iconst (-1), 1) := eX0_reset_34.2.2.2.1
theorem dX0_reset_40 : decode cX0_reset 40 = .ok (.putfield 46, 3) := eX0_reset_34.2.2.2.2.1
theorem dX0_reset_43 : decode cX0_reset 43 = .ok (.aload_n 0, 1) := eX0_reset_34.2.2.2.2.2.1
theorem dX0_reset_44 : decode cX0_reset 44 = .ok (.iconst 0, 1) := eX0_reset_34.2.2.2.2.2.2.1
theorem dX0_reset_45 : decode cX0_reset 45 = .ok (.putfield 49, 3) := eX0_reset_34.2.2.2.2.2.2.2.1
theorem eX0_reset_48 : decode cX0_reset 48 = .ok (.return_, 1) ∧ True := dkl_ok (c := cX0_reset) [(.return_, 1)] 48 (by decide +kernel)
theorem dX0_reset_48 : decode cX0_reset 48 = .ok (.return_, 1) := eX0_reset_48.1
theorem eX0_copyFrom_0 : decode cX0_copyFrom 0 = .ok (.aload_n 0, 1) ∧ decode cX0_copyFrom 1 = .ok (.getfield 12, 3) ∧ decode cX0_copyFrom 4 = .ok (.aload_n 1, 1) ∧ decode cX0_copyFrom 5 = .ok (.getfield 12, 3) ∧ decode cX0_copyFrom 8 = .ok (.invokevirtual 88, 3) ∧ decode cX0_copyFrom 11 = .ok (.aload_n 0, 1) ∧ decode cX0_copyFrom 12 = .ok (.getfield 21, 3) ∧ decode cX0_copyFrom 15 = .ok (.aload_n 1, 1) ∧ True := dkl_ok (c := cX0_copyFrom) [(.aload_n 0, 1), (.getfield 12, 3), (.aload_n 1, 1), (.getfield 12, 3), (.invokevirtual 88, 3), (.aload_n 0, 1), (.getfield 21, 3), (.aload_n 1, 1)] 0 (by decide +kernel)
theorem dX0_copyFrom_0 : decode cX0_copyFrom 0 = .ok (.aload_n 0, 1) := eX0_copyFrom_0.1
theorem dX0_copyFrom_1 : decode cX0_copyFrom 1 = .ok (.getfield 12, 3) := eX0_copyFrom_0.2.1
theorem dX0_copyFrom_4 : decode cX0_copyFrom 4 = .ok (.aload_n 1, 1) := eX0_copyFrom_0.2.2.1
theorem dX0_copyFrom_5 : decode cX0_copyFrom 5 = .ok (.getfield 12, 3) := eX0_copyFrom_0.2.2.2.1
theorem dX0_copyFrom_8 : decode cX0_copyFrom 8 = .ok (.invokevirtual 88, 3) := eX0_copyFrom_0.2.2.2.2.1
theorem dX0_copyFrom_11 : decode cX0_copyFrom 11 = .ok (.aload_n 0, 1) := eX0_copyFrom_0.2.2.2.2.2.1
theorem dX0_copyFrom_12 : decode cX0_copyFrom 12 = .ok (.getfield 21, 3) := eX0_copyFrom_0.2.2.2.2.2.2.1
theorem dX0_copyFrom_15 : decode cX0_copyFrom 15 = .ok (.aload_n 1, 1) := eX0_copyFrom_0.2.2.2.2.2.2.2.1
theorem eX0_copyFrom_16 : decode cX0_copyFrom 16 = .ok (.getfield 21, 3) ∧ decode cX0_copyFrom 19 = .ok (.invokevirtual 92, 3) ∧ decode cX0_copyFrom 22 = .ok (.aload_n 0, 1) ∧ decode cX0_copyFrom 23 = .ok (.getfield 28, 3) ∧ decode cX0_copyFrom 26 = .ok (.aload_n 1, 1) ∧ decode cX0_copyFrom 27 = .ok (.getfield 28, 3) ∧ decode cX0_copyFrom 30 = .ok (.invokevirtual 95, 3) ∧ decode cX0_copyFrom 33 = .ok (.aload_n 0, 1) ∧ True := dkl_ok (c := cX0_copyFrom) [(.getfield 21, 3), (.invokevirtual 92, 3), (.aload_n 0, 1), (.getfield 28, 3), (.aload_n 1, 1), (.getfield 28, 3), (.invokevirtual 95, 3), (.aload_n 0, 1)] 16 (by decide +kernel)
theorem dX0_copyFrom_16 : decode cX0_copyFrom 16 = .ok (.getfield 21, 3) := eX0_copyFrom_16.1
theorem dX0_copyFrom_19 : decode cX0_copyFrom 19 = .ok (.invokevirtual 92, 3) := eX0_copyFrom_16.2.1
theorem dX0_copyFrom_22 : decode cX0_copyFrom 22 = .ok (.aload_n 0, 1) := eX0_copyFrom_16.2.2.1
theorem dX0_copyFrom_23 : decode cX0_copyFrom 23 = .ok (.getfield 28, 3) := eX0_copyFrom_16.2.2.2.1
theorem dX0_copyFrom_26 : decode cX0_copyFrom 26 = .ok (.aload_n 1, 1) := eX0_copyFrom_16.2.2.2.2.1
theorem dX0_copyFrom_27 : decode cX0_copyFrom 27 = .ok (.getfield 28, 3) := eX0_copyFrom_16.2.2.2.2.2.1
theorem dX0_copyFrom_30 : decode cX0_copyFrom 30 = .ok (.invokevirtual 95, 3) := eX0_copyFrom_16.2.2.2.2.2.2.1
theorem dX0_copyFrom_33 : decode cX0_copyFrom 33 = .ok (.aload_n 0, 1) := eX0_copyFrom_16.2.2.2.2.2.2.2.1
theorem eX0_copyFrom_34 : decode cX0_copyFrom 34 = .ok (.getfield 35, 3) ∧ decode cX0_copyFrom 37 = .ok (.aload_n 1, 1) ∧ decode cX0_copyFrom 38 = .ok (.getfield 35, 3) ∧ decode cX0_copyFrom 41 = .ok (.invokevirtual 98, 3) ∧ decode cX0_copyFrom 44 = .ok (.aload_n 0, 1) ∧ decode cX0_copyFrom 45 = .ok (.aload_n 1, 1) ∧ decode cX0_copyFrom 46 = .ok (.getfield 39, 3) ∧ decode cX0_copyFrom 49 = .ok (.putfield 39, 3) ∧ True := dkl_ok (c := cX0_copyFrom) [(.getfield 35, 3), (.aload_n 1, 1), (.getfield 35, 3), (.invokevirtual 98, 3), (.aload_n 0, 1), (.aload_n 1, 1), (.getfield 39, 3), (.putfield 39, 3)] 34 (by decide +kernel)
theorem dX0_copyFrom_34 : decode cX0_copyFrom 34 = .ok (.getfield 35, 3) := eX0_copyFrom_34.1
theorem dX0_copyFrom_37 : decode cX0_copyFrom 37 = .ok (.aload_n 1, 1) := eX0_copyFrom_34.2.1
theorem dX0_copyFrom_38 : decode cX0_copyFrom 38 = .ok (.getfield 35, 3) := eX0_copyFrom_34.2.2.1
theorem dX0_copyFrom_41 : decode cX0_copyFrom 41 = .ok (.invokevirtual 98, 3) := eX0_copyFrom_34.2.2.2.1
theorem dX0_copyFrom_44 : decode cX0_copyFrom 44 = .ok (.aload_n 0, 1) := eX0_copyFrom_34.2.2.2.2.1
theorem dX0_copyFrom_45 : decode cX0_copyFrom 45 = .ok (.aload_n 1, 1) := eX0_copyFrom_34.2.2.2.2.2.1
theorem dX0_copyFrom_46 : decode cX0_copyFrom 46 = .ok (.getfield 39, 3) := eX0_copyFrom_34.2.2.2.2.2.2.1
theorem dX0_copyFrom_49 : decode cX0_copyFrom 49 = .ok (.putfield 39, 3) := eX0_copyFrom_34.2.2.2.2.2.2.2.1
theorem eX0_copyFrom_52 : decode cX0_copyFrom 52 = .ok (.aload_n 0, 1) ∧ decode cX0_copyFrom 53 = .ok (.aload_n 1, 1) ∧ decode cX0_copyFrom 54 = .ok (.getfield 43, 3) ∧ decode cX0_copyFrom 57 = .ok (.putfield 43, 3) ∧ decode cX0_copyFrom 60 = .ok (.aload_n 0, 1) ∧ decode cX0_copyFrom 61 = .ok (.aload_n 1, 1) ∧ decode cX0_copyFrom 62 = .ok (.getfield 46, 3) ∧ decode cX0_copyFrom 65 = .ok (.putfield 46, 3) ∧ True := dkl_ok (c := cX0_copyFrom) [(.aload_n 0, 1), (.aload_n 1, 1), (.getfield 43, 3), (.putfield 43, 3), (.aload_n 0, 1), (.aload_n 1, 1), (.getfield 46, 3), (.putfield 46, 3)] 52 (by decide +kernel)
theorem dX0_copyFrom_52 : decode cX0_copyFrom 52 = .ok (.aload_n 0, 1) := eX0_copyFrom_52.1
theorem dX0_copyFrom_53 : decode cX0_copyFrom 53 = .ok (.aload_n 1, 1) := eX0_copyFrom_52.2.1
theorem dX0_copyFrom_54 : decode cX0_copyFrom 54 = .ok (.getfield 43, 3) := eX0_copyFrom_52.2.2.1
theorem dX0_copyFrom_57 : decode cX0_copyFrom 57 = .ok (.putfield 43, 3) := eX0_copyFrom_52.2.2.2.1
theorem dX0_copyFrom_60 : decode cX0_copyFrom 60 = .ok (.aload_n 0, 1) := eX0_copyFrom_52.2.2.2.2.1
theorem dX0_copyFrom_61 : decode cX0_copyFrom 61 = .ok (.aload_n 1, 1) := eX0_copyFrom_52.2.2.2.2.2.1
theorem dX0_copyFrom_62 : decode cX0_copyFrom 62 = .ok (.getfield 46, 3) := eX0_copyFrom_52.2.2.2.2.2.2.1
theorem dX0_copyFrom_65 : decode cX0_copyFrom 65 = .ok (.putfield 46, 3) := eX0_copyFrom_52.2.2.2.2.2.2.2.1
theorem eX0_copyFrom_68 : decode cX0_copyFrom 68 = .ok (.aload_n 0, 1) ∧ decode cX0_copyFrom 69 = .ok (.aload_n 1, 1) ∧ decode cX0_copyFrom 70 = .ok (.getfield 49, 3) ∧ decode cX0_copyFrom 73 = .ok (.putfield 49, 3) ∧ decode cX0_copyFrom 76 = .ok (.return_, 1) ∧ True := dkl_ok (c := cX0_copyFrom) [(.aload_n 0, 1), (.aload_n 1, 1), (.getfield 49, 3), (.putfield 49, 3), (.return_, 1)] 68 (by decide +kernel)
theorem dX0_copyFrom_68 : decode cX0_copyFrom 68 = .ok (.aload_n 0, 1) := eX0_copyFrom_68.1
theorem dX0_copyFrom_69 : decode cX0_copyFrom 69 = .ok (.aload_n 1, 1) := eX0_copyFrom_68.2.1
theorem dX0_copyFrom_70 : decode cX0_copyFrom 70 = .ok (.getfield 49, 3) := eX0_copyFrom_68.2.2.1
theorem dX0_copyFrom_73 : decode cX0_copyFrom 73 = .ok (.putfield 49, 3) := eX0_copyFrom_68.2.2.2.1
theorem dX0_copyFrom_76 : decode cX0_copyFrom 76 = .ok (.return_, 1) := eX0_copyFrom_68.2.2.2.2.1
theorem eX0_clearWanted_0 : decode cX0_clearWanted 0 = .ok (.aload_n 0, 1) ∧ decode cX0_clearWanted 1 = .ok (.getfield 58, 3) ∧ decode cX0_clearWanted 4 = .ok (.invokevirtual 101, 3) ∧ decode cX0_clearWanted 7 = .ok (.aload_n 0, 1) ∧ decode cX0_clearWanted 8 = .ok (.iconst 0, 1) ∧ decode cX0_clearWanted 9 = .ok (.putfield 62, 3) ∧ decode cX0_clearWanted 12 = .ok (.return_, 1) ∧ True := dkl_ok (c := cX0_clearWanted) [(.aload_n 0, 1), (.getfield 58, 3), (.invokevirtual 101, 3), (.aload_n 0, 1), (.iconst 0, 1), (.putfield 62, 3), (.return_, 1)] 0 (by decide +kernel)
theorem dX0_clearWanted_0 : decode cX0_clearWanted 0 = .ok (.aload_n 0, 1) := eX0_clearWanted_0.1
theorem dX0_clearWanted_1 : decode cX0_clearWanted 1 = .ok (.getfield 58, 3) := eX0_clearWanted_0.2.1
theorem dX0_clearWanted_4 : decode cX0_clearWanted 4 = .ok (.invokevirtual 101, 3) := eX0_clearWanted_0.2.2.1
theorem dX0_clearWanted_7 : decode cX0_clearWanted 7 = .ok (.aload_n 0, 1) := eX0_clearWanted_0.2.2.2.1
theorem dX0_clearWanted_8 : decode cX0_clearWanted 8 = .ok (.iconst 0, 1) := eX0_clearWanted_0.2.2.2.2.1
theorem dX0_clearWanted_9 : decode cX0_clearWanted 9 = .ok (.putfield 62, 3) := eX0_clearWanted_0.2.2.2.2.2.1
theorem dX0_clearWanted_12 : decode cX0_clearWanted 12 = .ok (.return_, 1) := eX0_clearWanted_0.2.2.2.2.2.2.1
theorem eX0_want_0 : decode cX0_want 0 = .ok (.iload_n 1, 1) ∧ decode cX0_want 1 = .ok (.iconst (-1), 1) ∧ decode cX0_want 2 = .ok (.if_icmp .eq 22, 3) ∧ decode cX0_want 5 = .ok (.aload_n 0, 1) ∧ decode cX0_want 6 = .ok (.getfield 58, 3) ∧ decode cX0_want 9 = .ok (.iload_n 1, 1) ∧ decode cX0_want 10 = .ok (.iload_n 2, 1) ∧ decode cX0_want 11 = .ok (.invokevirtual 102, 3) ∧ True := dkl_ok (c := cX0_want) [(.iload_n 1, 1), (.iconst (-1), 1), (.if_icmp .eq 22, 3), (.aload_n 0, 1), (.getfield 58, 3), (.iload_n 1, 1), (.iload_n 2, 1), (.invokevirtual 102, 3)] 0 (by decide +kernel)
theorem dX0_want_0 : decode cX0_want 0 = .ok (.iload_n 1, 1) := eX0_want_0.1
theorem dX0_want_1 : decode cX0_want 1 = .ok (.iconst (-1), 1) := eX0_want_0.2.1
theorem dX0_want_2 : decode cX0_want 2 = .ok (.if_icmp .eq 22, 3) := eX0_want_0.2.2.1
theorem dX0_want_5 : decode cX0_want 5 = .ok (.aload_n 0, 1) := eX0_want_0.2.2.2.1
theorem dX0_want_6 : decode cX0_want 6 = .ok (.getfield 58, 3) := eX0_want_0.2.2.2.2.1
theorem dX0_want_9 : decode cX0_want 9 = .ok (.iload_n 1, 1) := eX0_want_0.2.2.2.2.2.1
theorem dX0_want_10 : decode cX0_want 10 = .ok (.iload_n 2, 1) := eX0_want_0.2.2.2.2.2.2.1
theorem dX0_want_11 : decode cX0_want 11 = .ok (.invokevirtual 102, 3) := eX0_want_0.2.2.2.2.2.2.2.1
theorem eX0_want_14 : decode cX0_want 14 = .ok (.aload_n 0, 1) ∧ decode cX0_want 15 = .ok (.dup, 1) ∧ decode cX0_want 16 = .ok (.getfield 62, 3) ∧ decode cX0_want 19 = .ok (.iload_n 2, 1) ∧ decode cX0_want 20 = .ok (.iadd, 1) ∧ decode cX0_want 21 = .ok (.putfield 62, 3) ∧ decode cX0_want 24 = .ok (.return_, 1) ∧ True := dkl_ok (c := cX0_want) [(.aload_n 0, 1), (.dup, 1), (.getfield 62, 3), (.iload_n 2, 1), (.iadd, 1), (.putfield 62, 3), (.return_, 1)] 14 (by decide +kernel)
theorem dX0_want_14 : decode cX0_want 14 = .ok (.aload_n 0, 1) := eX0_want_14.1
theorem dX0_want_15 : decode cX0_want 15 = .ok (.dup, 1) := eX0_want_14.2.1
theorem dX0_want_16 : decode cX0_want 16 = .ok (.getfield 62, 3) := eX0_want_14.2.2.1
theorem dX0_want_19 : decode cX0_want 19 = .ok (.iload_n 2, 1) := eX0_want_14.2.2.2.1
theorem dX0_want_20 : decode cX0_want 20 = .ok (.iadd, 1) := eX0_want_14.2.2.2.2.1
theorem dX0_want_21 : decode cX0_want 21 = .ok (.putfield 62, 3) := eX0_want_14.2.2.2.2.2.1
theorem dX0_want_24 : decode cX0_want 24 = .ok (.return_, 1) := eX0_want_14.2.2.2.2.2.2.1
theorem eX0_holdsWanted_0 : decode cX0_holdsWanted 0 = .ok (.iconst 0, 1) ∧ decode cX0_holdsWanted 1 = .ok (.istore_n 1, 1) ∧ decode cX0_holdsWanted 2 = .ok (.iload_n 1, 1) ∧ decode cX0_holdsWanted 3 = .ok (.aload_n 0, 1) ∧ decode cX0_holdsWanted 4 = .ok (.getfield 12, 3) ∧ decode cX0_holdsWanted 7 = .ok (.getfield 106, 3) ∧ decode cX0_holdsWanted 10 = .ok (.if_icmp .ge 34, 3) ∧ decode cX0_holdsWanted 13 = .ok (.aload_n 0, 1) ∧ True := dkl_ok (c := cX0_holdsWanted) [(.iconst 0, 1), (.istore_n 1, 1), (.iload_n 1, 1), (.aload_n 0, 1), (.getfield 12, 3), (.getfield 106, 3), (.if_icmp .ge 34, 3), (.aload_n 0, 1)] 0 (by decide +kernel)
theorem dX0_holdsWanted_0 : decode cX0_holdsWanted 0 = .ok (.iconst 0, 1) := eX0_holdsWanted_0.1
theorem dX0_holdsWanted_1 : decode cX0_holdsWanted 1 = .ok (.istore_n 1, 1) := eX0_holdsWanted_0.2.1
theorem dX0_holdsWanted_2 : decode cX0_holdsWanted 2 = .ok (.iload_n 1, 1) := eX0_holdsWanted_0.2.2.1
theorem dX0_holdsWanted_3 : decode cX0_holdsWanted 3 = .ok (.aload_n 0, 1) := eX0_holdsWanted_0.2.2.2.1
theorem dX0_holdsWanted_4 : decode cX0_holdsWanted 4 = .ok (.getfield 12, 3) := eX0_holdsWanted_0.2.2.2.2.1
theorem dX0_holdsWanted_7 : decode cX0_holdsWanted 7 = .ok (.getfield 106, 3) := eX0_holdsWanted_0.2.2.2.2.2.1
theorem dX0_holdsWanted_10 : decode cX0_holdsWanted 10 = .ok (.if_icmp .ge 34, 3) := eX0_holdsWanted_0.2.2.2.2.2.2.1
theorem dX0_holdsWanted_13 : decode cX0_holdsWanted 13 = .ok (.aload_n 0, 1) := eX0_holdsWanted_0.2.2.2.2.2.2.2.1
theorem eX0_holdsWanted_14 : decode cX0_holdsWanted 14 = .ok (.getfield 21, 3) ∧ decode cX0_holdsWanted 17 = .ok (.aload_n 0, 1) ∧ decode cX0_holdsWanted 18 = .ok (.getfield 43, 3) ∧ decode cX0_holdsWanted 21 = .ok (.iload_n 1, 1) ∧ decode cX0_holdsWanted 22 = .ok (.invokevirtual 109, 3) ∧ decode cX0_holdsWanted 25 = .ok (.aload_n 0, 1) ∧ decode cX0_holdsWanted 26 = .ok (.getfield 58, 3) ∧ decode cX0_holdsWanted 29 = .ok (.iload_n 1, 1) ∧ True := dkl_ok (c := cX0_holdsWanted) [(.getfield 21, 3), (.aload_n 0, 1), (.getfield 43, 3), (.iload_n 1, 1), (.invokevirtual 109, 3), (.aload_n 0, 1), (.getfield 58, 3), (.iload_n 1, 1)] 14 (by decide +kernel)
theorem dX0_holdsWanted_14 : decode cX0_holdsWanted 14 = .ok (.getfield 21, 3) := eX0_holdsWanted_14.1
theorem dX0_holdsWanted_17 : decode cX0_holdsWanted 17 = .ok (.aload_n 0, 1) := eX0_holdsWanted_14.2.1
theorem dX0_holdsWanted_18 : decode cX0_holdsWanted 18 = .ok (.getfield 43, 3) := eX0_holdsWanted_14.2.2.1
theorem dX0_holdsWanted_21 : decode cX0_holdsWanted 21 = .ok (.iload_n 1, 1) := eX0_holdsWanted_14.2.2.2.1
theorem dX0_holdsWanted_22 : decode cX0_holdsWanted 22 = .ok (.invokevirtual 109, 3) := eX0_holdsWanted_14.2.2.2.2.1
theorem dX0_holdsWanted_25 : decode cX0_holdsWanted 25 = .ok (.aload_n 0, 1) := eX0_holdsWanted_14.2.2.2.2.2.1
theorem dX0_holdsWanted_26 : decode cX0_holdsWanted 26 = .ok (.getfield 58, 3) := eX0_holdsWanted_14.2.2.2.2.2.2.1
theorem dX0_holdsWanted_29 : decode cX0_holdsWanted 29 = .ok (.iload_n 1, 1) := eX0_holdsWanted_14.2.2.2.2.2.2.2.1
theorem eX0_holdsWanted_30 : decode cX0_holdsWanted 30 = .ok (.invokevirtual 113, 3) ∧ decode cX0_holdsWanted 33 = .ok (.if_icmp .ge 5, 3) ∧ decode cX0_holdsWanted 36 = .ok (.iconst 0, 1) ∧ decode cX0_holdsWanted 37 = .ok (.ireturn, 1) ∧ decode cX0_holdsWanted 38 = .ok (.iinc 1 1, 3) ∧ decode cX0_holdsWanted 41 = .ok (.goto (-39), 3) ∧ decode cX0_holdsWanted 44 = .ok (.iconst 1, 1) ∧ decode cX0_holdsWanted 45 = .ok (.ireturn, 1) ∧ True := dkl_ok (c := cX0_holdsWanted) [(.invokevirtual 113, 3), (.if_icmp .ge 5, 3), (.iconst 0, 1), (.ireturn, 1), (.iinc 1 1, 3), (.goto (-39), 3), (.iconst 1, 1), (.ireturn, 1)] 30 (by decide +kernel)
theorem dX0_holdsWanted_30 : decode cX0_holdsWanted 30 = .ok (.invokevirtual 113, 3) := eX0_holdsWanted_30.1
theorem dX0_holdsWanted_33 : decode cX0_holdsWanted 33 = .ok (.if_icmp .ge 5, 3) := eX0_holdsWanted_30.2.1
theorem dX0_holdsWanted_36 : decode cX0_holdsWanted 36 = .ok (.iconst 0, 1) := eX0_holdsWanted_30.2.2.1
theorem dX0_holdsWanted_37 : decode cX0_holdsWanted 37 = .ok (.ireturn, 1) := eX0_holdsWanted_30.2.2.2.1
theorem dX0_holdsWanted_38 : decode cX0_holdsWanted 38 = .ok (.iinc 1 1, 3) := eX0_holdsWanted_30.2.2.2.2.1
theorem dX0_holdsWanted_41 : decode cX0_holdsWanted 41 = .ok (.goto (-39), 3) := eX0_holdsWanted_30.2.2.2.2.2.1
theorem dX0_holdsWanted_44 : decode cX0_holdsWanted 44 = .ok (.iconst 1, 1) := eX0_holdsWanted_30.2.2.2.2.2.2.1
theorem dX0_holdsWanted_45 : decode cX0_holdsWanted 45 = .ok (.ireturn, 1) := eX0_holdsWanted_30.2.2.2.2.2.2.2.1
theorem eX0_layWanted_0 : decode cX0_layWanted 0 = .ok (.aload_n 0, 1) ∧ decode cX0_layWanted 1 = .ok (.getfield 28, 3) ∧ decode cX0_layWanted 4 = .ok (.aload_n 0, 1) ∧ decode cX0_layWanted 5 = .ok (.getfield 43, 3) ∧ decode cX0_layWanted 8 = .ok (.aload_n 0, 1) ∧ decode cX0_layWanted 9 = .ok (.getfield 39, 3) ∧ decode cX0_layWanted 12 = .ok (.invokevirtual 117, 3) ∧ decode cX0_layWanted 15 = .ok (.iconst 0, 1) ∧ True := dkl_ok (c := cX0_layWanted) [(.aload_n 0, 1), (.getfield 28, 3), (.aload_n 0, 1), (.getfield 43, 3), (.aload_n 0, 1), (.getfield 39, 3), (.invokevirtual 117, 3), (.iconst 0, 1)] 0 (by decide +kernel)
theorem dX0_layWanted_0 : decode cX0_layWanted 0 = .ok (.aload_n 0, 1) := eX0_layWanted_0.1
theorem dX0_layWanted_1 : decode cX0_layWanted 1 = .ok (.getfield 28, 3) := eX0_layWanted_0.2.1
theorem dX0_layWanted_4 : decode cX0_layWanted 4 = .ok (.aload_n 0, 1) := eX0_layWanted_0.2.2.1
theorem dX0_layWanted_5 : decode cX0_layWanted 5 = .ok (.getfield 43, 3) := eX0_layWanted_0.2.2.2.1
theorem dX0_layWanted_8 : decode cX0_layWanted 8 = .ok (.aload_n 0, 1) := eX0_layWanted_0.2.2.2.2.1
theorem dX0_layWanted_9 : decode cX0_layWanted 9 = .ok (.getfield 39, 3) := eX0_layWanted_0.2.2.2.2.2.1
theorem dX0_layWanted_12 : decode cX0_layWanted 12 = .ok (.invokevirtual 117, 3) := eX0_layWanted_0.2.2.2.2.2.2.1
theorem dX0_layWanted_15 : decode cX0_layWanted 15 = .ok (.iconst 0, 1) := eX0_layWanted_0.2.2.2.2.2.2.2.1
theorem eX0_layWanted_16 : decode cX0_layWanted 16 = .ok (.istore_n 1, 1) ∧ decode cX0_layWanted 17 = .ok (.iload_n 1, 1) ∧ decode cX0_layWanted 18 = .ok (.aload_n 0, 1) ∧ decode cX0_layWanted 19 = .ok (.getfield 12, 3) ∧ decode cX0_layWanted 22 = .ok (.getfield 106, 3) ∧ decode cX0_layWanted 25 = .ok (.if_icmp .ge 45, 3) ∧ decode cX0_layWanted 28 = .ok (.aload_n 0, 1) ∧ decode cX0_layWanted 29 = .ok (.getfield 21, 3) ∧ True := dkl_ok (c := cX0_layWanted) [(.istore_n 1, 1), (.iload_n 1, 1), (.aload_n 0, 1), (.getfield 12, 3), (.getfield 106, 3), (.if_icmp .ge 45, 3), (.aload_n 0, 1), (.getfield 21, 3)] 16 (by decide +kernel)
theorem dX0_layWanted_16 : decode cX0_layWanted 16 = .ok (.istore_n 1, 1) := eX0_layWanted_16.1
theorem dX0_layWanted_17 : decode cX0_layWanted 17 = .ok (.iload_n 1, 1) := eX0_layWanted_16.2.1
theorem dX0_layWanted_18 : decode cX0_layWanted 18 = .ok (.aload_n 0, 1) := eX0_layWanted_16.2.2.1
theorem dX0_layWanted_19 : decode cX0_layWanted 19 = .ok (.getfield 12, 3) := eX0_layWanted_16.2.2.2.1
theorem dX0_layWanted_22 : decode cX0_layWanted 22 = .ok (.getfield 106, 3) := eX0_layWanted_16.2.2.2.2.1
theorem dX0_layWanted_25 : decode cX0_layWanted 25 = .ok (.if_icmp .ge 45, 3) := eX0_layWanted_16.2.2.2.2.2.1
theorem dX0_layWanted_28 : decode cX0_layWanted 28 = .ok (.aload_n 0, 1) := eX0_layWanted_16.2.2.2.2.2.2.1
theorem dX0_layWanted_29 : decode cX0_layWanted 29 = .ok (.getfield 21, 3) := eX0_layWanted_16.2.2.2.2.2.2.2.1
theorem eX0_layWanted_32 : decode cX0_layWanted 32 = .ok (.aload_n 0, 1) ∧ decode cX0_layWanted 33 = .ok (.getfield 43, 3) ∧ decode cX0_layWanted 36 = .ok (.iload_n 1, 1) ∧ decode cX0_layWanted 37 = .ok (.aload_n 0, 1) ∧ decode cX0_layWanted 38 = .ok (.getfield 58, 3) ∧ decode cX0_layWanted 41 = .ok (.iload_n 1, 1) ∧ decode cX0_layWanted 42 = .ok (.invokevirtual 113, 3) ∧ decode cX0_layWanted 45 = .ok (.invokevirtual 120, 3) ∧ True := dkl_ok (c := cX0_layWanted) [(.aload_n 0, 1), (.getfield 43, 3), (.iload_n 1, 1), (.aload_n 0, 1), (.getfield 58, 3), (.iload_n 1, 1), (.invokevirtual 113, 3), (.invokevirtual 120, 3)] 32 (by decide +kernel)
theorem dX0_layWanted_32 : decode cX0_layWanted 32 = .ok (.aload_n 0, 1) := eX0_layWanted_32.1
theorem dX0_layWanted_33 : decode cX0_layWanted 33 = .ok (.getfield 43, 3) := eX0_layWanted_32.2.1
theorem dX0_layWanted_36 : decode cX0_layWanted 36 = .ok (.iload_n 1, 1) := eX0_layWanted_32.2.2.1
theorem dX0_layWanted_37 : decode cX0_layWanted 37 = .ok (.aload_n 0, 1) := eX0_layWanted_32.2.2.2.1
theorem dX0_layWanted_38 : decode cX0_layWanted 38 = .ok (.getfield 58, 3) := eX0_layWanted_32.2.2.2.2.1
theorem dX0_layWanted_41 : decode cX0_layWanted 41 = .ok (.iload_n 1, 1) := eX0_layWanted_32.2.2.2.2.2.1
theorem dX0_layWanted_42 : decode cX0_layWanted 42 = .ok (.invokevirtual 113, 3) := eX0_layWanted_32.2.2.2.2.2.2.1
theorem dX0_layWanted_45 : decode cX0_layWanted 45 = .ok (.invokevirtual 120, 3) := eX0_layWanted_32.2.2.2.2.2.2.2.1
theorem eX0_layWanted_48 : decode cX0_layWanted 48 = .ok (.aload_n 0, 1) ∧ decode cX0_layWanted 49 = .ok (.getfield 28, 3) ∧ decode cX0_layWanted 52 = .ok (.iload_n 1, 1) ∧ decode cX0_layWanted 53 = .ok (.aload_n 0, 1) ∧ decode cX0_layWanted 54 = .ok (.getfield 58, 3) ∧ decode cX0_layWanted 57 = .ok (.iload_n 1, 1) ∧ decode cX0_layWanted 58 = .ok (.invokevirtual 113, 3) ∧ decode cX0_layWanted 61 = .ok (.invokevirtual 124, 3) ∧ True := dkl_ok (c := cX0_layWanted) [(.aload_n 0, 1), (.getfield 28, 3), (.iload_n 1, 1), (.aload_n 0, 1), (.getfield 58, 3), (.iload_n 1, 1), (.invokevirtual 113, 3), (.invokevirtual 124, 3)] 48 (by decide +kernel)
theorem dX0_layWanted_48 : decode cX0_layWanted 48 = .ok (.aload_n 0, 1) := eX0_layWanted_48.1
theorem dX0_layWanted_49 : decode cX0_layWanted 49 = .ok (.getfield 28, 3) := eX0_layWanted_48.2.1
theorem dX0_layWanted_52 : decode cX0_layWanted 52 = .ok (.iload_n 1, 1) := eX0_layWanted_48.2.2.1
theorem dX0_layWanted_53 : decode cX0_layWanted 53 = .ok (.aload_n 0, 1) := eX0_layWanted_48.2.2.2.1
theorem dX0_layWanted_54 : decode cX0_layWanted 54 = .ok (.getfield 58, 3) := eX0_layWanted_48.2.2.2.2.1
theorem dX0_layWanted_57 : decode cX0_layWanted 57 = .ok (.iload_n 1, 1) := eX0_layWanted_48.2.2.2.2.2.1
theorem dX0_layWanted_58 : decode cX0_layWanted 58 = .ok (.invokevirtual 113, 3) := eX0_layWanted_48.2.2.2.2.2.2.1
theorem dX0_layWanted_61 : decode cX0_layWanted 61 = .ok (.invokevirtual 124, 3) := eX0_layWanted_48.2.2.2.2.2.2.2.1
theorem eX0_layWanted_64 : decode cX0_layWanted 64 = .ok (.iinc 1 1, 3) ∧ decode cX0_layWanted 67 = .ok (.goto (-50), 3) ∧ decode cX0_layWanted 70 = .ok (.aload_n 0, 1) ∧ decode cX0_layWanted 71 = .ok (.iconst 1, 1) ∧ decode cX0_layWanted 72 = .ok (.putfield 49, 3) ∧ decode cX0_layWanted 75 = .ok (.return_, 1) ∧ True := dkl_ok (c := cX0_layWanted) [(.iinc 1 1, 3), (.goto (-50), 3), (.aload_n 0, 1), (.iconst 1, 1), (.putfield 49, 3), (.return_, 1)] 64 (by decide +kernel)
theorem dX0_layWanted_64 : decode cX0_layWanted 64 = .ok (.iinc 1 1, 3) := eX0_layWanted_64.1
theorem dX0_layWanted_67 : decode cX0_layWanted 67 = .ok (.goto (-50), 3) := eX0_layWanted_64.2.1
theorem dX0_layWanted_70 : decode cX0_layWanted 70 = .ok (.aload_n 0, 1) := eX0_layWanted_64.2.2.1
theorem dX0_layWanted_71 : decode cX0_layWanted 71 = .ok (.iconst 1, 1) := eX0_layWanted_64.2.2.2.1
theorem dX0_layWanted_72 : decode cX0_layWanted 72 = .ok (.putfield 49, 3) := eX0_layWanted_64.2.2.2.2.1
theorem dX0_layWanted_75 : decode cX0_layWanted 75 = .ok (.return_, 1) := eX0_layWanted_64.2.2.2.2.2.1
theorem eX0_letLie_0 : decode cX0_letLie 0 = .ok (.aload_n 0, 1) ∧ decode cX0_letLie 1 = .ok (.iconst 0, 1) ∧ decode cX0_letLie 2 = .ok (.putfield 49, 3) ∧ decode cX0_letLie 5 = .ok (.aload_n 0, 1) ∧ decode cX0_letLie 6 = .ok (.invokevirtual 125, 3) ∧ decode cX0_letLie 9 = .ok (.aload_n 0, 1) ∧ decode cX0_letLie 10 = .ok (.aload_n 0, 1) ∧ decode cX0_letLie 11 = .ok (.getfield 12, 3) ∧ True := dkl_ok (c := cX0_letLie) [(.aload_n 0, 1), (.iconst 0, 1), (.putfield 49, 3), (.aload_n 0, 1), (.invokevirtual 125, 3), (.aload_n 0, 1), (.aload_n 0, 1), (.getfield 12, 3)] 0 (by decide +kernel)
theorem dX0_letLie_0 : decode cX0_letLie 0 = .ok (.aload_n 0, 1) := eX0_letLie_0.1
theorem dX0_letLie_1 : decode cX0_letLie 1 = .ok (.iconst 0, 1) := eX0_letLie_0.2.1
theorem dX0_letLie_2 : decode cX0_letLie 2 = .ok (.putfield 49, 3) := eX0_letLie_0.2.2.1
theorem dX0_letLie_5 : decode cX0_letLie 5 = .ok (.aload_n 0, 1) := eX0_letLie_0.2.2.2.1
theorem dX0_letLie_6 : decode cX0_letLie 6 = .ok (.invokevirtual 125, 3) := eX0_letLie_0.2.2.2.2.1
theorem dX0_letLie_9 : decode cX0_letLie 9 = .ok (.aload_n 0, 1) := eX0_letLie_0.2.2.2.2.2.1
theorem dX0_letLie_10 : decode cX0_letLie 10 = .ok (.aload_n 0, 1) := eX0_letLie_0.2.2.2.2.2.2.1
theorem dX0_letLie_11 : decode cX0_letLie 11 = .ok (.getfield 12, 3) := eX0_letLie_0.2.2.2.2.2.2.2.1
theorem eX0_letLie_14 : decode cX0_letLie 14 = .ok (.aload_n 0, 1) ∧ decode cX0_letLie 15 = .ok (.getfield 39, 3) ∧ decode cX0_letLie 18 = .ok (.iconst 1, 1) ∧ decode cX0_letLie 19 = .ok (.invokevirtual 128, 3) ∧ decode cX0_letLie 22 = .ok (.putfield 39, 3) ∧ decode cX0_letLie 25 = .ok (.aload_n 0, 1) ∧ decode cX0_letLie 26 = .ok (.aload_n 0, 1) ∧ decode cX0_letLie 27 = .ok (.getfield 12, 3) ∧ True := dkl_ok (c := cX0_letLie) [(.aload_n 0, 1), (.getfield 39, 3), (.iconst 1, 1), (.invokevirtual 128, 3), (.putfield 39, 3), (.aload_n 0, 1), (.aload_n 0, 1), (.getfield 12, 3)] 14 (by decide +kernel)
theorem dX0_letLie_14 : decode cX0_letLie 14 = .ok (.aload_n 0, 1) := eX0_letLie_14.1
theorem dX0_letLie_15 : decode cX0_letLie 15 = .ok (.getfield 39, 3) := eX0_letLie_14.2.1
theorem dX0_letLie_18 : decode cX0_letLie 18 = .ok (.iconst 1, 1) := eX0_letLie_14.2.2.1
theorem dX0_letLie_19 : decode cX0_letLie 19 = .ok (.invokevirtual 128, 3) := eX0_letLie_14.2.2.2.1
theorem dX0_letLie_22 : decode cX0_letLie 22 = .ok (.putfield 39, 3) := eX0_letLie_14.2.2.2.2.1
theorem dX0_letLie_25 : decode cX0_letLie 25 = .ok (.aload_n 0, 1) := eX0_letLie_14.2.2.2.2.2.1
theorem dX0_letLie_26 : decode cX0_letLie 26 = .ok (.aload_n 0, 1) := eX0_letLie_14.2.2.2.2.2.2.1
theorem dX0_letLie_27 : decode cX0_letLie 27 = .ok (.getfield 12, 3) := eX0_letLie_14.2.2.2.2.2.2.2.1
theorem eX0_letLie_30 : decode cX0_letLie 30 = .ok (.aload_n 0, 1) ∧ decode cX0_letLie 31 = .ok (.getfield 43, 3) ∧ decode cX0_letLie 34 = .ok (.iconst 1, 1) ∧ decode cX0_letLie 35 = .ok (.invokevirtual 131, 3) ∧ decode cX0_letLie 38 = .ok (.putfield 43, 3) ∧ decode cX0_letLie 41 = .ok (.return_, 1) ∧ True := dkl_ok (c := cX0_letLie) [(.aload_n 0, 1), (.getfield 43, 3), (.iconst 1, 1), (.invokevirtual 131, 3), (.putfield 43, 3), (.return_, 1)] 30 (by decide +kernel)
theorem dX0_letLie_30 : decode cX0_letLie 30 = .ok (.aload_n 0, 1) := eX0_letLie_30.1
theorem dX0_letLie_31 : decode cX0_letLie 31 = .ok (.getfield 43, 3) := eX0_letLie_30.2.1
theorem dX0_letLie_34 : decode cX0_letLie 34 = .ok (.iconst 1, 1) := eX0_letLie_30.2.2.1
theorem dX0_letLie_35 : decode cX0_letLie 35 = .ok (.invokevirtual 131, 3) := eX0_letLie_30.2.2.2.1
theorem dX0_letLie_38 : decode cX0_letLie 38 = .ok (.putfield 43, 3) := eX0_letLie_30.2.2.2.2.1
theorem dX0_letLie_41 : decode cX0_letLie 41 = .ok (.return_, 1) := eX0_letLie_30.2.2.2.2.2.1
theorem eX0_challenge_0 : decode cX0_challenge 0 = .ok (.aload_n 0, 1) ∧ decode cX0_challenge 1 = .ok (.getfield 28, 3) ∧ decode cX0_challenge 4 = .ok (.invokevirtual 134, 3) ∧ decode cX0_challenge 7 = .ok (.ifCond .ne 7, 3) ∧ decode cX0_challenge 10 = .ok (.iconst 1, 1) ∧ decode cX0_challenge 11 = .ok (.goto 4, 3) ∧ decode cX0_challenge 14 = .ok (.iconst 0, 1) ∧ decode cX0_challenge 15 = .ok (.istore_n 2, 1) ∧ True := dkl_ok (c := cX0_challenge) [(.aload_n 0, 1), (.getfield 28, 3), (.invokevirtual 134, 3), (.ifCond .ne 7, 3), (.iconst 1, 1), (.goto 4, 3), (.iconst 0, 1), (.istore_n 2, 1)] 0 (by decide +kernel)
theorem dX0_challenge_0 : decode cX0_challenge 0 = .ok (.aload_n 0, 1) := eX0_challenge_0.1
theorem dX0_challenge_1 : decode cX0_challenge 1 = .ok (.getfield 28, 3) := eX0_challenge_0.2.1
theorem dX0_challenge_4 : decode cX0_challenge 4 = .ok (.invokevirtual 134, 3) := eX0_challenge_0.2.2.1
theorem dX0_challenge_7 : decode cX0_challenge 7 = .ok (.ifCond .ne 7, 3) := eX0_challenge_0.2.2.2.1
theorem dX0_challenge_10 : decode cX0_challenge 10 = .ok (.iconst 1, 1) := eX0_challenge_0.2.2.2.2.1
theorem dX0_challenge_11 : decode cX0_challenge 11 = .ok (.goto 4, 3) := eX0_challenge_0.2.2.2.2.2.1
theorem dX0_challenge_14 : decode cX0_challenge 14 = .ok (.iconst 0, 1) := eX0_challenge_0.2.2.2.2.2.2.1
theorem dX0_challenge_15 : decode cX0_challenge 15 = .ok (.istore_n 2, 1) := eX0_challenge_0.2.2.2.2.2.2.2.1
theorem eX0_challenge_16 : decode cX0_challenge 16 = .ok (.iload_n 2, 1) ∧ decode cX0_challenge 17 = .ok (.ifCond .eq 7, 3) ∧ decode cX0_challenge 20 = .ok (.iload_n 1, 1) ∧ decode cX0_challenge 21 = .ok (.goto 7, 3) ∧ decode cX0_challenge 24 = .ok (.aload_n 0, 1) ∧ decode cX0_challenge 25 = .ok (.getfield 43, 3) ∧ decode cX0_challenge 28 = .ok (.istore_n 3, 1) ∧ decode cX0_challenge 29 = .ok (.iload_n 2, 1) ∧ True := dkl_ok (c := cX0_challenge) [(.iload_n 2, 1), (.ifCond .eq 7, 3), (.iload_n 1, 1), (.goto 7, 3), (.aload_n 0, 1), (.getfield 43, 3), (.istore_n 3, 1), (.iload_n 2, 1)] 16 (by decide +kernel)
theorem dX0_challenge_16 : decode cX0_challenge 16 = .ok (.iload_n 2, 1) := eX0_challenge_16.1
theorem dX0_challenge_17 : decode cX0_challenge 17 = .ok (.ifCond .eq 7, 3) := eX0_challenge_16.2.1
theorem dX0_challenge_20 : decode cX0_challenge 20 = .ok (.iload_n 1, 1) := eX0_challenge_16.2.2.1
theorem dX0_challenge_21 : decode cX0_challenge 21 = .ok (.goto 7, 3) := eX0_challenge_16.2.2.2.1
theorem dX0_challenge_24 : decode cX0_challenge 24 = .ok (.aload_n 0, 1) := eX0_challenge_16.2.2.2.2.1
theorem dX0_challenge_25 : decode cX0_challenge 25 = .ok (.getfield 43, 3) := eX0_challenge_16.2.2.2.2.2.1
theorem dX0_challenge_28 : decode cX0_challenge 28 = .ok (.istore_n 3, 1) := eX0_challenge_16.2.2.2.2.2.2.1
theorem dX0_challenge_29 : decode cX0_challenge 29 = .ok (.iload_n 2, 1) := eX0_challenge_16.2.2.2.2.2.2.2.1
theorem eX0_challenge_30 : decode cX0_challenge 30 = .ok (.ifCond .eq 10, 3) ∧ decode cX0_challenge 33 = .ok (.aload_n 0, 1) ∧ decode cX0_challenge 34 = .ok (.getfield 43, 3) ∧ decode cX0_challenge 37 = .ok (.goto 4, 3) ∧ decode cX0_challenge 40 = .ok (.iload_n 1, 1) ∧ decode cX0_challenge 41 = .ok (.istore 4, 2) ∧ decode cX0_challenge 43 = .ok (.aload_n 0, 1) ∧ decode cX0_challenge 44 = .ok (.getfield 21, 3) ∧ True := dkl_ok (c := cX0_challenge) [(.ifCond .eq 10, 3), (.aload_n 0, 1), (.getfield 43, 3), (.goto 4, 3), (.iload_n 1, 1), (.istore 4, 2), (.aload_n 0, 1), (.getfield 21, 3)] 30 (by decide +kernel)
theorem dX0_challenge_30 : decode cX0_challenge 30 = .ok (.ifCond .eq 10, 3) := eX0_challenge_30.1
theorem dX0_challenge_33 : decode cX0_challenge 33 = .ok (.aload_n 0, 1) := eX0_challenge_30.2.1
theorem dX0_challenge_34 : decode cX0_challenge 34 = .ok (.getfield 43, 3) := eX0_challenge_30.2.2.1
theorem dX0_challenge_37 : decode cX0_challenge 37 = .ok (.goto 4, 3) := eX0_challenge_30.2.2.2.1
theorem dX0_challenge_40 : decode cX0_challenge 40 = .ok (.iload_n 1, 1) := eX0_challenge_30.2.2.2.2.1
theorem dX0_challenge_41 : decode cX0_challenge 41 = .ok (.istore 4, 2) := eX0_challenge_30.2.2.2.2.2.1
theorem dX0_challenge_43 : decode cX0_challenge 43 = .ok (.aload_n 0, 1) := eX0_challenge_30.2.2.2.2.2.2.1
theorem dX0_challenge_44 : decode cX0_challenge 44 = .ok (.getfield 21, 3) := eX0_challenge_30.2.2.2.2.2.2.2.1
theorem eX0_challenge_47 : decode cX0_challenge 47 = .ok (.getfield 138, 3) ∧ decode cX0_challenge 50 = .ok (.aload_n 0, 1) ∧ decode cX0_challenge 51 = .ok (.getfield 43, 3) ∧ decode cX0_challenge 54 = .ok (.iconst 1, 1) ∧ decode cX0_challenge 55 = .ok (.invokevirtual 102, 3) ∧ decode cX0_challenge 58 = .ok (.iload_n 2, 1) ∧ decode cX0_challenge 59 = .ok (.ifCond .eq 10, 3) ∧ decode cX0_challenge 62 = .ok (.aload_n 0, 1) ∧ True := dkl_ok (c := cX0_challenge) [(.getfield 138, 3), (.aload_n 0, 1), (.getfield 43, 3), (.iconst 1, 1), (.invokevirtual 102, 3), (.iload_n 2, 1), (.ifCond .eq 10, 3), (.aload_n 0, 1)] 47 (by decide +kernel)
theorem dX0_challenge_47 : decode cX0_challenge 47 = .ok (.getfield 138, 3) := eX0_challenge_47.1
theorem dX0_challenge_50 : decode cX0_challenge 50 = .ok (.aload_n 0, 1) := eX0_challenge_47.2.1
theorem dX0_challenge_51 : decode cX0_challenge 51 = .ok (.getfield 43, 3) := eX0_challenge_47.2.2.1
theorem dX0_challenge_54 : decode cX0_challenge 54 = .ok (.iconst 1, 1) := eX0_challenge_47.2.2.2.1
theorem dX0_challenge_55 : decode cX0_challenge 55 = .ok (.invokevirtual 102, 3) := eX0_challenge_47.2.2.2.2.1
theorem dX0_challenge_58 : decode cX0_challenge 58 = .ok (.iload_n 2, 1) := eX0_challenge_47.2.2.2.2.2.1
theorem dX0_challenge_59 : decode cX0_challenge 59 = .ok (.ifCond .eq 10, 3) := eX0_challenge_47.2.2.2.2.2.2.1
theorem dX0_challenge_62 : decode cX0_challenge 62 = .ok (.aload_n 0, 1) := eX0_challenge_47.2.2.2.2.2.2.2.1
theorem eX0_challenge_63 : decode cX0_challenge 63 = .ok (.invokevirtual 125, 3) ∧ decode cX0_challenge 66 = .ok (.goto 18, 3) ∧ decode cX0_challenge 69 = .ok (.aload_n 0, 1) ∧ decode cX0_challenge 70 = .ok (.getfield 21, 3) ∧ decode cX0_challenge 73 = .ok (.getfield 141, 3) ∧ decode cX0_challenge 76 = .ok (.aload_n 0, 1) ∧ decode cX0_challenge 77 = .ok (.getfield 43, 3) ∧ decode cX0_challenge 80 = .ok (.iconst 1, 1) ∧ True := dkl_ok (c := cX0_challenge) [(.invokevirtual 125, 3), (.goto 18, 3), (.aload_n 0, 1), (.getfield 21, 3), (.getfield 141, 3), (.aload_n 0, 1), (.getfield 43, 3), (.iconst 1, 1)] 63 (by decide +kernel)
theorem dX0_challenge_63 : decode cX0_challenge 63 = .ok (.invokevirtual 125, 3) := eX0_challenge_63.1
theorem dX0_challenge_66 : decode cX0_challenge 66 = .ok (.goto 18, 3) := eX0_challenge_63.2.1
theorem dX0_challenge_69 : decode cX0_challenge 69 = .ok (.aload_n 0, 1) := eX0_challenge_63.2.2.1
theorem dX0_challenge_70 : decode cX0_challenge 70 = .ok (.getfield 21, 3) := eX0_challenge_63.2.2.2.1
theorem dX0_challenge_73 : decode cX0_challenge 73 = .ok (.getfield 141, 3) := eX0_challenge_63.2.2.2.2.1
theorem dX0_challenge_76 : decode cX0_challenge 76 = .ok (.aload_n 0, 1) := eX0_challenge_63.2.2.2.2.2.1
theorem dX0_challenge_77 : decode cX0_challenge 77 = .ok (.getfield 43, 3) := eX0_challenge_63.2.2.2.2.2.2.1
theorem dX0_challenge_80 : decode cX0_challenge 80 = .ok (.iconst 1, 1) := eX0_challenge_63.2.2.2.2.2.2.2.1
theorem eX0_challenge_81 : decode cX0_challenge 81 = .ok (.invokevirtual 102, 3) ∧ decode cX0_challenge 84 = .ok (.aload_n 0, 1) ∧ decode cX0_challenge 85 = .ok (.getfield 21, 3) ∧ decode cX0_challenge 88 = .ok (.iload_n 3, 1) ∧ decode cX0_challenge 89 = .ok (.invokevirtual 144, 3) ∧ decode cX0_challenge 92 = .ok (.aload_n 0, 1) ∧ decode cX0_challenge 93 = .ok (.getfield 28, 3) ∧ decode cX0_challenge 96 = .ok (.invokevirtual 84, 3) ∧ True := dkl_ok (c := cX0_challenge) [(.invokevirtual 102, 3), (.aload_n 0, 1), (.getfield 21, 3), (.iload_n 3, 1), (.invokevirtual 144, 3), (.aload_n 0, 1), (.getfield 28, 3), (.invokevirtual 84, 3)] 81 (by decide +kernel)
theorem dX0_challenge_81 : decode cX0_challenge 81 = .ok (.invokevirtual 102, 3) := eX0_challenge_81.1
theorem dX0_challenge_84 : decode cX0_challenge 84 = .ok (.aload_n 0, 1) := eX0_challenge_81.2.1
theorem dX0_challenge_85 : decode cX0_challenge 85 = .ok (.getfield 21, 3) := eX0_challenge_81.2.2.1
theorem dX0_challenge_88 : decode cX0_challenge 88 = .ok (.iload_n 3, 1) := eX0_challenge_81.2.2.2.1
theorem dX0_challenge_89 : decode cX0_challenge 89 = .ok (.invokevirtual 144, 3) := eX0_challenge_81.2.2.2.2.1
theorem dX0_challenge_92 : decode cX0_challenge 92 = .ok (.aload_n 0, 1) := eX0_challenge_81.2.2.2.2.2.1
theorem dX0_challenge_93 : decode cX0_challenge 93 = .ok (.getfield 28, 3) := eX0_challenge_81.2.2.2.2.2.2.1
theorem dX0_challenge_96 : decode cX0_challenge 96 = .ok (.invokevirtual 84, 3) := eX0_challenge_81.2.2.2.2.2.2.2.1
theorem eX0_challenge_99 : decode cX0_challenge 99 = .ok (.aload_n 0, 1) ∧ decode cX0_challenge 100 = .ok (.iconst 0, 1) ∧ decode cX0_challenge 101 = .ok (.putfield 49, 3) ∧ decode cX0_challenge 104 = .ok (.aload_n 0, 1) ∧ decode cX0_challenge 105 = .ok (.aload_n 0, 1) ∧ decode cX0_challenge 106 = .ok (.getfield 12, 3) ∧ decode cX0_challenge 109 = .ok (.aload_n 0, 1) ∧ decode cX0_challenge 110 = .ok (.getfield 39, 3) ∧ True := dkl_ok (c := cX0_challenge) [(.aload_n 0, 1), (.iconst 0, 1), (.putfield 49, 3), (.aload_n 0, 1), (.aload_n 0, 1), (.getfield 12, 3), (.aload_n 0, 1), (.getfield 39, 3)] 99 (by decide +kernel)
theorem dX0_challenge_99 : decode cX0_challenge 99 = .ok (.aload_n 0, 1) := eX0_challenge_99.1
theorem dX0_challenge_100 : decode cX0_challenge 100 = .ok (.iconst 0, 1) := eX0_challenge_99.2.1
theorem dX0_challenge_101 : decode cX0_challenge 101 = .ok (.putfield 49, 3) := eX0_challenge_99.2.2.1
theorem dX0_challenge_104 : decode cX0_challenge 104 = .ok (.aload_n 0, 1) := eX0_challenge_99.2.2.2.1
theorem dX0_challenge_105 : decode cX0_challenge 105 = .ok (.aload_n 0, 1) := eX0_challenge_99.2.2.2.2.1
theorem dX0_challenge_106 : decode cX0_challenge 106 = .ok (.getfield 12, 3) := eX0_challenge_99.2.2.2.2.2.1
theorem dX0_challenge_109 : decode cX0_challenge 109 = .ok (.aload_n 0, 1) := eX0_challenge_99.2.2.2.2.2.2.1
theorem dX0_challenge_110 : decode cX0_challenge 110 = .ok (.getfield 39, 3) := eX0_challenge_99.2.2.2.2.2.2.2.1
theorem eX0_challenge_113 : decode cX0_challenge 113 = .ok (.invokevirtual 147, 3) ∧ decode cX0_challenge 116 = .ok (.putfield 39, 3) ∧ decode cX0_challenge 119 = .ok (.aload_n 0, 1) ∧ decode cX0_challenge 120 = .ok (.iload 4, 2) ∧ decode cX0_challenge 122 = .ok (.putfield 43, 3) ∧ decode cX0_challenge 125 = .ok (.iload_n 3, 1) ∧ decode cX0_challenge 126 = .ok (.ireturn, 1) ∧ True := dkl_ok (c := cX0_challenge) [(.invokevirtual 147, 3), (.putfield 39, 3), (.aload_n 0, 1), (.iload 4, 2), (.putfield 43, 3), (.iload_n 3, 1), (.ireturn, 1)] 113 (by decide +kernel)
theorem dX0_challenge_113 : decode cX0_challenge 113 = .ok (.invokevirtual 147, 3) := eX0_challenge_113.1
theorem dX0_challenge_116 : decode cX0_challenge 116 = .ok (.putfield 39, 3) := eX0_challenge_113.2.1
theorem dX0_challenge_119 : decode cX0_challenge 119 = .ok (.aload_n 0, 1) := eX0_challenge_113.2.2.1
theorem dX0_challenge_120 : decode cX0_challenge 120 = .ok (.iload 4, 2) := eX0_challenge_113.2.2.2.1
theorem dX0_challenge_122 : decode cX0_challenge 122 = .ok (.putfield 43, 3) := eX0_challenge_113.2.2.2.2.1
theorem dX0_challenge_125 : decode cX0_challenge 125 = .ok (.iload_n 3, 1) := eX0_challenge_113.2.2.2.2.2.1
theorem dX0_challenge_126 : decode cX0_challenge 126 = .ok (.ireturn, 1) := eX0_challenge_113.2.2.2.2.2.2.1
theorem eX0_winIfRid_0 : decode cX0_winIfRid 0 = .ok (.aload_n 0, 1) ∧ decode cX0_winIfRid 1 = .ok (.getfield 21, 3) ∧ decode cX0_winIfRid 4 = .ok (.getfield 150, 3) ∧ decode cX0_winIfRid 7 = .ok (.aload_n 0, 1) ∧ decode cX0_winIfRid 8 = .ok (.getfield 43, 3) ∧ decode cX0_winIfRid 11 = .ok (.invokevirtual 113, 3) ∧ decode cX0_winIfRid 14 = .ok (.ifCond .ne 11, 3) ∧ decode cX0_winIfRid 17 = .ok (.aload_n 0, 1) ∧ True := dkl_ok (c := cX0_winIfRid) [(.aload_n 0, 1), (.getfield 21, 3), (.getfield 150, 3), (.aload_n 0, 1), (.getfield 43, 3), (.invokevirtual 113, 3), (.ifCond .ne 11, 3), (.aload_n 0, 1)] 0 (by decide +kernel)
theorem dX0_winIfRid_0 : decode cX0_winIfRid 0 = .ok (.aload_n 0, 1) := eX0_winIfRid_0.1
theorem dX0_winIfRid_1 : decode cX0_winIfRid 1 = .ok (.getfield 21, 3) := eX0_winIfRid_0.2.1
theorem dX0_winIfRid_4 : decode cX0_winIfRid 4 = .ok (.getfield 150, 3) := eX0_winIfRid_0.2.2.1
theorem dX0_winIfRid_7 : decode cX0_winIfRid 7 = .ok (.aload_n 0, 1) := eX0_winIfRid_0.2.2.2.1
theorem dX0_winIfRid_8 : decode cX0_winIfRid 8 = .ok (.getfield 43, 3) := eX0_winIfRid_0.2.2.2.2.1
theorem dX0_winIfRid_11 : decode cX0_winIfRid 11 = .ok (.invokevirtual 113, 3) := eX0_winIfRid_0.2.2.2.2.2.1
theorem dX0_winIfRid_14 : decode cX0_winIfRid 14 = .ok (.ifCond .ne 11, 3) := eX0_winIfRid_0.2.2.2.2.2.2.1
theorem dX0_winIfRid_17 : decode cX0_winIfRid 17 = .ok (.aload_n 0, 1) := eX0_winIfRid_0.2.2.2.2.2.2.2.1
theorem eX0_winIfRid_18 : decode cX0_winIfRid 18 = .ok (.aload_n 0, 1) ∧ decode cX0_winIfRid 19 = .ok (.getfield 43, 3) ∧ decode cX0_winIfRid 22 = .ok (.putfield 46, 3) ∧ decode cX0_winIfRid 25 = .ok (.return_, 1) ∧ True := dkl_ok (c := cX0_winIfRid) [(.aload_n 0, 1), (.getfield 43, 3), (.putfield 46, 3), (.return_, 1)] 18 (by decide +kernel)
theorem dX0_winIfRid_18 : decode cX0_winIfRid 18 = .ok (.aload_n 0, 1) := eX0_winIfRid_18.1
theorem dX0_winIfRid_19 : decode cX0_winIfRid 19 = .ok (.getfield 43, 3) := eX0_winIfRid_18.2.1
theorem dX0_winIfRid_22 : decode cX0_winIfRid 22 = .ok (.putfield 46, 3) := eX0_winIfRid_18.2.2.1
theorem dX0_winIfRid_25 : decode cX0_winIfRid 25 = .ok (.return_, 1) := eX0_winIfRid_18.2.2.2.1
theorem eX0_unknownTo_0 : decode cX0_unknownTo 0 = .ok (.aload_n 0, 1) ∧ decode cX0_unknownTo 1 = .ok (.getfield 12, 3) ∧ decode cX0_unknownTo 4 = .ok (.getfield 153, 3) ∧ decode cX0_unknownTo 7 = .ok (.iload_n 2, 1) ∧ decode cX0_unknownTo 8 = .ok (.invokevirtual 113, 3) ∧ decode cX0_unknownTo 11 = .ok (.aload_n 0, 1) ∧ decode cX0_unknownTo 12 = .ok (.getfield 21, 3) ∧ decode cX0_unknownTo 15 = .ok (.iload_n 1, 1) ∧ True := dkl_ok (c := cX0_unknownTo) [(.aload_n 0, 1), (.getfield 12, 3), (.getfield 153, 3), (.iload_n 2, 1), (.invokevirtual 113, 3), (.aload_n 0, 1), (.getfield 21, 3), (.iload_n 1, 1)] 0 (by decide +kernel)
theorem dX0_unknownTo_0 : decode cX0_unknownTo 0 = .ok (.aload_n 0, 1) := eX0_unknownTo_0.1
theorem dX0_unknownTo_1 : decode cX0_unknownTo 1 = .ok (.getfield 12, 3) := eX0_unknownTo_0.2.1
theorem dX0_unknownTo_4 : decode cX0_unknownTo 4 = .ok (.getfield 153, 3) := eX0_unknownTo_0.2.2.1
theorem dX0_unknownTo_7 : decode cX0_unknownTo 7 = .ok (.iload_n 2, 1) := eX0_unknownTo_0.2.2.2.1
theorem dX0_unknownTo_8 : decode cX0_unknownTo 8 = .ok (.invokevirtual 113, 3) := eX0_unknownTo_0.2.2.2.2.1
theorem dX0_unknownTo_11 : decode cX0_unknownTo 11 = .ok (.aload_n 0, 1) := eX0_unknownTo_0.2.2.2.2.2.1
theorem dX0_unknownTo_12 : decode cX0_unknownTo 12 = .ok (.getfield 21, 3) := eX0_unknownTo_0.2.2.2.2.2.2.1
theorem dX0_unknownTo_15 : decode cX0_unknownTo 15 = .ok (.iload_n 1, 1) := eX0_unknownTo_0.2.2.2.2.2.2.2.1
theorem eX0_unknownTo_16 : decode cX0_unknownTo 16 = .ok (.iload_n 2, 1) ∧ decode cX0_unknownTo 17 = .ok (.invokevirtual 156, 3) ∧ decode cX0_unknownTo 20 = .ok (.isub, 1) ∧ decode cX0_unknownTo 21 = .ok (.ireturn, 1) ∧ True := dkl_ok (c := cX0_unknownTo) [(.iload_n 2, 1), (.invokevirtual 156, 3), (.isub, 1), (.ireturn, 1)] 16 (by decide +kernel)
theorem dX0_unknownTo_16 : decode cX0_unknownTo 16 = .ok (.iload_n 2, 1) := eX0_unknownTo_16.1
theorem dX0_unknownTo_17 : decode cX0_unknownTo 17 = .ok (.invokevirtual 156, 3) := eX0_unknownTo_16.2.1
theorem dX0_unknownTo_20 : decode cX0_unknownTo 20 = .ok (.isub, 1) := eX0_unknownTo_16.2.2.1
theorem dX0_unknownTo_21 : decode cX0_unknownTo 21 = .ok (.ireturn, 1) := eX0_unknownTo_16.2.2.2.1
theorem eX0_allUnknownTo_0 : decode cX0_allUnknownTo 0 = .ok (.iconst 0, 1) ∧ decode cX0_allUnknownTo 1 = .ok (.istore_n 2, 1) ∧ decode cX0_allUnknownTo 2 = .ok (.iconst 0, 1) ∧ decode cX0_allUnknownTo 3 = .ok (.istore_n 3, 1) ∧ decode cX0_allUnknownTo 4 = .ok (.iload_n 3, 1) ∧ decode cX0_allUnknownTo 5 = .ok (.aload_n 0, 1) ∧ decode cX0_allUnknownTo 6 = .ok (.getfield 12, 3) ∧ decode cX0_allUnknownTo 9 = .ok (.getfield 106, 3) ∧ True := dkl_ok (c := cX0_allUnknownTo) [(.iconst 0, 1), (.istore_n 2, 1), (.iconst 0, 1), (.istore_n 3, 1), (.iload_n 3, 1), (.aload_n 0, 1), (.getfield 12, 3), (.getfield 106, 3)] 0 (by decide +kernel)
theorem dX0_allUnknownTo_0 : decode cX0_allUnknownTo 0 = .ok (.iconst 0, 1) := eX0_allUnknownTo_0.1
theorem dX0_allUnknownTo_1 : decode cX0_allUnknownTo 1 = .ok (.istore_n 2, 1) := eX0_allUnknownTo_0.2.1
theorem dX0_allUnknownTo_2 : decode cX0_allUnknownTo 2 = .ok (.iconst 0, 1) := eX0_allUnknownTo_0.2.2.1
theorem dX0_allUnknownTo_3 : decode cX0_allUnknownTo 3 = .ok (.istore_n 3, 1) := eX0_allUnknownTo_0.2.2.2.1
theorem dX0_allUnknownTo_4 : decode cX0_allUnknownTo 4 = .ok (.iload_n 3, 1) := eX0_allUnknownTo_0.2.2.2.2.1
theorem dX0_allUnknownTo_5 : decode cX0_allUnknownTo 5 = .ok (.aload_n 0, 1) := eX0_allUnknownTo_0.2.2.2.2.2.1
theorem dX0_allUnknownTo_6 : decode cX0_allUnknownTo 6 = .ok (.getfield 12, 3) := eX0_allUnknownTo_0.2.2.2.2.2.2.1
theorem dX0_allUnknownTo_9 : decode cX0_allUnknownTo 9 = .ok (.getfield 106, 3) := eX0_allUnknownTo_0.2.2.2.2.2.2.2.1
theorem eX0_allUnknownTo_12 : decode cX0_allUnknownTo 12 = .ok (.if_icmp .ge 18, 3) ∧ decode cX0_allUnknownTo 15 = .ok (.iload_n 2, 1) ∧ decode cX0_allUnknownTo 16 = .ok (.aload_n 0, 1) ∧ decode cX0_allUnknownTo 17 = .ok (.iload_n 1, 1) ∧ decode cX0_allUnknownTo 18 = .ok (.iload_n 3, 1) ∧ decode cX0_allUnknownTo 19 = .ok (.invokevirtual 159, 3) ∧ decode cX0_allUnknownTo 22 = .ok (.iadd, 1) ∧ decode cX0_allUnknownTo 23 = .ok (.istore_n 2, 1) ∧ True := dkl_ok (c := cX0_allUnknownTo) [(.if_icmp .ge 18, 3), (.iload_n 2, 1), (.aload_n 0, 1), (.iload_n 1, 1), (.iload_n 3, 1), (.invokevirtual 159, 3), (.iadd, 1), (.istore_n 2, 1)] 12 (by decide +kernel)
theorem dX0_allUnknownTo_12 : decode cX0_allUnknownTo 12 = .ok (.if_icmp .ge 18, 3) := eX0_allUnknownTo_12.1
theorem dX0_allUnknownTo_15 : decode cX0_allUnknownTo 15 = .ok (.iload_n 2, 1) := eX0_allUnknownTo_12.2.1
theorem dX0_allUnknownTo_16 : decode cX0_allUnknownTo 16 = .ok (.aload_n 0, 1) := eX0_allUnknownTo_12.2.2.1
theorem dX0_allUnknownTo_17 : decode cX0_allUnknownTo 17 = .ok (.iload_n 1, 1) := eX0_allUnknownTo_12.2.2.2.1
theorem dX0_allUnknownTo_18 : decode cX0_allUnknownTo 18 = .ok (.iload_n 3, 1) := eX0_allUnknownTo_12.2.2.2.2.1
theorem dX0_allUnknownTo_19 : decode cX0_allUnknownTo 19 = .ok (.invokevirtual 159, 3) := eX0_allUnknownTo_12.2.2.2.2.2.1
theorem dX0_allUnknownTo_22 : decode cX0_allUnknownTo 22 = .ok (.iadd, 1) := eX0_allUnknownTo_12.2.2.2.2.2.2.1
theorem dX0_allUnknownTo_23 : decode cX0_allUnknownTo 23 = .ok (.istore_n 2, 1) := eX0_allUnknownTo_12.2.2.2.2.2.2.2.1
theorem eX0_allUnknownTo_24 : decode cX0_allUnknownTo 24 = .ok (.iinc 3 1, 3) ∧ decode cX0_allUnknownTo 27 = .ok (.goto (-23), 3) ∧ decode cX0_allUnknownTo 30 = .ok (.iload_n 2, 1) ∧ decode cX0_allUnknownTo 31 = .ok (.ireturn, 1) ∧ True := dkl_ok (c := cX0_allUnknownTo) [(.iinc 3 1, 3), (.goto (-23), 3), (.iload_n 2, 1), (.ireturn, 1)] 24 (by decide +kernel)
theorem dX0_allUnknownTo_24 : decode cX0_allUnknownTo 24 = .ok (.iinc 3 1, 3) := eX0_allUnknownTo_24.1
theorem dX0_allUnknownTo_27 : decode cX0_allUnknownTo 27 = .ok (.goto (-23), 3) := eX0_allUnknownTo_24.2.1
theorem dX0_allUnknownTo_30 : decode cX0_allUnknownTo 30 = .ok (.iload_n 2, 1) := eX0_allUnknownTo_24.2.2.1
theorem dX0_allUnknownTo_31 : decode cX0_allUnknownTo 31 = .ok (.ireturn, 1) := eX0_allUnknownTo_24.2.2.2.1
theorem eX0_isImpossibleFor_0 : decode cX0_isImpossibleFor 0 = .ok (.aload_n 0, 1) ∧ decode cX0_isImpossibleFor 1 = .ok (.getfield 12, 3) ∧ decode cX0_isImpossibleFor 4 = .ok (.getfield 153, 3) ∧ decode cX0_isImpossibleFor 7 = .ok (.aload_n 0, 1) ∧ decode cX0_isImpossibleFor 8 = .ok (.getfield 39, 3) ∧ decode cX0_isImpossibleFor 11 = .ok (.invokevirtual 113, 3) ∧ decode cX0_isImpossibleFor 14 = .ok (.aload_n 0, 1) ∧ decode cX0_isImpossibleFor 15 = .ok (.getfield 21, 3) ∧ True := dkl_ok (c := cX0_isImpossibleFor) [(.aload_n 0, 1), (.getfield 12, 3), (.getfield 153, 3), (.aload_n 0, 1), (.getfield 39, 3), (.invokevirtual 113, 3), (.aload_n 0, 1), (.getfield 21, 3)] 0 (by decide +kernel)
theorem dX0_isImpossibleFor_0 : decode cX0_isImpossibleFor 0 = .ok (.aload_n 0, 1) := eX0_isImpossibleFor_0.1
theorem dX0_isImpossibleFor_1 : decode cX0_isImpossibleFor 1 = .ok (.getfield 12, 3) := eX0_isImpossibleFor_0.2.1
theorem dX0_isImpossibleFor_4 : decode cX0_isImpossibleFor 4 = .ok (.getfield 153, 3) := eX0_isImpossibleFor_0.2.2.1
theorem dX0_isImpossibleFor_7 : decode cX0_isImpossibleFor 7 = .ok (.aload_n 0, 1) := eX0_isImpossibleFor_0.2.2.2.1
theorem dX0_isImpossibleFor_8 : decode cX0_isImpossibleFor 8 = .ok (.getfield 39, 3) := eX0_isImpossibleFor_0.2.2.2.2.1
theorem dX0_isImpossibleFor_11 : decode cX0_isImpossibleFor 11 = .ok (.invokevirtual 113, 3) := eX0_isImpossibleFor_0.2.2.2.2.2.1
theorem dX0_isImpossibleFor_14 : decode cX0_isImpossibleFor 14 = .ok (.aload_n 0, 1) := eX0_isImpossibleFor_0.2.2.2.2.2.2.1
theorem dX0_isImpossibleFor_15 : decode cX0_isImpossibleFor 15 = .ok (.getfield 21, 3) := eX0_isImpossibleFor_0.2.2.2.2.2.2.2.1
theorem eX0_isImpossibleFor_18 : decode cX0_isImpossibleFor 18 = .ok (.iload_n 1, 1) ∧ decode cX0_isImpossibleFor 19 = .ok (.aload_n 0, 1) ∧ decode cX0_isImpossibleFor 20 = .ok (.getfield 39, 3) ∧ decode cX0_isImpossibleFor 23 = .ok (.invokevirtual 156, 3) ∧ decode cX0_isImpossibleFor 26 = .ok (.isub, 1) ∧ decode cX0_isImpossibleFor 27 = .ok (.aload_n 0, 1) ∧ decode cX0_isImpossibleFor 28 = .ok (.getfield 28, 3) ∧ decode cX0_isImpossibleFor 31 = .ok (.invokevirtual 162, 3) ∧ True := dkl_ok (c := cX0_isImpossibleFor) [(.iload_n 1, 1), (.aload_n 0, 1), (.getfield 39, 3), (.invokevirtual 156, 3), (.isub, 1), (.aload_n 0, 1), (.getfield 28, 3), (.invokevirtual 162, 3)] 18 (by decide +kernel)
theorem dX0_isImpossibleFor_18 : decode cX0_isImpossibleFor 18 = .ok (.iload_n 1, 1) := eX0_isImpossibleFor_18.1
theorem dX0_isImpossibleFor_19 : decode cX0_isImpossibleFor 19 = .ok (.aload_n 0, 1) := eX0_isImpossibleFor_18.2.1
theorem dX0_isImpossibleFor_20 : decode cX0_isImpossibleFor 20 = .ok (.getfield 39, 3) := eX0_isImpossibleFor_18.2.2.1
theorem dX0_isImpossibleFor_23 : decode cX0_isImpossibleFor 23 = .ok (.invokevirtual 156, 3) := eX0_isImpossibleFor_18.2.2.2.1
theorem dX0_isImpossibleFor_26 : decode cX0_isImpossibleFor 26 = .ok (.isub, 1) := eX0_isImpossibleFor_18.2.2.2.2.1
theorem dX0_isImpossibleFor_27 : decode cX0_isImpossibleFor 27 = .ok (.aload_n 0, 1) := eX0_isImpossibleFor_18.2.2.2.2.2.1
theorem dX0_isImpossibleFor_28 : decode cX0_isImpossibleFor 28 = .ok (.getfield 28, 3) := eX0_isImpossibleFor_18.2.2.2.2.2.2.1
theorem dX0_isImpossibleFor_31 : decode cX0_isImpossibleFor 31 = .ok (.invokevirtual 162, 3) := eX0_isImpossibleFor_18.2.2.2.2.2.2.2.1
theorem eX0_isImpossibleFor_34 : decode cX0_isImpossibleFor 34 = .ok (.if_icmp .ge 7, 3) ∧ decode cX0_isImpossibleFor 37 = .ok (.iconst 1, 1) ∧ decode cX0_isImpossibleFor 38 = .ok (.goto 4, 3) ∧ decode cX0_isImpossibleFor 41 = .ok (.iconst 0, 1) ∧ decode cX0_isImpossibleFor 42 = .ok (.ireturn, 1) ∧ True := dkl_ok (c := cX0_isImpossibleFor) [(.if_icmp .ge 7, 3), (.iconst 1, 1), (.goto 4, 3), (.iconst 0, 1), (.ireturn, 1)] 34 (by decide +kernel)
theorem dX0_isImpossibleFor_34 : decode cX0_isImpossibleFor 34 = .ok (.if_icmp .ge 7, 3) := eX0_isImpossibleFor_34.1
theorem dX0_isImpossibleFor_37 : decode cX0_isImpossibleFor 37 = .ok (.iconst 1, 1) := eX0_isImpossibleFor_34.2.1
theorem dX0_isImpossibleFor_38 : decode cX0_isImpossibleFor 38 = .ok (.goto 4, 3) := eX0_isImpossibleFor_34.2.2.1
theorem dX0_isImpossibleFor_41 : decode cX0_isImpossibleFor 41 = .ok (.iconst 0, 1) := eX0_isImpossibleFor_34.2.2.2.1
theorem dX0_isImpossibleFor_42 : decode cX0_isImpossibleFor 42 = .ok (.ireturn, 1) := eX0_isImpossibleFor_34.2.2.2.2.1
theorem eX0_trueWays_0 : decode cX0_trueWays 0 = .ok (.aload_n 0, 1) ∧ decode cX0_trueWays 1 = .ok (.iload_n 1, 1) ∧ decode cX0_trueWays 2 = .ok (.aload_n 0, 1) ∧ decode cX0_trueWays 3 = .ok (.getfield 39, 3) ∧ decode cX0_trueWays 6 = .ok (.invokevirtual 159, 3) ∧ decode cX0_trueWays 9 = .ok (.aload_n 0, 1) ∧ decode cX0_trueWays 10 = .ok (.getfield 28, 3) ∧ decode cX0_trueWays 13 = .ok (.invokevirtual 162, 3) ∧ True := dkl_ok (c := cX0_trueWays) [(.aload_n 0, 1), (.iload_n 1, 1), (.aload_n 0, 1), (.getfield 39, 3), (.invokevirtual 159, 3), (.aload_n 0, 1), (.getfield 28, 3), (.invokevirtual 162, 3)] 0 (by decide +kernel)
theorem dX0_trueWays_0 : decode cX0_trueWays 0 = .ok (.aload_n 0, 1) := eX0_trueWays_0.1
theorem dX0_trueWays_1 : decode cX0_trueWays 1 = .ok (.iload_n 1, 1) := eX0_trueWays_0.2.1
theorem dX0_trueWays_2 : decode cX0_trueWays 2 = .ok (.aload_n 0, 1) := eX0_trueWays_0.2.2.1
theorem dX0_trueWays_3 : decode cX0_trueWays 3 = .ok (.getfield 39, 3) := eX0_trueWays_0.2.2.2.1
theorem dX0_trueWays_6 : decode cX0_trueWays 6 = .ok (.invokevirtual 159, 3) := eX0_trueWays_0.2.2.2.2.1
theorem dX0_trueWays_9 : decode cX0_trueWays 9 = .ok (.aload_n 0, 1) := eX0_trueWays_0.2.2.2.2.2.1
theorem dX0_trueWays_10 : decode cX0_trueWays 10 = .ok (.getfield 28, 3) := eX0_trueWays_0.2.2.2.2.2.2.1
theorem dX0_trueWays_13 : decode cX0_trueWays 13 = .ok (.invokevirtual 162, 3) := eX0_trueWays_0.2.2.2.2.2.2.2.1
theorem eX0_trueWays_16 : decode cX0_trueWays 16 = .ok (.invokestatic 165, 3) ∧ decode cX0_trueWays 19 = .ok (.lreturn, 1) ∧ True := dkl_ok (c := cX0_trueWays) [(.invokestatic 165, 3), (.lreturn, 1)] 16 (by decide +kernel)
theorem dX0_trueWays_16 : decode cX0_trueWays 16 = .ok (.invokestatic 165, 3) := eX0_trueWays_16.1
theorem dX0_trueWays_19 : decode cX0_trueWays 19 = .ok (.lreturn, 1) := eX0_trueWays_16.2.1
theorem eX0_allWays_0 : decode cX0_allWays 0 = .ok (.aload_n 0, 1) ∧ decode cX0_allWays 1 = .ok (.iload_n 1, 1) ∧ decode cX0_allWays 2 = .ok (.invokevirtual 169, 3) ∧ decode cX0_allWays 5 = .ok (.aload_n 0, 1) ∧ decode cX0_allWays 6 = .ok (.getfield 28, 3) ∧ decode cX0_allWays 9 = .ok (.invokevirtual 162, 3) ∧ decode cX0_allWays 12 = .ok (.invokestatic 165, 3) ∧ decode cX0_allWays 15 = .ok (.lreturn, 1) ∧ True := dkl_ok (c := cX0_allWays) [(.aload_n 0, 1), (.iload_n 1, 1), (.invokevirtual 169, 3), (.aload_n 0, 1), (.getfield 28, 3), (.invokevirtual 162, 3), (.invokestatic 165, 3), (.lreturn, 1)] 0 (by decide +kernel)
theorem dX0_allWays_0 : decode cX0_allWays 0 = .ok (.aload_n 0, 1) := eX0_allWays_0.1
theorem dX0_allWays_1 : decode cX0_allWays 1 = .ok (.iload_n 1, 1) := eX0_allWays_0.2.1
theorem dX0_allWays_2 : decode cX0_allWays 2 = .ok (.invokevirtual 169, 3) := eX0_allWays_0.2.2.1
theorem dX0_allWays_5 : decode cX0_allWays 5 = .ok (.aload_n 0, 1) := eX0_allWays_0.2.2.2.1
theorem dX0_allWays_6 : decode cX0_allWays 6 = .ok (.getfield 28, 3) := eX0_allWays_0.2.2.2.2.1
theorem dX0_allWays_9 : decode cX0_allWays 9 = .ok (.invokevirtual 162, 3) := eX0_allWays_0.2.2.2.2.2.1
theorem dX0_allWays_12 : decode cX0_allWays 12 = .ok (.invokestatic 165, 3) := eX0_allWays_0.2.2.2.2.2.2.1
theorem dX0_allWays_15 : decode cX0_allWays 15 = .ok (.lreturn, 1) := eX0_allWays_0.2.2.2.2.2.2.2.1
theorem eX0_worthTop_0 : decode cX0_worthTop 0 = .ok (.aload_n 0, 1) ∧ decode cX0_worthTop 1 = .ok (.getfield 28, 3) ∧ decode cX0_worthTop 4 = .ok (.getfield 172, 3) ∧ decode cX0_worthTop 7 = .ok (.i2l, 1) ∧ decode cX0_worthTop 8 = .ok (.aload_n 0, 1) ∧ decode cX0_worthTop 9 = .ok (.iload_n 1, 1) ∧ decode cX0_worthTop 10 = .ok (.invokevirtual 174, 3) ∧ decode cX0_worthTop 13 = .ok (.ldc2_w 178, 3) ∧ True := dkl_ok (c := cX0_worthTop) [(.aload_n 0, 1), (.getfield 28, 3), (.getfield 172, 3), (.i2l, 1), (.aload_n 0, 1), (.iload_n 1, 1), (.invokevirtual 174, 3), (.ldc2_w 178, 3)] 0 (by decide +kernel)
theorem dX0_worthTop_0 : decode cX0_worthTop 0 = .ok (.aload_n 0, 1) := eX0_worthTop_0.1
theorem dX0_worthTop_1 : decode cX0_worthTop 1 = .ok (.getfield 28, 3) := eX0_worthTop_0.2.1
theorem dX0_worthTop_4 : decode cX0_worthTop 4 = .ok (.getfield 172, 3) := eX0_worthTop_0.2.2.1
theorem dX0_worthTop_7 : decode cX0_worthTop 7 = .ok (.i2l, 1) := eX0_worthTop_0.2.2.2.1
theorem dX0_worthTop_8 : decode cX0_worthTop 8 = .ok (.aload_n 0, 1) := eX0_worthTop_0.2.2.2.2.1
theorem dX0_worthTop_9 : decode cX0_worthTop 9 = .ok (.iload_n 1, 1) := eX0_worthTop_0.2.2.2.2.2.1
theorem dX0_worthTop_10 : decode cX0_worthTop 10 = .ok (.invokevirtual 174, 3) := eX0_worthTop_0.2.2.2.2.2.2.1
theorem dX0_worthTop_13 : decode cX0_worthTop 13 = .ok (.ldc2_w 178, 3) := eX0_worthTop_0.2.2.2.2.2.2.2.1
theorem eX0_worthTop_16 : decode cX0_worthTop 16 = .ok (.aload_n 0, 1) ∧ decode cX0_worthTop 17 = .ok (.iload_n 1, 1) ∧ decode cX0_worthTop 18 = .ok (.invokevirtual 180, 3) ∧ decode cX0_worthTop 21 = .ok (.lmul, 1) ∧ decode cX0_worthTop 22 = .ok (.lsub, 1) ∧ decode cX0_worthTop 23 = .ok (.lmul, 1) ∧ decode cX0_worthTop 24 = .ok (.lreturn, 1) ∧ True := dkl_ok (c := cX0_worthTop) [(.aload_n 0, 1), (.iload_n 1, 1), (.invokevirtual 180, 3), (.lmul, 1), (.lsub, 1), (.lmul, 1), (.lreturn, 1)] 16 (by decide +kernel)
theorem dX0_worthTop_16 : decode cX0_worthTop 16 = .ok (.aload_n 0, 1) := eX0_worthTop_16.1
theorem dX0_worthTop_17 : decode cX0_worthTop 17 = .ok (.iload_n 1, 1) := eX0_worthTop_16.2.1
theorem dX0_worthTop_18 : decode cX0_worthTop 18 = .ok (.invokevirtual 180, 3) := eX0_worthTop_16.2.2.1
theorem dX0_worthTop_21 : decode cX0_worthTop 21 = .ok (.lmul, 1) := eX0_worthTop_16.2.2.2.1
theorem dX0_worthTop_22 : decode cX0_worthTop 22 = .ok (.lsub, 1) := eX0_worthTop_16.2.2.2.2.1
theorem dX0_worthTop_23 : decode cX0_worthTop 23 = .ok (.lmul, 1) := eX0_worthTop_16.2.2.2.2.2.1
theorem dX0_worthTop_24 : decode cX0_worthTop 24 = .ok (.lreturn, 1) := eX0_worthTop_16.2.2.2.2.2.2.1
theorem eX0_lyingOf_0 : decode cX0_lyingOf 0 = .ok (.iconst 0, 1) ∧ decode cX0_lyingOf 1 = .ok (.istore_n 2, 1) ∧ decode cX0_lyingOf 2 = .ok (.iconst 0, 1) ∧ decode cX0_lyingOf 3 = .ok (.istore_n 3, 1) ∧ decode cX0_lyingOf 4 = .ok (.iload_n 3, 1) ∧ decode cX0_lyingOf 5 = .ok (.aload_n 0, 1) ∧ decode cX0_lyingOf 6 = .ok (.getfield 12, 3) ∧ decode cX0_lyingOf 9 = .ok (.getfield 183, 3) ∧ True := dkl_ok (c := cX0_lyingOf) [(.iconst 0, 1), (.istore_n 2, 1), (.iconst 0, 1), (.istore_n 3, 1), (.iload_n 3, 1), (.aload_n 0, 1), (.getfield 12, 3), (.getfield 183, 3)] 0 (by decide +kernel)
theorem dX0_lyingOf_0 : decode cX0_lyingOf 0 = .ok (.iconst 0, 1) := eX0_lyingOf_0.1
theorem dX0_lyingOf_1 : decode cX0_lyingOf 1 = .ok (.istore_n 2, 1) := eX0_lyingOf_0.2.1
theorem dX0_lyingOf_2 : decode cX0_lyingOf 2 = .ok (.iconst 0, 1) := eX0_lyingOf_0.2.2.1
theorem dX0_lyingOf_3 : decode cX0_lyingOf 3 = .ok (.istore_n 3, 1) := eX0_lyingOf_0.2.2.2.1
theorem dX0_lyingOf_4 : decode cX0_lyingOf 4 = .ok (.iload_n 3, 1) := eX0_lyingOf_0.2.2.2.2.1
theorem dX0_lyingOf_5 : decode cX0_lyingOf 5 = .ok (.aload_n 0, 1) := eX0_lyingOf_0.2.2.2.2.2.1
theorem dX0_lyingOf_6 : decode cX0_lyingOf 6 = .ok (.getfield 12, 3) := eX0_lyingOf_0.2.2.2.2.2.2.1
theorem dX0_lyingOf_9 : decode cX0_lyingOf 9 = .ok (.getfield 183, 3) := eX0_lyingOf_0.2.2.2.2.2.2.2.1
theorem eX0_lyingOf_12 : decode cX0_lyingOf 12 = .ok (.if_icmp .ge 21, 3) ∧ decode cX0_lyingOf 15 = .ok (.iload_n 2, 1) ∧ decode cX0_lyingOf 16 = .ok (.aload_n 0, 1) ∧ decode cX0_lyingOf 17 = .ok (.getfield 21, 3) ∧ decode cX0_lyingOf 20 = .ok (.iload_n 3, 1) ∧ decode cX0_lyingOf 21 = .ok (.iload_n 1, 1) ∧ decode cX0_lyingOf 22 = .ok (.invokevirtual 186, 3) ∧ decode cX0_lyingOf 25 = .ok (.iadd, 1) ∧ True := dkl_ok (c := cX0_lyingOf) [(.if_icmp .ge 21, 3), (.iload_n 2, 1), (.aload_n 0, 1), (.getfield 21, 3), (.iload_n 3, 1), (.iload_n 1, 1), (.invokevirtual 186, 3), (.iadd, 1)] 12 (by decide +kernel)
theorem dX0_lyingOf_12 : decode cX0_lyingOf 12 = .ok (.if_icmp .ge 21, 3) := eX0_lyingOf_12.1
theorem dX0_lyingOf_15 : decode cX0_lyingOf 15 = .ok (.iload_n 2, 1) := eX0_lyingOf_12.2.1
theorem dX0_lyingOf_16 : decode cX0_lyingOf 16 = .ok (.aload_n 0, 1) := eX0_lyingOf_12.2.2.1
theorem dX0_lyingOf_17 : decode cX0_lyingOf 17 = .ok (.getfield 21, 3) := eX0_lyingOf_12.2.2.2.1
theorem dX0_lyingOf_20 : decode cX0_lyingOf 20 = .ok (.iload_n 3, 1) := eX0_lyingOf_12.2.2.2.2.1
theorem dX0_lyingOf_21 : decode cX0_lyingOf 21 = .ok (.iload_n 1, 1) := eX0_lyingOf_12.2.2.2.2.2.1
theorem dX0_lyingOf_22 : decode cX0_lyingOf 22 = .ok (.invokevirtual 186, 3) := eX0_lyingOf_12.2.2.2.2.2.2.1
theorem dX0_lyingOf_25 : decode cX0_lyingOf 25 = .ok (.iadd, 1) := eX0_lyingOf_12.2.2.2.2.2.2.2.1
theorem eX0_lyingOf_26 : decode cX0_lyingOf 26 = .ok (.istore_n 2, 1) ∧ decode cX0_lyingOf 27 = .ok (.iinc 3 1, 3) ∧ decode cX0_lyingOf 30 = .ok (.goto (-26), 3) ∧ decode cX0_lyingOf 33 = .ok (.iload_n 2, 1) ∧ decode cX0_lyingOf 34 = .ok (.ireturn, 1) ∧ True := dkl_ok (c := cX0_lyingOf) [(.istore_n 2, 1), (.iinc 3 1, 3), (.goto (-26), 3), (.iload_n 2, 1), (.ireturn, 1)] 26 (by decide +kernel)
theorem dX0_lyingOf_26 : decode cX0_lyingOf 26 = .ok (.istore_n 2, 1) := eX0_lyingOf_26.1
theorem dX0_lyingOf_27 : decode cX0_lyingOf 27 = .ok (.iinc 3 1, 3) := eX0_lyingOf_26.2.1
theorem dX0_lyingOf_30 : decode cX0_lyingOf 30 = .ok (.goto (-26), 3) := eX0_lyingOf_26.2.2.1
theorem dX0_lyingOf_33 : decode cX0_lyingOf 33 = .ok (.iload_n 2, 1) := eX0_lyingOf_26.2.2.2.1
theorem dX0_lyingOf_34 : decode cX0_lyingOf 34 = .ok (.ireturn, 1) := eX0_lyingOf_26.2.2.2.2.1
theorem eX0_turnsAhead_0 : decode cX0_turnsAhead 0 = .ok (.aload_n 0, 1) ∧ decode cX0_turnsAhead 1 = .ok (.getfield 12, 3) ∧ decode cX0_turnsAhead 4 = .ok (.iload_n 1, 1) ∧ decode cX0_turnsAhead 5 = .ok (.aload_n 0, 1) ∧ decode cX0_turnsAhead 6 = .ok (.getfield 43, 3) ∧ decode cX0_turnsAhead 9 = .ok (.isub, 1) ∧ decode cX0_turnsAhead 10 = .ok (.iconst 0, 1) ∧ decode cX0_turnsAhead 11 = .ok (.invokevirtual 131, 3) ∧ True := dkl_ok (c := cX0_turnsAhead) [(.aload_n 0, 1), (.getfield 12, 3), (.iload_n 1, 1), (.aload_n 0, 1), (.getfield 43, 3), (.isub, 1), (.iconst 0, 1), (.invokevirtual 131, 3)] 0 (by decide +kernel)
theorem dX0_turnsAhead_0 : decode cX0_turnsAhead 0 = .ok (.aload_n 0, 1) := eX0_turnsAhead_0.1
theorem dX0_turnsAhead_1 : decode cX0_turnsAhead 1 = .ok (.getfield 12, 3) := eX0_turnsAhead_0.2.1
theorem dX0_turnsAhead_4 : decode cX0_turnsAhead 4 = .ok (.iload_n 1, 1) := eX0_turnsAhead_0.2.2.1
theorem dX0_turnsAhead_5 : decode cX0_turnsAhead 5 = .ok (.aload_n 0, 1) := eX0_turnsAhead_0.2.2.2.1
theorem dX0_turnsAhead_6 : decode cX0_turnsAhead 6 = .ok (.getfield 43, 3) := eX0_turnsAhead_0.2.2.2.2.1
theorem dX0_turnsAhead_9 : decode cX0_turnsAhead 9 = .ok (.isub, 1) := eX0_turnsAhead_0.2.2.2.2.2.1
theorem dX0_turnsAhead_10 : decode cX0_turnsAhead 10 = .ok (.iconst 0, 1) := eX0_turnsAhead_0.2.2.2.2.2.2.1
theorem dX0_turnsAhead_11 : decode cX0_turnsAhead 11 = .ok (.invokevirtual 131, 3) := eX0_turnsAhead_0.2.2.2.2.2.2.2.1
theorem eX0_turnsAhead_14 : decode cX0_turnsAhead 14 = .ok (.istore_n 2, 1) ∧ decode cX0_turnsAhead 15 = .ok (.iload_n 2, 1) ∧ decode cX0_turnsAhead 16 = .ok (.ifCond .ne 20, 3) ∧ decode cX0_turnsAhead 19 = .ok (.aload_n 0, 1) ∧ decode cX0_turnsAhead 20 = .ok (.getfield 49, 3) ∧ decode cX0_turnsAhead 23 = .ok (.ifCond .eq 13, 3) ∧ decode cX0_turnsAhead 26 = .ok (.aload_n 0, 1) ∧ decode cX0_turnsAhead 27 = .ok (.getfield 12, 3) ∧ True := dkl_ok (c := cX0_turnsAhead) [(.istore_n 2, 1), (.iload_n 2, 1), (.ifCond .ne 20, 3), (.aload_n 0, 1), (.getfield 49, 3), (.ifCond .eq 13, 3), (.aload_n 0, 1), (.getfield 12, 3)] 14 (by decide +kernel)
theorem dX0_turnsAhead_14 : decode cX0_turnsAhead 14 = .ok (.istore_n 2, 1) := eX0_turnsAhead_14.1
theorem dX0_turnsAhead_15 : decode cX0_turnsAhead 15 = .ok (.iload_n 2, 1) := eX0_turnsAhead_14.2.1
theorem dX0_turnsAhead_16 : decode cX0_turnsAhead 16 = .ok (.ifCond .ne 20, 3) := eX0_turnsAhead_14.2.2.1
theorem dX0_turnsAhead_19 : decode cX0_turnsAhead 19 = .ok (.aload_n 0, 1) := eX0_turnsAhead_14.2.2.2.1
theorem dX0_turnsAhead_20 : decode cX0_turnsAhead 20 = .ok (.getfield 49, 3) := eX0_turnsAhead_14.2.2.2.2.1
theorem dX0_turnsAhead_23 : decode cX0_turnsAhead 23 = .ok (.ifCond .eq 13, 3) := eX0_turnsAhead_14.2.2.2.2.2.1
theorem dX0_turnsAhead_26 : decode cX0_turnsAhead 26 = .ok (.aload_n 0, 1) := eX0_turnsAhead_14.2.2.2.2.2.2.1
theorem dX0_turnsAhead_27 : decode cX0_turnsAhead 27 = .ok (.getfield 12, 3) := eX0_turnsAhead_14.2.2.2.2.2.2.2.1
theorem eX0_turnsAhead_30 : decode cX0_turnsAhead 30 = .ok (.getfield 183, 3) ∧ decode cX0_turnsAhead 33 = .ok (.goto 4, 3) ∧ decode cX0_turnsAhead 36 = .ok (.iload_n 2, 1) ∧ decode cX0_turnsAhead 37 = .ok (.ireturn, 1) ∧ True := dkl_ok (c := cX0_turnsAhead) [(.getfield 183, 3), (.goto 4, 3), (.iload_n 2, 1), (.ireturn, 1)] 30 (by decide +kernel)
theorem dX0_turnsAhead_30 : decode cX0_turnsAhead 30 = .ok (.getfield 183, 3) := eX0_turnsAhead_30.1
theorem dX0_turnsAhead_33 : decode cX0_turnsAhead 33 = .ok (.goto 4, 3) := eX0_turnsAhead_30.2.1
theorem dX0_turnsAhead_36 : decode cX0_turnsAhead 36 = .ok (.iload_n 2, 1) := eX0_turnsAhead_30.2.2.1
theorem dX0_turnsAhead_37 : decode cX0_turnsAhead 37 = .ok (.ireturn, 1) := eX0_turnsAhead_30.2.2.2.1
theorem eX0_fallingKind_0 : decode cX0_fallingKind 0 = .ok (.aload_n 0, 1) ∧ decode cX0_fallingKind 1 = .ok (.getfield 12, 3) ∧ decode cX0_fallingKind 4 = .ok (.aload_n 0, 1) ∧ decode cX0_fallingKind 5 = .ok (.getfield 39, 3) ∧ decode cX0_fallingKind 8 = .ok (.aload_n 0, 1) ∧ decode cX0_fallingKind 9 = .ok (.iload_n 1, 1) ∧ decode cX0_fallingKind 10 = .ok (.invokevirtual 189, 3) ∧ decode cX0_fallingKind 13 = .ok (.iload_n 2, 1) ∧ True := dkl_ok (c := cX0_fallingKind) [(.aload_n 0, 1), (.getfield 12, 3), (.aload_n 0, 1), (.getfield 39, 3), (.aload_n 0, 1), (.iload_n 1, 1), (.invokevirtual 189, 3), (.iload_n 2, 1)] 0 (by decide +kernel)
theorem dX0_fallingKind_0 : decode cX0_fallingKind 0 = .ok (.aload_n 0, 1) := eX0_fallingKind_0.1
theorem dX0_fallingKind_1 : decode cX0_fallingKind 1 = .ok (.getfield 12, 3) := eX0_fallingKind_0.2.1
theorem dX0_fallingKind_4 : decode cX0_fallingKind 4 = .ok (.aload_n 0, 1) := eX0_fallingKind_0.2.2.1
theorem dX0_fallingKind_5 : decode cX0_fallingKind 5 = .ok (.getfield 39, 3) := eX0_fallingKind_0.2.2.2.1
theorem dX0_fallingKind_8 : decode cX0_fallingKind 8 = .ok (.aload_n 0, 1) := eX0_fallingKind_0.2.2.2.2.1
theorem dX0_fallingKind_9 : decode cX0_fallingKind 9 = .ok (.iload_n 1, 1) := eX0_fallingKind_0.2.2.2.2.2.1
theorem dX0_fallingKind_10 : decode cX0_fallingKind 10 = .ok (.invokevirtual 189, 3) := eX0_fallingKind_0.2.2.2.2.2.2.1
theorem dX0_fallingKind_13 : decode cX0_fallingKind 13 = .ok (.iload_n 2, 1) := eX0_fallingKind_0.2.2.2.2.2.2.2.1
theorem eX0_fallingKind_14 : decode cX0_fallingKind 14 = .ok (.aload_n 0, 1) ∧ decode cX0_fallingKind 15 = .ok (.getfield 12, 3) ∧ decode cX0_fallingKind 18 = .ok (.getfield 183, 3) ∧ decode cX0_fallingKind 21 = .ok (.imul, 1) ∧ decode cX0_fallingKind 22 = .ok (.iadd, 1) ∧ decode cX0_fallingKind 23 = .ok (.invokevirtual 128, 3) ∧ decode cX0_fallingKind 26 = .ok (.ireturn, 1) ∧ True := dkl_ok (c := cX0_fallingKind) [(.aload_n 0, 1), (.getfield 12, 3), (.getfield 183, 3), (.imul, 1), (.iadd, 1), (.invokevirtual 128, 3), (.ireturn, 1)] 14 (by decide +kernel)
theorem dX0_fallingKind_14 : decode cX0_fallingKind 14 = .ok (.aload_n 0, 1) := eX0_fallingKind_14.1
theorem dX0_fallingKind_15 : decode cX0_fallingKind 15 = .ok (.getfield 12, 3) := eX0_fallingKind_14.2.1
theorem dX0_fallingKind_18 : decode cX0_fallingKind 18 = .ok (.getfield 183, 3) := eX0_fallingKind_14.2.2.1
theorem dX0_fallingKind_21 : decode cX0_fallingKind 21 = .ok (.imul, 1) := eX0_fallingKind_14.2.2.2.1
theorem dX0_fallingKind_22 : decode cX0_fallingKind 22 = .ok (.iadd, 1) := eX0_fallingKind_14.2.2.2.2.1
theorem dX0_fallingKind_23 : decode cX0_fallingKind 23 = .ok (.invokevirtual 128, 3) := eX0_fallingKind_14.2.2.2.2.2.1
theorem dX0_fallingKind_26 : decode cX0_fallingKind 26 = .ok (.ireturn, 1) := eX0_fallingKind_14.2.2.2.2.2.2.1
theorem eX0_foresee_0 : decode cX0_foresee 0 = .ok (.aload_n 0, 1) ∧ decode cX0_foresee 1 = .ok (.getfield 21, 3) ∧ decode cX0_foresee 4 = .ok (.getfield 150, 3) ∧ decode cX0_foresee 7 = .ok (.iload_n 1, 1) ∧ decode cX0_foresee 8 = .ok (.invokevirtual 113, 3) ∧ decode cX0_foresee 11 = .ok (.istore_n 3, 1) ∧ decode cX0_foresee 12 = .ok (.iconst 0, 1) ∧ decode cX0_foresee 13 = .ok (.istore 4, 2) ∧ True := dkl_ok (c := cX0_foresee) [(.aload_n 0, 1), (.getfield 21, 3), (.getfield 150, 3), (.iload_n 1, 1), (.invokevirtual 113, 3), (.istore_n 3, 1), (.iconst 0, 1), (.istore 4, 2)] 0 (by decide +kernel)
theorem dX0_foresee_0 : decode cX0_foresee 0 = .ok (.aload_n 0, 1) := eX0_foresee_0.1
theorem dX0_foresee_1 : decode cX0_foresee 1 = .ok (.getfield 21, 3) := eX0_foresee_0.2.1
theorem dX0_foresee_4 : decode cX0_foresee 4 = .ok (.getfield 150, 3) := eX0_foresee_0.2.2.1
theorem dX0_foresee_7 : decode cX0_foresee 7 = .ok (.iload_n 1, 1) := eX0_foresee_0.2.2.2.1
theorem dX0_foresee_8 : decode cX0_foresee 8 = .ok (.invokevirtual 113, 3) := eX0_foresee_0.2.2.2.2.1
theorem dX0_foresee_11 : decode cX0_foresee 11 = .ok (.istore_n 3, 1) := eX0_foresee_0.2.2.2.2.2.1
theorem dX0_foresee_12 : decode cX0_foresee 12 = .ok (.iconst 0, 1) := eX0_foresee_0.2.2.2.2.2.2.1
theorem dX0_foresee_13 : decode cX0_foresee 13 = .ok (.istore 4, 2) := eX0_foresee_0.2.2.2.2.2.2.2.1
theorem eX0_foresee_15 : decode cX0_foresee 15 = .ok (.iload 4, 2) ∧ decode cX0_foresee 17 = .ok (.aload_n 0, 1) ∧ decode cX0_foresee 18 = .ok (.getfield 12, 3) ∧ decode cX0_foresee 21 = .ok (.getfield 106, 3) ∧ decode cX0_foresee 24 = .ok (.if_icmp .ge 28, 3) ∧ decode cX0_foresee 27 = .ok (.aload_n 0, 1) ∧ decode cX0_foresee 28 = .ok (.getfield 65, 3) ∧ decode cX0_foresee 31 = .ok (.iload 4, 2) ∧ True := dkl_ok (c := cX0_foresee) [(.iload 4, 2), (.aload_n 0, 1), (.getfield 12, 3), (.getfield 106, 3), (.if_icmp .ge 28, 3), (.aload_n 0, 1), (.getfield 65, 3), (.iload 4, 2)] 15 (by decide +kernel)
theorem dX0_foresee_15 : decode cX0_foresee 15 = .ok (.iload 4, 2) := eX0_foresee_15.1
theorem dX0_foresee_17 : decode cX0_foresee 17 = .ok (.aload_n 0, 1) := eX0_foresee_15.2.1
theorem dX0_foresee_18 : decode cX0_foresee 18 = .ok (.getfield 12, 3) := eX0_foresee_15.2.2.1
theorem dX0_foresee_21 : decode cX0_foresee 21 = .ok (.getfield 106, 3) := eX0_foresee_15.2.2.2.1
theorem dX0_foresee_24 : decode cX0_foresee 24 = .ok (.if_icmp .ge 28, 3) := eX0_foresee_15.2.2.2.2.1
theorem dX0_foresee_27 : decode cX0_foresee 27 = .ok (.aload_n 0, 1) := eX0_foresee_15.2.2.2.2.2.1
theorem dX0_foresee_28 : decode cX0_foresee 28 = .ok (.getfield 65, 3) := eX0_foresee_15.2.2.2.2.2.2.1
theorem dX0_foresee_31 : decode cX0_foresee 31 = .ok (.iload 4, 2) := eX0_foresee_15.2.2.2.2.2.2.2.1
theorem eX0_foresee_33 : decode cX0_foresee 33 = .ok (.aload_n 0, 1) ∧ decode cX0_foresee 34 = .ok (.getfield 21, 3) ∧ decode cX0_foresee 37 = .ok (.iload_n 1, 1) ∧ decode cX0_foresee 38 = .ok (.iload 4, 2) ∧ decode cX0_foresee 40 = .ok (.invokevirtual 109, 3) ∧ decode cX0_foresee 43 = .ok (.invokevirtual 192, 3) ∧ decode cX0_foresee 46 = .ok (.iinc 4 1, 3) ∧ decode cX0_foresee 49 = .ok (.goto (-34), 3) ∧ True := dkl_ok (c := cX0_foresee) [(.aload_n 0, 1), (.getfield 21, 3), (.iload_n 1, 1), (.iload 4, 2), (.invokevirtual 109, 3), (.invokevirtual 192, 3), (.iinc 4 1, 3), (.goto (-34), 3)] 33 (by decide +kernel)
theorem dX0_foresee_33 : decode cX0_foresee 33 = .ok (.aload_n 0, 1) := eX0_foresee_33.1
theorem dX0_foresee_34 : decode cX0_foresee 34 = .ok (.getfield 21, 3) := eX0_foresee_33.2.1
theorem dX0_foresee_37 : decode cX0_foresee 37 = .ok (.iload_n 1, 1) := eX0_foresee_33.2.2.1
theorem dX0_foresee_38 : decode cX0_foresee 38 = .ok (.iload 4, 2) := eX0_foresee_33.2.2.2.1
theorem dX0_foresee_40 : decode cX0_foresee 40 = .ok (.invokevirtual 109, 3) := eX0_foresee_33.2.2.2.2.1
theorem dX0_foresee_43 : decode cX0_foresee 43 = .ok (.invokevirtual 192, 3) := eX0_foresee_33.2.2.2.2.2.1
theorem dX0_foresee_46 : decode cX0_foresee 46 = .ok (.iinc 4 1, 3) := eX0_foresee_33.2.2.2.2.2.2.1
theorem dX0_foresee_49 : decode cX0_foresee 49 = .ok (.goto (-34), 3) := eX0_foresee_33.2.2.2.2.2.2.2.1
theorem eX0_foresee_52 : decode cX0_foresee 52 = .ok (.aload_n 0, 1) ∧ decode cX0_foresee 53 = .ok (.iconst 0, 1) ∧ decode cX0_foresee 54 = .ok (.putfield 68, 3) ∧ decode cX0_foresee 57 = .ok (.aload_n 0, 1) ∧ decode cX0_foresee 58 = .ok (.iload_n 3, 1) ∧ decode cX0_foresee 59 = .ok (.ifCond .ne 7, 3) ∧ decode cX0_foresee 62 = .ok (.iconst 0, 1) ∧ decode cX0_foresee 63 = .ok (.goto 4, 3) ∧ True := dkl_ok (c := cX0_foresee) [(.aload_n 0, 1), (.iconst 0, 1), (.putfield 68, 3), (.aload_n 0, 1), (.iload_n 3, 1), (.ifCond .ne 7, 3), (.iconst 0, 1), (.goto 4, 3)] 52 (by decide +kernel)
theorem dX0_foresee_52 : decode cX0_foresee 52 = .ok (.aload_n 0, 1) := eX0_foresee_52.1
theorem dX0_foresee_53 : decode cX0_foresee 53 = .ok (.iconst 0, 1) := eX0_foresee_52.2.1
theorem dX0_foresee_54 : decode cX0_foresee 54 = .ok (.putfield 68, 3) := eX0_foresee_52.2.2.1
theorem dX0_foresee_57 : decode cX0_foresee 57 = .ok (.aload_n 0, 1) := eX0_foresee_52.2.2.2.1
theorem dX0_foresee_58 : decode cX0_foresee 58 = .ok (.iload_n 3, 1) := eX0_foresee_52.2.2.2.2.1
theorem dX0_foresee_59 : decode cX0_foresee 59 = .ok (.ifCond .ne 7, 3) := eX0_foresee_52.2.2.2.2.2.1
theorem dX0_foresee_62 : decode cX0_foresee 62 = .ok (.iconst 0, 1) := eX0_foresee_52.2.2.2.2.2.2.1
theorem dX0_foresee_63 : decode cX0_foresee 63 = .ok (.goto 4, 3) := eX0_foresee_52.2.2.2.2.2.2.2.1
theorem eX0_foresee_66 : decode cX0_foresee 66 = .ok (.iconst (-1), 1) ∧ decode cX0_foresee 67 = .ok (.putfield 71, 3) ∧ decode cX0_foresee 70 = .ok (.aload_n 0, 1) ∧ decode cX0_foresee 71 = .ok (.iconst (-1), 1) ∧ decode cX0_foresee 72 = .ok (.putfield 74, 3) ∧ decode cX0_foresee 75 = .ok (.aload_n 0, 1) ∧ decode cX0_foresee 76 = .ok (.iconst (-1), 1) ∧ decode cX0_foresee 77 = .ok (.putfield 77, 3) ∧ True := dkl_ok (c := cX0_foresee) [(.iconst (-1), 1), (.putfield 71, 3), (.aload_n 0, 1), (.iconst (-1), 1), (.putfield 74, 3), (.aload_n 0, 1), (.iconst (-1), 1), (.putfield 77, 3)] 66 (by decide +kernel)
theorem dX0_foresee_66 : decode cX0_foresee 66 = .ok (.iconst (-1), 1) := eX0_foresee_66.1
theorem dX0_foresee_67 : decode cX0_foresee 67 = .ok (.putfield 71, 3) := eX0_foresee_66.2.1
theorem dX0_foresee_70 : decode cX0_foresee 70 = .ok (.aload_n 0, 1) := eX0_foresee_66.2.2.1
theorem dX0_foresee_71 : decode cX0_foresee 71 = .ok (.iconst (-1), 1) := eX0_foresee_66.2.2.2.1
theorem dX0_foresee_72 : decode cX0_foresee 72 = .ok (.putfield 74, 3) := eX0_foresee_66.2.2.2.2.1
theorem dX0_foresee_75 : decode cX0_foresee 75 = .ok (.aload_n 0, 1) := eX0_foresee_66.2.2.2.2.2.1
theorem dX0_foresee_76 : decode cX0_foresee 76 = .ok (.iconst (-1), 1) := eX0_foresee_66.2.2.2.2.2.2.1
theorem dX0_foresee_77 : decode cX0_foresee 77 = .ok (.putfield 77, 3) := eX0_foresee_66.2.2.2.2.2.2.2.1
theorem eX0_foresee_80 : decode cX0_foresee 80 = .ok (.iconst 0, 1) ∧ decode cX0_foresee 81 = .ok (.istore 4, 2) ∧ decode cX0_foresee 83 = .ok (.iload 4, 2) ∧ decode cX0_foresee 85 = .ok (.iload_n 2, 1) ∧ decode cX0_foresee 86 = .ok (.if_icmp .ge 114, 3) ∧ decode cX0_foresee 89 = .ok (.aload_n 0, 1) ∧ decode cX0_foresee 90 = .ok (.getfield 71, 3) ∧ decode cX0_foresee 93 = .ok (.iconst (-1), 1) ∧ True := dkl_ok (c := cX0_foresee) [(.iconst 0, 1), (.istore 4, 2), (.iload 4, 2), (.iload_n 2, 1), (.if_icmp .ge 114, 3), (.aload_n 0, 1), (.getfield 71, 3), (.iconst (-1), 1)] 80 (by decide +kernel)
theorem dX0_foresee_80 : decode cX0_foresee 80 = .ok (.iconst 0, 1) := eX0_foresee_80.1
theorem dX0_foresee_81 : decode cX0_foresee 81 = .ok (.istore 4, 2) := eX0_foresee_80.2.1
theorem dX0_foresee_83 : decode cX0_foresee 83 = .ok (.iload 4, 2) := eX0_foresee_80.2.2.1
theorem dX0_foresee_85 : decode cX0_foresee 85 = .ok (.iload_n 2, 1) := eX0_foresee_80.2.2.2.1
theorem dX0_foresee_86 : decode cX0_foresee 86 = .ok (.if_icmp .ge 114, 3) := eX0_foresee_80.2.2.2.2.1
theorem dX0_foresee_89 : decode cX0_foresee 89 = .ok (.aload_n 0, 1) := eX0_foresee_80.2.2.2.2.2.1
theorem dX0_foresee_90 : decode cX0_foresee 90 = .ok (.getfield 71, 3) := eX0_foresee_80.2.2.2.2.2.2.1
theorem dX0_foresee_93 : decode cX0_foresee 93 = .ok (.iconst (-1), 1) := eX0_foresee_80.2.2.2.2.2.2.2.1
theorem eX0_foresee_94 : decode cX0_foresee 94 = .ok (.if_icmp .ne 106, 3) ∧ decode cX0_foresee 97 = .ok (.aload_n 0, 1) ∧ decode cX0_foresee 98 = .ok (.iload_n 1, 1) ∧ decode cX0_foresee 99 = .ok (.iload 4, 2) ∧ decode cX0_foresee 101 = .ok (.invokevirtual 195, 3) ∧ decode cX0_foresee 104 = .ok (.istore 5, 2) ∧ decode cX0_foresee 106 = .ok (.aload_n 0, 1) ∧ decode cX0_foresee 107 = .ok (.getfield 65, 3) ∧ True := dkl_ok (c := cX0_foresee) [(.if_icmp .ne 106, 3), (.aload_n 0, 1), (.iload_n 1, 1), (.iload 4, 2), (.invokevirtual 195, 3), (.istore 5, 2), (.aload_n 0, 1), (.getfield 65, 3)] 94 (by decide +kernel)
theorem dX0_foresee_94 : decode cX0_foresee 94 = .ok (.if_icmp .ne 106, 3) := eX0_foresee_94.1
theorem dX0_foresee_97 : decode cX0_foresee 97 = .ok (.aload_n 0, 1) := eX0_foresee_94.2.1
theorem dX0_foresee_98 : decode cX0_foresee 98 = .ok (.iload_n 1, 1) := eX0_foresee_94.2.2.1
theorem dX0_foresee_99 : decode cX0_foresee 99 = .ok (.iload 4, 2) := eX0_foresee_94.2.2.2.1
theorem dX0_foresee_101 : decode cX0_foresee 101 = .ok (.invokevirtual 195, 3) := eX0_foresee_94.2.2.2.2.1
theorem dX0_foresee_104 : decode cX0_foresee 104 = .ok (.istore 5, 2) := eX0_foresee_94.2.2.2.2.2.1
theorem dX0_foresee_106 : decode cX0_foresee 106 = .ok (.aload_n 0, 1) := eX0_foresee_94.2.2.2.2.2.2.1
theorem dX0_foresee_107 : decode cX0_foresee 107 = .ok (.getfield 65, 3) := eX0_foresee_94.2.2.2.2.2.2.2.1
theorem eX0_foresee_110 : decode cX0_foresee 110 = .ok (.iload 5, 2) ∧ decode cX0_foresee 112 = .ok (.invokevirtual 113, 3) ∧ decode cX0_foresee 115 = .ok (.aload_n 0, 1) ∧ decode cX0_foresee 116 = .ok (.getfield 12, 3) ∧ decode cX0_foresee 119 = .ok (.getfield 198, 3) ∧ decode cX0_foresee 122 = .ok (.invokestatic 201, 3) ∧ decode cX0_foresee 125 = .ok (.istore 6, 2) ∧ decode cX0_foresee 127 = .ok (.aload_n 0, 1) ∧ True := dkl_ok (c := cX0_foresee) [(.iload 5, 2), (.invokevirtual 113, 3), (.aload_n 0, 1), (.getfield 12, 3), (.getfield 198, 3), (.invokestatic 201, 3), (.istore 6, 2), (.aload_n 0, 1)] 110 (by decide +kernel)
theorem dX0_foresee_110 : decode cX0_foresee 110 = .ok (.iload 5, 2) := eX0_foresee_110.1
theorem dX0_foresee_112 : decode cX0_foresee 112 = .ok (.invokevirtual 113, 3) := eX0_foresee_110.2.1
theorem dX0_foresee_115 : decode cX0_foresee 115 = .ok (.aload_n 0, 1) := eX0_foresee_110.2.2.1
theorem dX0_foresee_116 : decode cX0_foresee 116 = .ok (.getfield 12, 3) := eX0_foresee_110.2.2.2.1
theorem dX0_foresee_119 : decode cX0_foresee 119 = .ok (.getfield 198, 3) := eX0_foresee_110.2.2.2.2.1
theorem dX0_foresee_122 : decode cX0_foresee 122 = .ok (.invokestatic 201, 3) := eX0_foresee_110.2.2.2.2.2.1
theorem dX0_foresee_125 : decode cX0_foresee 125 = .ok (.istore 6, 2) := eX0_foresee_110.2.2.2.2.2.2.1
theorem dX0_foresee_127 : decode cX0_foresee 127 = .ok (.aload_n 0, 1) := eX0_foresee_110.2.2.2.2.2.2.2.1
theorem eX0_foresee_128 : decode cX0_foresee 128 = .ok (.getfield 65, 3) ∧ decode cX0_foresee 131 = .ok (.iload 5, 2) ∧ decode cX0_foresee 133 = .ok (.iload 6, 2) ∧ decode cX0_foresee 135 = .ok (.ineg, 1) ∧ decode cX0_foresee 136 = .ok (.invokevirtual 102, 3) ∧ decode cX0_foresee 139 = .ok (.aload_n 0, 1) ∧ decode cX0_foresee 140 = .ok (.dup, 1) ∧ decode cX0_foresee 141 = .ok (.getfield 68, 3) ∧ True := dkl_ok (c := cX0_foresee) [(.getfield 65, 3), (.iload 5, 2), (.iload 6, 2), (.ineg, 1), (.invokevirtual 102, 3), (.aload_n 0, 1), (.dup, 1), (.getfield 68, 3)] 128 (by decide +kernel)
theorem dX0_foresee_128 : decode cX0_foresee 128 = .ok (.getfield 65, 3) := eX0_foresee_128.1
theorem dX0_foresee_131 : decode cX0_foresee 131 = .ok (.iload 5, 2) := eX0_foresee_128.2.1
theorem dX0_foresee_133 : decode cX0_foresee 133 = .ok (.iload 6, 2) := eX0_foresee_128.2.2.1
theorem dX0_foresee_135 : decode cX0_foresee 135 = .ok (.ineg, 1) := eX0_foresee_128.2.2.2.1
theorem dX0_foresee_136 : decode cX0_foresee 136 = .ok (.invokevirtual 102, 3) := eX0_foresee_128.2.2.2.2.1
theorem dX0_foresee_139 : decode cX0_foresee 139 = .ok (.aload_n 0, 1) := eX0_foresee_128.2.2.2.2.2.1
theorem dX0_foresee_140 : decode cX0_foresee 140 = .ok (.dup, 1) := eX0_foresee_128.2.2.2.2.2.2.1
theorem dX0_foresee_141 : decode cX0_foresee 141 = .ok (.getfield 68, 3) := eX0_foresee_128.2.2.2.2.2.2.2.1
theorem eX0_foresee_144 : decode cX0_foresee 144 = .ok (.iload 6, 2) ∧ decode cX0_foresee 146 = .ok (.iadd, 1) ∧ decode cX0_foresee 147 = .ok (.putfield 68, 3) ∧ decode cX0_foresee 150 = .ok (.iload 6, 2) ∧ decode cX0_foresee 152 = .ok (.ifCond .le 12, 3) ∧ decode cX0_foresee 155 = .ok (.aload_n 0, 1) ∧ decode cX0_foresee 156 = .ok (.iload 5, 2) ∧ decode cX0_foresee 158 = .ok (.putfield 74, 3) ∧ True := dkl_ok (c := cX0_foresee) [(.iload 6, 2), (.iadd, 1), (.putfield 68, 3), (.iload 6, 2), (.ifCond .le 12, 3), (.aload_n 0, 1), (.iload 5, 2), (.putfield 74, 3)] 144 (by decide +kernel)
theorem dX0_foresee_144 : decode cX0_foresee 144 = .ok (.iload 6, 2) := eX0_foresee_144.1
theorem dX0_foresee_146 : decode cX0_foresee 146 = .ok (.iadd, 1) := eX0_foresee_144.2.1
theorem dX0_foresee_147 : decode cX0_foresee 147 = .ok (.putfield 68, 3) := eX0_foresee_144.2.2.1
theorem dX0_foresee_150 : decode cX0_foresee 150 = .ok (.iload 6, 2) := eX0_foresee_144.2.2.2.1
theorem dX0_foresee_152 : decode cX0_foresee 152 = .ok (.ifCond .le 12, 3) := eX0_foresee_144.2.2.2.2.1
theorem dX0_foresee_155 : decode cX0_foresee 155 = .ok (.aload_n 0, 1) := eX0_foresee_144.2.2.2.2.2.1
theorem dX0_foresee_156 : decode cX0_foresee 156 = .ok (.iload 5, 2) := eX0_foresee_144.2.2.2.2.2.2.1
theorem dX0_foresee_158 : decode cX0_foresee 158 = .ok (.putfield 74, 3) := eX0_foresee_144.2.2.2.2.2.2.2.1
theorem eX0_foresee_161 : decode cX0_foresee 161 = .ok (.goto 17, 3) ∧ decode cX0_foresee 164 = .ok (.aload_n 0, 1) ∧ decode cX0_foresee 165 = .ok (.getfield 77, 3) ∧ decode cX0_foresee 168 = .ok (.iconst (-1), 1) ∧ decode cX0_foresee 169 = .ok (.if_icmp .ne 9, 3) ∧ decode cX0_foresee 172 = .ok (.aload_n 0, 1) ∧ decode cX0_foresee 173 = .ok (.iload 4, 2) ∧ decode cX0_foresee 175 = .ok (.putfield 77, 3) ∧ True := dkl_ok (c := cX0_foresee) [(.goto 17, 3), (.aload_n 0, 1), (.getfield 77, 3), (.iconst (-1), 1), (.if_icmp .ne 9, 3), (.aload_n 0, 1), (.iload 4, 2), (.putfield 77, 3)] 161 (by decide +kernel)
theorem dX0_foresee_161 : decode cX0_foresee 161 = .ok (.goto 17, 3) := eX0_foresee_161.1
theorem dX0_foresee_164 : decode cX0_foresee 164 = .ok (.aload_n 0, 1) := eX0_foresee_161.2.1
theorem dX0_foresee_165 : decode cX0_foresee 165 = .ok (.getfield 77, 3) := eX0_foresee_161.2.2.1
theorem dX0_foresee_168 : decode cX0_foresee 168 = .ok (.iconst (-1), 1) := eX0_foresee_161.2.2.2.1
theorem dX0_foresee_169 : decode cX0_foresee 169 = .ok (.if_icmp .ne 9, 3) := eX0_foresee_161.2.2.2.2.1
theorem dX0_foresee_172 : decode cX0_foresee 172 = .ok (.aload_n 0, 1) := eX0_foresee_161.2.2.2.2.2.1
theorem dX0_foresee_173 : decode cX0_foresee 173 = .ok (.iload 4, 2) := eX0_foresee_161.2.2.2.2.2.2.1
theorem dX0_foresee_175 : decode cX0_foresee 175 = .ok (.putfield 77, 3) := eX0_foresee_161.2.2.2.2.2.2.2.1
theorem eX0_foresee_178 : decode cX0_foresee 178 = .ok (.aload_n 0, 1) ∧ decode cX0_foresee 179 = .ok (.getfield 68, 3) ∧ decode cX0_foresee 182 = .ok (.iload_n 3, 1) ∧ decode cX0_foresee 183 = .ok (.if_icmp .ne 11, 3) ∧ decode cX0_foresee 186 = .ok (.aload_n 0, 1) ∧ decode cX0_foresee 187 = .ok (.iload 4, 2) ∧ decode cX0_foresee 189 = .ok (.iconst 1, 1) ∧ decode cX0_foresee 190 = .ok (.iadd, 1) ∧ True := dkl_ok (c := cX0_foresee) [(.aload_n 0, 1), (.getfield 68, 3), (.iload_n 3, 1), (.if_icmp .ne 11, 3), (.aload_n 0, 1), (.iload 4, 2), (.iconst 1, 1), (.iadd, 1)] 178 (by decide +kernel)
theorem dX0_foresee_178 : decode cX0_foresee 178 = .ok (.aload_n 0, 1) := eX0_foresee_178.1
theorem dX0_foresee_179 : decode cX0_foresee 179 = .ok (.getfield 68, 3) := eX0_foresee_178.2.1
theorem dX0_foresee_182 : decode cX0_foresee 182 = .ok (.iload_n 3, 1) := eX0_foresee_178.2.2.1
theorem dX0_foresee_183 : decode cX0_foresee 183 = .ok (.if_icmp .ne 11, 3) := eX0_foresee_178.2.2.2.1
theorem dX0_foresee_186 : decode cX0_foresee 186 = .ok (.aload_n 0, 1) := eX0_foresee_178.2.2.2.2.1
theorem dX0_foresee_187 : decode cX0_foresee 187 = .ok (.iload 4, 2) := eX0_foresee_178.2.2.2.2.2.1
theorem dX0_foresee_189 : decode cX0_foresee 189 = .ok (.iconst 1, 1) := eX0_foresee_178.2.2.2.2.2.2.1
theorem dX0_foresee_190 : decode cX0_foresee 190 = .ok (.iadd, 1) := eX0_foresee_178.2.2.2.2.2.2.2.1
theorem eX0_foresee_191 : decode cX0_foresee 191 = .ok (.putfield 71, 3) ∧ decode cX0_foresee 194 = .ok (.iinc 4 1, 3) ∧ decode cX0_foresee 197 = .ok (.goto (-114), 3) ∧ decode cX0_foresee 200 = .ok (.return_, 1) ∧ True := dkl_ok (c := cX0_foresee) [(.putfield 71, 3), (.iinc 4 1, 3), (.goto (-114), 3), (.return_, 1)] 191 (by decide +kernel)
theorem dX0_foresee_191 : decode cX0_foresee 191 = .ok (.putfield 71, 3) := eX0_foresee_191.1
theorem dX0_foresee_194 : decode cX0_foresee 194 = .ok (.iinc 4 1, 3) := eX0_foresee_191.2.1
theorem dX0_foresee_197 : decode cX0_foresee 197 = .ok (.goto (-114), 3) := eX0_foresee_191.2.2.1
theorem dX0_foresee_200 : decode cX0_foresee 200 = .ok (.return_, 1) := eX0_foresee_191.2.2.2.1
theorem eX0_sixteenthsLeft_0 : decode cX0_sixteenthsLeft 0 = .ok (.aload_n 0, 1) ∧ decode cX0_sixteenthsLeft 1 = .ok (.getfield 21, 3) ∧ decode cX0_sixteenthsLeft 4 = .ok (.getfield 150, 3) ∧ decode cX0_sixteenthsLeft 7 = .ok (.aload_n 0, 1) ∧ decode cX0_sixteenthsLeft 8 = .ok (.getfield 43, 3) ∧ decode cX0_sixteenthsLeft 11 = .ok (.invokevirtual 113, 3) ∧ decode cX0_sixteenthsLeft 14 = .ok (.iload_n 1, 1) ∧ decode cX0_sixteenthsLeft 15 = .ok (.isub, 1) ∧ True := dkl_ok (c := cX0_sixteenthsLeft) [(.aload_n 0, 1), (.getfield 21, 3), (.getfield 150, 3), (.aload_n 0, 1), (.getfield 43, 3), (.invokevirtual 113, 3), (.iload_n 1, 1), (.isub, 1)] 0 (by decide +kernel)
theorem dX0_sixteenthsLeft_0 : decode cX0_sixteenthsLeft 0 = .ok (.aload_n 0, 1) := eX0_sixteenthsLeft_0.1
theorem dX0_sixteenthsLeft_1 : decode cX0_sixteenthsLeft 1 = .ok (.getfield 21, 3) := eX0_sixteenthsLeft_0.2.1
theorem dX0_sixteenthsLeft_4 : decode cX0_sixteenthsLeft 4 = .ok (.getfield 150, 3) := eX0_sixteenthsLeft_0.2.2.1
theorem dX0_sixteenthsLeft_7 : decode cX0_sixteenthsLeft 7 = .ok (.aload_n 0, 1) := eX0_sixteenthsLeft_0.2.2.2.1
theorem dX0_sixteenthsLeft_8 : decode cX0_sixteenthsLeft 8 = .ok (.getfield 43, 3) := eX0_sixteenthsLeft_0.2.2.2.2.1
theorem dX0_sixteenthsLeft_11 : decode cX0_sixteenthsLeft 11 = .ok (.invokevirtual 113, 3) := eX0_sixteenthsLeft_0.2.2.2.2.2.1
theorem dX0_sixteenthsLeft_14 : decode cX0_sixteenthsLeft 14 = .ok (.iload_n 1, 1) := eX0_sixteenthsLeft_0.2.2.2.2.2.2.1
theorem dX0_sixteenthsLeft_15 : decode cX0_sixteenthsLeft 15 = .ok (.isub, 1) := eX0_sixteenthsLeft_0.2.2.2.2.2.2.2.1
theorem eX0_sixteenthsLeft_16 : decode cX0_sixteenthsLeft 16 = .ok (.iload_n 2, 1) ∧ decode cX0_sixteenthsLeft 17 = .ok (.isub, 1) ∧ decode cX0_sixteenthsLeft 18 = .ok (.istore 4, 2) ∧ decode cX0_sixteenthsLeft 20 = .ok (.bipush 16, 2) ∧ decode cX0_sixteenthsLeft 22 = .ok (.iload 4, 2) ∧ decode cX0_sixteenthsLeft 24 = .ok (.imul, 1) ∧ decode cX0_sixteenthsLeft 25 = .ok (.iload_n 2, 1) ∧ decode cX0_sixteenthsLeft 26 = .ok (.ifCond .le 19, 3) ∧ True := dkl_ok (c := cX0_sixteenthsLeft) [(.iload_n 2, 1), (.isub, 1), (.istore 4, 2), (.bipush 16, 2), (.iload 4, 2), (.imul, 1), (.iload_n 2, 1), (.ifCond .le 19, 3)] 16 (by decide +kernel)
theorem dX0_sixteenthsLeft_16 : decode cX0_sixteenthsLeft 16 = .ok (.iload_n 2, 1) := eX0_sixteenthsLeft_16.1
theorem dX0_sixteenthsLeft_17 : decode cX0_sixteenthsLeft 17 = .ok (.isub, 1) := eX0_sixteenthsLeft_16.2.1
theorem dX0_sixteenthsLeft_18 : decode cX0_sixteenthsLeft 18 = .ok (.istore 4, 2) := eX0_sixteenthsLeft_16.2.2.1
theorem dX0_sixteenthsLeft_20 : decode cX0_sixteenthsLeft 20 = .ok (.bipush 16, 2) := eX0_sixteenthsLeft_16.2.2.2.1
theorem dX0_sixteenthsLeft_22 : decode cX0_sixteenthsLeft 22 = .ok (.iload 4, 2) := eX0_sixteenthsLeft_16.2.2.2.2.1
theorem dX0_sixteenthsLeft_24 : decode cX0_sixteenthsLeft 24 = .ok (.imul, 1) := eX0_sixteenthsLeft_16.2.2.2.2.2.1
theorem dX0_sixteenthsLeft_25 : decode cX0_sixteenthsLeft 25 = .ok (.iload_n 2, 1) := eX0_sixteenthsLeft_16.2.2.2.2.2.2.1
theorem dX0_sixteenthsLeft_26 : decode cX0_sixteenthsLeft 26 = .ok (.ifCond .le 19, 3) := eX0_sixteenthsLeft_16.2.2.2.2.2.2.2.1
theorem eX0_sixteenthsLeft_29 : decode cX0_sixteenthsLeft 29 = .ok (.iload_n 3, 1) ∧ decode cX0_sixteenthsLeft 30 = .ok (.aload_n 0, 1) ∧ decode cX0_sixteenthsLeft 31 = .ok (.getfield 28, 3) ∧ decode cX0_sixteenthsLeft 34 = .ok (.getfield 172, 3) ∧ decode cX0_sixteenthsLeft 37 = .ok (.iload_n 1, 1) ∧ decode cX0_sixteenthsLeft 38 = .ok (.iadd, 1) ∧ decode cX0_sixteenthsLeft 39 = .ok (.iload_n 2, 1) ∧ decode cX0_sixteenthsLeft 40 = .ok (.iadd, 1) ∧ True := dkl_ok (c := cX0_sixteenthsLeft) [(.iload_n 3, 1), (.aload_n 0, 1), (.getfield 28, 3), (.getfield 172, 3), (.iload_n 1, 1), (.iadd, 1), (.iload_n 2, 1), (.iadd, 1)] 29 (by decide +kernel)
theorem dX0_sixteenthsLeft_29 : decode cX0_sixteenthsLeft 29 = .ok (.iload_n 3, 1) := eX0_sixteenthsLeft_29.1
theorem dX0_sixteenthsLeft_30 : decode cX0_sixteenthsLeft 30 = .ok (.aload_n 0, 1) := eX0_sixteenthsLeft_29.2.1
theorem dX0_sixteenthsLeft_31 : decode cX0_sixteenthsLeft 31 = .ok (.getfield 28, 3) := eX0_sixteenthsLeft_29.2.2.1
theorem dX0_sixteenthsLeft_34 : decode cX0_sixteenthsLeft 34 = .ok (.getfield 172, 3) := eX0_sixteenthsLeft_29.2.2.2.1
theorem dX0_sixteenthsLeft_37 : decode cX0_sixteenthsLeft 37 = .ok (.iload_n 1, 1) := eX0_sixteenthsLeft_29.2.2.2.2.1
theorem dX0_sixteenthsLeft_38 : decode cX0_sixteenthsLeft 38 = .ok (.iadd, 1) := eX0_sixteenthsLeft_29.2.2.2.2.2.1
theorem dX0_sixteenthsLeft_39 : decode cX0_sixteenthsLeft 39 = .ok (.iload_n 2, 1) := eX0_sixteenthsLeft_29.2.2.2.2.2.2.1
theorem dX0_sixteenthsLeft_40 : decode cX0_sixteenthsLeft 40 = .ok (.iadd, 1) := eX0_sixteenthsLeft_29.2.2.2.2.2.2.2.1
theorem eX0_sixteenthsLeft_41 : decode cX0_sixteenthsLeft 41 = .ok (.imul, 1) ∧ decode cX0_sixteenthsLeft 42 = .ok (.goto 4, 3) ∧ decode cX0_sixteenthsLeft 45 = .ok (.iconst 0, 1) ∧ decode cX0_sixteenthsLeft 46 = .ok (.iadd, 1) ∧ decode cX0_sixteenthsLeft 47 = .ok (.ireturn, 1) ∧ True := dkl_ok (c := cX0_sixteenthsLeft) [(.imul, 1), (.goto 4, 3), (.iconst 0, 1), (.iadd, 1), (.ireturn, 1)] 41 (by decide +kernel)
theorem dX0_sixteenthsLeft_41 : decode cX0_sixteenthsLeft 41 = .ok (.imul, 1) := eX0_sixteenthsLeft_41.1
theorem dX0_sixteenthsLeft_42 : decode cX0_sixteenthsLeft 42 = .ok (.goto 4, 3) := eX0_sixteenthsLeft_41.2.1
theorem dX0_sixteenthsLeft_45 : decode cX0_sixteenthsLeft 45 = .ok (.iconst 0, 1) := eX0_sixteenthsLeft_41.2.2.1
theorem dX0_sixteenthsLeft_46 : decode cX0_sixteenthsLeft 46 = .ok (.iadd, 1) := eX0_sixteenthsLeft_41.2.2.2.1
theorem dX0_sixteenthsLeft_47 : decode cX0_sixteenthsLeft 47 = .ok (.ireturn, 1) := eX0_sixteenthsLeft_41.2.2.2.2.1
theorem eX1_init_0 : decode cX1_init 0 = .ok (.aload_n 0, 1) ∧ decode cX1_init 1 = .ok (.invokespecial 3, 3) ∧ decode cX1_init 4 = .ok (.aload_n 0, 1) ∧ decode cX1_init 5 = .ok (.new 9, 3) ∧ decode cX1_init 8 = .ok (.dup, 1) ∧ decode cX1_init 9 = .ok (.bipush 60, 2) ∧ decode cX1_init 11 = .ok (.invokespecial 11, 3) ∧ decode cX1_init 14 = .ok (.putfield 14, 3) ∧ True := dkl_ok (c := cX1_init) [(.aload_n 0, 1), (.invokespecial 3, 3), (.aload_n 0, 1), (.new 9, 3), (.dup, 1), (.bipush 60, 2), (.invokespecial 11, 3), (.putfield 14, 3)] 0 (by decide +kernel)
theorem dX1_init_0 : decode cX1_init 0 = .ok (.aload_n 0, 1) := eX1_init_0.1
theorem dX1_init_1 : decode cX1_init 1 = .ok (.invokespecial 3, 3) := eX1_init_0.2.1
theorem dX1_init_4 : decode cX1_init 4 = .ok (.aload_n 0, 1) := eX1_init_0.2.2.1
theorem dX1_init_5 : decode cX1_init 5 = .ok (.new 9, 3) := eX1_init_0.2.2.2.1
theorem dX1_init_8 : decode cX1_init 8 = .ok (.dup, 1) := eX1_init_0.2.2.2.2.1
theorem dX1_init_9 : decode cX1_init 9 = .ok (.bipush 60, 2) := eX1_init_0.2.2.2.2.2.1
theorem dX1_init_11 : decode cX1_init 11 = .ok (.invokespecial 11, 3) := eX1_init_0.2.2.2.2.2.2.1
theorem dX1_init_14 : decode cX1_init 14 = .ok (.putfield 14, 3) := eX1_init_0.2.2.2.2.2.2.2.1
theorem eX1_init_17 : decode cX1_init 17 = .ok (.aload_n 0, 1) ∧ decode cX1_init 18 = .ok (.new 9, 3) ∧ decode cX1_init 21 = .ok (.dup, 1) ∧ decode cX1_init 22 = .ok (.bipush 60, 2) ∧ decode cX1_init 24 = .ok (.invokespecial 11, 3) ∧ decode cX1_init 27 = .ok (.putfield 20, 3) ∧ decode cX1_init 30 = .ok (.aload_n 0, 1) ∧ decode cX1_init 31 = .ok (.new 9, 3) ∧ True := dkl_ok (c := cX1_init) [(.aload_n 0, 1), (.new 9, 3), (.dup, 1), (.bipush 60, 2), (.invokespecial 11, 3), (.putfield 20, 3), (.aload_n 0, 1), (.new 9, 3)] 17 (by decide +kernel)
theorem dX1_init_17 : decode cX1_init 17 = .ok (.aload_n 0, 1) := eX1_init_17.1
theorem dX1_init_18 : decode cX1_init 18 = .ok (.new 9, 3) := eX1_init_17.2.1
theorem dX1_init_21 : decode cX1_init 21 = .ok (.dup, 1) := eX1_init_17.2.2.1
theorem dX1_init_22 : decode cX1_init 22 = .ok (.bipush 60, 2) := eX1_init_17.2.2.2.1
theorem dX1_init_24 : decode cX1_init 24 = .ok (.invokespecial 11, 3) := eX1_init_17.2.2.2.2.1
theorem dX1_init_27 : decode cX1_init 27 = .ok (.putfield 20, 3) := eX1_init_17.2.2.2.2.2.1
theorem dX1_init_30 : decode cX1_init 30 = .ok (.aload_n 0, 1) := eX1_init_17.2.2.2.2.2.2.1
theorem dX1_init_31 : decode cX1_init 31 = .ok (.new 9, 3) := eX1_init_17.2.2.2.2.2.2.2.1
theorem eX1_init_34 : decode cX1_init 34 = .ok (.dup, 1) ∧ decode cX1_init 35 = .ok (.bipush 6, 2) ∧ decode cX1_init 37 = .ok (.invokespecial 11, 3) ∧ decode cX1_init 40 = .ok (.putfield 23, 3) ∧ decode cX1_init 43 = .ok (.aload_n 0, 1) ∧ decode cX1_init 44 = .ok (.new 9, 3) ∧ decode cX1_init 47 = .ok (.dup, 1) ∧ decode cX1_init 48 = .ok (.bipush 6, 2) ∧ True := dkl_ok (c := cX1_init) [(.dup, 1), (.bipush 6, 2), (.invokespecial 11, 3), (.putfield 23, 3), (.aload_n 0, 1), (.new 9, 3), (.dup, 1), (.bipush 6, 2)] 34 (by decide +kernel)
theorem dX1_init_34 : decode cX1_init 34 = .ok (.dup, 1) := eX1_init_34.1
theorem dX1_init_35 : decode cX1_init 35 = .ok (.bipush 6, 2) := eX1_init_34.2.1
theorem dX1_init_37 : decode cX1_init 37 = .ok (.invokespecial 11, 3) := eX1_init_34.2.2.1
theorem dX1_init_40 : decode cX1_init 40 = .ok (.putfield 23, 3) := eX1_init_34.2.2.2.1
theorem dX1_init_43 : decode cX1_init 43 = .ok (.aload_n 0, 1) := eX1_init_34.2.2.2.2.1
theorem dX1_init_44 : decode cX1_init 44 = .ok (.new 9, 3) := eX1_init_34.2.2.2.2.2.1
theorem dX1_init_47 : decode cX1_init 47 = .ok (.dup, 1) := eX1_init_34.2.2.2.2.2.2.1
theorem dX1_init_48 : decode cX1_init 48 = .ok (.bipush 6, 2) := eX1_init_34.2.2.2.2.2.2.2.1
theorem eX1_init_50 : decode cX1_init 50 = .ok (.invokespecial 11, 3) ∧ decode cX1_init 53 = .ok (.putfield 26, 3) ∧ decode cX1_init 56 = .ok (.aload_n 0, 1) ∧ decode cX1_init 57 = .ok (.new 9, 3) ∧ decode cX1_init 60 = .ok (.dup, 1) ∧ decode cX1_init 61 = .ok (.bipush 6, 2) ∧ decode cX1_init 63 = .ok (.invokespecial 11, 3) ∧ decode cX1_init 66 = .ok (.putfield 29, 3) ∧ True := dkl_ok (c := cX1_init) [(.invokespecial 11, 3), (.putfield 26, 3), (.aload_n 0, 1), (.new 9, 3), (.dup, 1), (.bipush 6, 2), (.invokespecial 11, 3), (.putfield 29, 3)] 50 (by decide +kernel)
theorem dX1_init_50 : decode cX1_init 50 = .ok (.invokespecial 11, 3) := eX1_init_50.1
theorem dX1_init_53 : decode cX1_init 53 = .ok (.putfield 26, 3) := eX1_init_50.2.1
theorem dX1_init_56 : decode cX1_init 56 = .ok (.aload_n 0, 1) := eX1_init_50.2.2.1
theorem dX1_init_57 : decode cX1_init 57 = .ok (.new 9, 3) := eX1_init_50.2.2.2.1
theorem dX1_init_60 : decode cX1_init 60 = .ok (.dup, 1) := eX1_init_50.2.2.2.2.1
theorem dX1_init_61 : decode cX1_init 61 = .ok (.bipush 6, 2) := eX1_init_50.2.2.2.2.2.1
theorem dX1_init_63 : decode cX1_init 63 = .ok (.invokespecial 11, 3) := eX1_init_50.2.2.2.2.2.2.1
theorem dX1_init_66 : decode cX1_init 66 = .ok (.putfield 29, 3) := eX1_init_50.2.2.2.2.2.2.2.1
theorem eX1_init_69 : decode cX1_init 69 = .ok (.aload_n 0, 1) ∧ decode cX1_init 70 = .ok (.new 9, 3) ∧ decode cX1_init 73 = .ok (.dup, 1) ∧ decode cX1_init 74 = .ok (.bipush 6, 2) ∧ decode cX1_init 76 = .ok (.invokespecial 11, 3) ∧ decode cX1_init 79 = .ok (.putfield 32, 3) ∧ decode cX1_init 82 = .ok (.aload_n 0, 1) ∧ decode cX1_init 83 = .ok (.new 9, 3) ∧ True := dkl_ok (c := cX1_init) [(.aload_n 0, 1), (.new 9, 3), (.dup, 1), (.bipush 6, 2), (.invokespecial 11, 3), (.putfield 32, 3), (.aload_n 0, 1), (.new 9, 3)] 69 (by decide +kernel)
theorem dX1_init_69 : decode cX1_init 69 = .ok (.aload_n 0, 1) := eX1_init_69.1
theorem dX1_init_70 : decode cX1_init 70 = .ok (.new 9, 3) := eX1_init_69.2.1
theorem dX1_init_73 : decode cX1_init 73 = .ok (.dup, 1) := eX1_init_69.2.2.1
theorem dX1_init_74 : decode cX1_init 74 = .ok (.bipush 6, 2) := eX1_init_69.2.2.2.1
theorem dX1_init_76 : decode cX1_init 76 = .ok (.invokespecial 11, 3) := eX1_init_69.2.2.2.2.1
theorem dX1_init_79 : decode cX1_init 79 = .ok (.putfield 32, 3) := eX1_init_69.2.2.2.2.2.1
theorem dX1_init_82 : decode cX1_init 82 = .ok (.aload_n 0, 1) := eX1_init_69.2.2.2.2.2.2.1
theorem dX1_init_83 : decode cX1_init 83 = .ok (.new 9, 3) := eX1_init_69.2.2.2.2.2.2.2.1
theorem eX1_init_86 : decode cX1_init 86 = .ok (.dup, 1) ∧ decode cX1_init 87 = .ok (.bipush 6, 2) ∧ decode cX1_init 89 = .ok (.invokespecial 11, 3) ∧ decode cX1_init 92 = .ok (.putfield 35, 3) ∧ decode cX1_init 95 = .ok (.return_, 1) ∧ True := dkl_ok (c := cX1_init) [(.dup, 1), (.bipush 6, 2), (.invokespecial 11, 3), (.putfield 35, 3), (.return_, 1)] 86 (by decide +kernel)
theorem dX1_init_86 : decode cX1_init 86 = .ok (.dup, 1) := eX1_init_86.1
theorem dX1_init_87 : decode cX1_init 87 = .ok (.bipush 6, 2) := eX1_init_86.2.1
theorem dX1_init_89 : decode cX1_init 89 = .ok (.invokespecial 11, 3) := eX1_init_86.2.2.1
theorem dX1_init_92 : decode cX1_init 92 = .ok (.putfield 35, 3) := eX1_init_86.2.2.2.1
theorem dX1_init_95 : decode cX1_init 95 = .ok (.return_, 1) := eX1_init_86.2.2.2.2.1
theorem eX1_reset_0 : decode cX1_reset 0 = .ok (.aload_n 0, 1) ∧ decode cX1_reset 1 = .ok (.getfield 14, 3) ∧ decode cX1_reset 4 = .ok (.invokevirtual 38, 3) ∧ decode cX1_reset 7 = .ok (.aload_n 0, 1) ∧ decode cX1_reset 8 = .ok (.getfield 20, 3) ∧ decode cX1_reset 11 = .ok (.invokevirtual 38, 3) ∧ decode cX1_reset 14 = .ok (.aload_n 0, 1) ∧ decode cX1_reset 15 = .ok (.getfield 23, 3) ∧ True := dkl_ok (c := cX1_reset) [(.aload_n 0, 1), (.getfield 14, 3), (.invokevirtual 38, 3), (.aload_n 0, 1), (.getfield 20, 3), (.invokevirtual 38, 3), (.aload_n 0, 1), (.getfield 23, 3)] 0 (by decide +kernel)
theorem dX1_reset_0 : decode cX1_reset 0 = .ok (.aload_n 0, 1) := eX1_reset_0.1
theorem dX1_reset_1 : decode cX1_reset 1 = .ok (.getfield 14, 3) := eX1_reset_0.2.1
theorem dX1_reset_4 : decode cX1_reset 4 = .ok (.invokevirtual 38, 3) := eX1_reset_0.2.2.1
theorem dX1_reset_7 : decode cX1_reset 7 = .ok (.aload_n 0, 1) := eX1_reset_0.2.2.2.1
theorem dX1_reset_8 : decode cX1_reset 8 = .ok (.getfield 20, 3) := eX1_reset_0.2.2.2.2.1
theorem dX1_reset_11 : decode cX1_reset 11 = .ok (.invokevirtual 38, 3) := eX1_reset_0.2.2.2.2.2.1
theorem dX1_reset_14 : decode cX1_reset 14 = .ok (.aload_n 0, 1) := eX1_reset_0.2.2.2.2.2.2.1
theorem dX1_reset_15 : decode cX1_reset 15 = .ok (.getfield 23, 3) := eX1_reset_0.2.2.2.2.2.2.2.1
theorem eX1_reset_18 : decode cX1_reset 18 = .ok (.invokevirtual 38, 3) ∧ decode cX1_reset 21 = .ok (.aload_n 0, 1) ∧ decode cX1_reset 22 = .ok (.getfield 26, 3) ∧ decode cX1_reset 25 = .ok (.invokevirtual 38, 3) ∧ decode cX1_reset 28 = .ok (.aload_n 0, 1) ∧ decode cX1_reset 29 = .ok (.getfield 29, 3) ∧ decode cX1_reset 32 = .ok (.invokevirtual 38, 3) ∧ decode cX1_reset 35 = .ok (.aload_n 0, 1) ∧ True := dkl_ok (c := cX1_reset) [(.invokevirtual 38, 3), (.aload_n 0, 1), (.getfield 26, 3), (.invokevirtual 38, 3), (.aload_n 0, 1), (.getfield 29, 3), (.invokevirtual 38, 3), (.aload_n 0, 1)] 18 (by decide +kernel)
theorem dX1_reset_18 : decode cX1_reset 18 = .ok (.invokevirtual 38, 3) := eX1_reset_18.1
theorem dX1_reset_21 : decode cX1_reset 21 = .ok (.aload_n 0, 1) := eX1_reset_18.2.1
theorem dX1_reset_22 : decode cX1_reset 22 = .ok (.getfield 26, 3) := eX1_reset_18.2.2.1
theorem dX1_reset_25 : decode cX1_reset 25 = .ok (.invokevirtual 38, 3) := eX1_reset_18.2.2.2.1
theorem dX1_reset_28 : decode cX1_reset 28 = .ok (.aload_n 0, 1) := eX1_reset_18.2.2.2.2.1
theorem dX1_reset_29 : decode cX1_reset 29 = .ok (.getfield 29, 3) := eX1_reset_18.2.2.2.2.2.1
theorem dX1_reset_32 : decode cX1_reset 32 = .ok (.invokevirtual 38, 3) := eX1_reset_18.2.2.2.2.2.2.1
theorem dX1_reset_35 : decode cX1_reset 35 = .ok (.aload_n 0, 1) := eX1_reset_18.2.2.2.2.2.2.2.1
theorem eX1_reset_36 : decode cX1_reset 36 = .ok (.getfield 32, 3) ∧ decode cX1_reset 39 = .ok (.invokevirtual 38, 3) ∧ decode cX1_reset 42 = .ok (.aload_n 0, 1) ∧ decode cX1_reset 43 = .ok (.getfield 35, 3) ∧ decode cX1_reset 46 = .ok (.invokevirtual 38, 3) ∧ decode cX1_reset 49 = .ok (.return_, 1) ∧ True := dkl_ok (c := cX1_reset) [(.getfield 32, 3), (.invokevirtual 38, 3), (.aload_n 0, 1), (.getfield 35, 3), (.invokevirtual 38, 3), (.return_, 1)] 36 (by decide +kernel)
theorem dX1_reset_36 : decode cX1_reset 36 = .ok (.getfield 32, 3) := eX1_reset_36.1
theorem dX1_reset_39 : decode cX1_reset 39 = .ok (.invokevirtual 38, 3) := eX1_reset_36.2.1
theorem dX1_reset_42 : decode cX1_reset 42 = .ok (.aload_n 0, 1) := eX1_reset_36.2.2.1
theorem dX1_reset_43 : decode cX1_reset 43 = .ok (.getfield 35, 3) := eX1_reset_36.2.2.2.1
theorem dX1_reset_46 : decode cX1_reset 46 = .ok (.invokevirtual 38, 3) := eX1_reset_36.2.2.2.2.1
theorem dX1_reset_49 : decode cX1_reset 49 = .ok (.return_, 1) := eX1_reset_36.2.2.2.2.2.1
theorem eX1_copyFrom_0 : decode cX1_copyFrom 0 = .ok (.aload_n 0, 1) ∧ decode cX1_copyFrom 1 = .ok (.getfield 14, 3) ∧ decode cX1_copyFrom 4 = .ok (.aload_n 1, 1) ∧ decode cX1_copyFrom 5 = .ok (.getfield 14, 3) ∧ decode cX1_copyFrom 8 = .ok (.invokevirtual 41, 3) ∧ decode cX1_copyFrom 11 = .ok (.aload_n 0, 1) ∧ decode cX1_copyFrom 12 = .ok (.getfield 20, 3) ∧ decode cX1_copyFrom 15 = .ok (.aload_n 1, 1) ∧ True := dkl_ok (c := cX1_copyFrom) [(.aload_n 0, 1), (.getfield 14, 3), (.aload_n 1, 1), (.getfield 14, 3), (.invokevirtual 41, 3), (.aload_n 0, 1), (.getfield 20, 3), (.aload_n 1, 1)] 0 (by decide +kernel)
theorem dX1_copyFrom_0 : decode cX1_copyFrom 0 = .ok (.aload_n 0, 1) := eX1_copyFrom_0.1
theorem dX1_copyFrom_1 : decode cX1_copyFrom 1 = .ok (.getfield 14, 3) := eX1_copyFrom_0.2.1
theorem dX1_copyFrom_4 : decode cX1_copyFrom 4 = .ok (.aload_n 1, 1) := eX1_copyFrom_0.2.2.1
theorem dX1_copyFrom_5 : decode cX1_copyFrom 5 = .ok (.getfield 14, 3) := eX1_copyFrom_0.2.2.2.1
theorem dX1_copyFrom_8 : decode cX1_copyFrom 8 = .ok (.invokevirtual 41, 3) := eX1_copyFrom_0.2.2.2.2.1
theorem dX1_copyFrom_11 : decode cX1_copyFrom 11 = .ok (.aload_n 0, 1) := eX1_copyFrom_0.2.2.2.2.2.1
theorem dX1_copyFrom_12 : decode cX1_copyFrom 12 = .ok (.getfield 20, 3) := eX1_copyFrom_0.2.2.2.2.2.2.1
theorem dX1_copyFrom_15 : decode cX1_copyFrom 15 = .ok (.aload_n 1, 1) := eX1_copyFrom_0.2.2.2.2.2.2.2.1
theorem eX1_copyFrom_16 : decode cX1_copyFrom 16 = .ok (.getfield 20, 3) ∧ decode cX1_copyFrom 19 = .ok (.invokevirtual 41, 3) ∧ decode cX1_copyFrom 22 = .ok (.aload_n 0, 1) ∧ decode cX1_copyFrom 23 = .ok (.getfield 23, 3) ∧ decode cX1_copyFrom 26 = .ok (.aload_n 1, 1) ∧ decode cX1_copyFrom 27 = .ok (.getfield 23, 3) ∧ decode cX1_copyFrom 30 = .ok (.invokevirtual 41, 3) ∧ decode cX1_copyFrom 33 = .ok (.aload_n 0, 1) ∧ True := dkl_ok (c := cX1_copyFrom) [(.getfield 20, 3), (.invokevirtual 41, 3), (.aload_n 0, 1), (.getfield 23, 3), (.aload_n 1, 1), (.getfield 23, 3), (.invokevirtual 41, 3), (.aload_n 0, 1)] 16 (by decide +kernel)
theorem dX1_copyFrom_16 : decode cX1_copyFrom 16 = .ok (.getfield 20, 3) := eX1_copyFrom_16.1
theorem dX1_copyFrom_19 : decode cX1_copyFrom 19 = .ok (.invokevirtual 41, 3) := eX1_copyFrom_16.2.1
theorem dX1_copyFrom_22 : decode cX1_copyFrom 22 = .ok (.aload_n 0, 1) := eX1_copyFrom_16.2.2.1
theorem dX1_copyFrom_23 : decode cX1_copyFrom 23 = .ok (.getfield 23, 3) := eX1_copyFrom_16.2.2.2.1
theorem dX1_copyFrom_26 : decode cX1_copyFrom 26 = .ok (.aload_n 1, 1) := eX1_copyFrom_16.2.2.2.2.1
theorem dX1_copyFrom_27 : decode cX1_copyFrom 27 = .ok (.getfield 23, 3) := eX1_copyFrom_16.2.2.2.2.2.1
theorem dX1_copyFrom_30 : decode cX1_copyFrom 30 = .ok (.invokevirtual 41, 3) := eX1_copyFrom_16.2.2.2.2.2.2.1
theorem dX1_copyFrom_33 : decode cX1_copyFrom 33 = .ok (.aload_n 0, 1) := eX1_copyFrom_16.2.2.2.2.2.2.2.1
theorem eX1_copyFrom_34 : decode cX1_copyFrom 34 = .ok (.getfield 26, 3) ∧ decode cX1_copyFrom 37 = .ok (.aload_n 1, 1) ∧ decode cX1_copyFrom 38 = .ok (.getfield 26, 3) ∧ decode cX1_copyFrom 41 = .ok (.invokevirtual 41, 3) ∧ decode cX1_copyFrom 44 = .ok (.aload_n 0, 1) ∧ decode cX1_copyFrom 45 = .ok (.getfield 29, 3) ∧ decode cX1_copyFrom 48 = .ok (.aload_n 1, 1) ∧ decode cX1_copyFrom 49 = .ok (.getfield 29, 3) ∧ True := dkl_ok (c := cX1_copyFrom) [(.getfield 26, 3), (.aload_n 1, 1), (.getfield 26, 3), (.invokevirtual 41, 3), (.aload_n 0, 1), (.getfield 29, 3), (.aload_n 1, 1), (.getfield 29, 3)] 34 (by decide +kernel)
theorem dX1_copyFrom_34 : decode cX1_copyFrom 34 = .ok (.getfield 26, 3) := eX1_copyFrom_34.1
theorem dX1_copyFrom_37 : decode cX1_copyFrom 37 = .ok (.aload_n 1, 1) := eX1_copyFrom_34.2.1
theorem dX1_copyFrom_38 : decode cX1_copyFrom 38 = .ok (.getfield 26, 3) := eX1_copyFrom_34.2.2.1
theorem dX1_copyFrom_41 : decode cX1_copyFrom 41 = .ok (.invokevirtual 41, 3) := eX1_copyFrom_34.2.2.2.1
theorem dX1_copyFrom_44 : decode cX1_copyFrom 44 = .ok (.aload_n 0, 1) := eX1_copyFrom_34.2.2.2.2.1
theorem dX1_copyFrom_45 : decode cX1_copyFrom 45 = .ok (.getfield 29, 3) := eX1_copyFrom_34.2.2.2.2.2.1
theorem dX1_copyFrom_48 : decode cX1_copyFrom 48 = .ok (.aload_n 1, 1) := eX1_copyFrom_34.2.2.2.2.2.2.1
theorem dX1_copyFrom_49 : decode cX1_copyFrom 49 = .ok (.getfield 29, 3) := eX1_copyFrom_34.2.2.2.2.2.2.2.1
theorem eX1_copyFrom_52 : decode cX1_copyFrom 52 = .ok (.invokevirtual 41, 3) ∧ decode cX1_copyFrom 55 = .ok (.aload_n 0, 1) ∧ decode cX1_copyFrom 56 = .ok (.getfield 32, 3) ∧ decode cX1_copyFrom 59 = .ok (.aload_n 1, 1) ∧ decode cX1_copyFrom 60 = .ok (.getfield 32, 3) ∧ decode cX1_copyFrom 63 = .ok (.invokevirtual 41, 3) ∧ decode cX1_copyFrom 66 = .ok (.aload_n 0, 1) ∧ decode cX1_copyFrom 67 = .ok (.getfield 35, 3) ∧ True := dkl_ok (c := cX1_copyFrom) [(.invokevirtual 41, 3), (.aload_n 0, 1), (.getfield 32, 3), (.aload_n 1, 1), (.getfield 32, 3), (.invokevirtual 41, 3), (.aload_n 0, 1), (.getfield 35, 3)] 52 (by decide +kernel)
theorem dX1_copyFrom_52 : decode cX1_copyFrom 52 = .ok (.invokevirtual 41, 3) := eX1_copyFrom_52.1
theorem dX1_copyFrom_55 : decode cX1_copyFrom 55 = .ok (.aload_n 0, 1) := eX1_copyFrom_52.2.1
theorem dX1_copyFrom_56 : decode cX1_copyFrom 56 = .ok (.getfield 32, 3) := eX1_copyFrom_52.2.2.1
theorem dX1_copyFrom_59 : decode cX1_copyFrom 59 = .ok (.aload_n 1, 1) := eX1_copyFrom_52.2.2.2.1
theorem dX1_copyFrom_60 : decode cX1_copyFrom 60 = .ok (.getfield 32, 3) := eX1_copyFrom_52.2.2.2.2.1
theorem dX1_copyFrom_63 : decode cX1_copyFrom 63 = .ok (.invokevirtual 41, 3) := eX1_copyFrom_52.2.2.2.2.2.1
theorem dX1_copyFrom_66 : decode cX1_copyFrom 66 = .ok (.aload_n 0, 1) := eX1_copyFrom_52.2.2.2.2.2.2.1
theorem dX1_copyFrom_67 : decode cX1_copyFrom 67 = .ok (.getfield 35, 3) := eX1_copyFrom_52.2.2.2.2.2.2.2.1
theorem eX1_copyFrom_70 : decode cX1_copyFrom 70 = .ok (.aload_n 1, 1) ∧ decode cX1_copyFrom 71 = .ok (.getfield 35, 3) ∧ decode cX1_copyFrom 74 = .ok (.invokevirtual 41, 3) ∧ decode cX1_copyFrom 77 = .ok (.return_, 1) ∧ True := dkl_ok (c := cX1_copyFrom) [(.aload_n 1, 1), (.getfield 35, 3), (.invokevirtual 41, 3), (.return_, 1)] 70 (by decide +kernel)
theorem dX1_copyFrom_70 : decode cX1_copyFrom 70 = .ok (.aload_n 1, 1) := eX1_copyFrom_70.1
theorem dX1_copyFrom_71 : decode cX1_copyFrom 71 = .ok (.getfield 35, 3) := eX1_copyFrom_70.2.1
theorem dX1_copyFrom_74 : decode cX1_copyFrom 74 = .ok (.invokevirtual 41, 3) := eX1_copyFrom_70.2.2.1
theorem dX1_copyFrom_77 : decode cX1_copyFrom 77 = .ok (.return_, 1) := eX1_copyFrom_70.2.2.2.1
theorem eX1_heldBy_0 : decode cX1_heldBy 0 = .ok (.aload_n 0, 1) ∧ decode cX1_heldBy 1 = .ok (.getfield 14, 3) ∧ decode cX1_heldBy 4 = .ok (.iload_n 1, 1) ∧ decode cX1_heldBy 5 = .ok (.bipush 10, 2) ∧ decode cX1_heldBy 7 = .ok (.imul, 1) ∧ decode cX1_heldBy 8 = .ok (.iload_n 2, 1) ∧ decode cX1_heldBy 9 = .ok (.iadd, 1) ∧ decode cX1_heldBy 10 = .ok (.invokevirtual 45, 3) ∧ True := dkl_ok (c := cX1_heldBy) [(.aload_n 0, 1), (.getfield 14, 3), (.iload_n 1, 1), (.bipush 10, 2), (.imul, 1), (.iload_n 2, 1), (.iadd, 1), (.invokevirtual 45, 3)] 0 (by decide +kernel)
theorem dX1_heldBy_0 : decode cX1_heldBy 0 = .ok (.aload_n 0, 1) := eX1_heldBy_0.1
theorem dX1_heldBy_1 : decode cX1_heldBy 1 = .ok (.getfield 14, 3) := eX1_heldBy_0.2.1
theorem dX1_heldBy_4 : decode cX1_heldBy 4 = .ok (.iload_n 1, 1) := eX1_heldBy_0.2.2.1
theorem dX1_heldBy_5 : decode cX1_heldBy 5 = .ok (.bipush 10, 2) := eX1_heldBy_0.2.2.2.1
theorem dX1_heldBy_7 : decode cX1_heldBy 7 = .ok (.imul, 1) := eX1_heldBy_0.2.2.2.2.1
theorem dX1_heldBy_8 : decode cX1_heldBy 8 = .ok (.iload_n 2, 1) := eX1_heldBy_0.2.2.2.2.2.1
theorem dX1_heldBy_9 : decode cX1_heldBy 9 = .ok (.iadd, 1) := eX1_heldBy_0.2.2.2.2.2.2.1
theorem dX1_heldBy_10 : decode cX1_heldBy 10 = .ok (.invokevirtual 45, 3) := eX1_heldBy_0.2.2.2.2.2.2.2.1
theorem eX1_heldBy_13 : decode cX1_heldBy 13 = .ok (.ireturn, 1) ∧ True := dkl_ok (c := cX1_heldBy) [(.ireturn, 1)] 13 (by decide +kernel)
theorem dX1_heldBy_13 : decode cX1_heldBy 13 = .ok (.ireturn, 1) := eX1_heldBy_13.1
theorem eX1_laidBy_0 : decode cX1_laidBy 0 = .ok (.aload_n 0, 1) ∧ decode cX1_laidBy 1 = .ok (.getfield 20, 3) ∧ decode cX1_laidBy 4 = .ok (.iload_n 1, 1) ∧ decode cX1_laidBy 5 = .ok (.bipush 10, 2) ∧ decode cX1_laidBy 7 = .ok (.imul, 1) ∧ decode cX1_laidBy 8 = .ok (.iload_n 2, 1) ∧ decode cX1_laidBy 9 = .ok (.iadd, 1) ∧ decode cX1_laidBy 10 = .ok (.invokevirtual 45, 3) ∧ True := dkl_ok (c := cX1_laidBy) [(.aload_n 0, 1), (.getfield 20, 3), (.iload_n 1, 1), (.bipush 10, 2), (.imul, 1), (.iload_n 2, 1), (.iadd, 1), (.invokevirtual 45, 3)] 0 (by decide +kernel)
theorem dX1_laidBy_0 : decode cX1_laidBy 0 = .ok (.aload_n 0, 1) := eX1_laidBy_0.1
theorem dX1_laidBy_1 : decode cX1_laidBy 1 = .ok (.getfield 20, 3) := eX1_laidBy_0.2.1
theorem dX1_laidBy_4 : decode cX1_laidBy 4 = .ok (.iload_n 1, 1) := eX1_laidBy_0.2.2.1
theorem dX1_laidBy_5 : decode cX1_laidBy 5 = .ok (.bipush 10, 2) := eX1_laidBy_0.2.2.2.1
theorem dX1_laidBy_7 : decode cX1_laidBy 7 = .ok (.imul, 1) := eX1_laidBy_0.2.2.2.2.1
theorem dX1_laidBy_8 : decode cX1_laidBy 8 = .ok (.iload_n 2, 1) := eX1_laidBy_0.2.2.2.2.2.1
theorem dX1_laidBy_9 : decode cX1_laidBy 9 = .ok (.iadd, 1) := eX1_laidBy_0.2.2.2.2.2.2.1
theorem dX1_laidBy_10 : decode cX1_laidBy 10 = .ok (.invokevirtual 45, 3) := eX1_laidBy_0.2.2.2.2.2.2.2.1
theorem eX1_laidBy_13 : decode cX1_laidBy 13 = .ok (.ireturn, 1) ∧ True := dkl_ok (c := cX1_laidBy) [(.ireturn, 1)] 13 (by decide +kernel)
theorem dX1_laidBy_13 : decode cX1_laidBy 13 = .ok (.ireturn, 1) := eX1_laidBy_13.1
theorem eX1_allLaidBy_0 : decode cX1_allLaidBy 0 = .ok (.aload_n 0, 1) ∧ decode cX1_allLaidBy 1 = .ok (.getfield 20, 3) ∧ decode cX1_allLaidBy 4 = .ok (.iload_n 1, 1) ∧ decode cX1_allLaidBy 5 = .ok (.bipush 10, 2) ∧ decode cX1_allLaidBy 7 = .ok (.imul, 1) ∧ decode cX1_allLaidBy 8 = .ok (.bipush 10, 2) ∧ decode cX1_allLaidBy 10 = .ok (.invokevirtual 49, 3) ∧ decode cX1_allLaidBy 13 = .ok (.ireturn, 1) ∧ True := dkl_ok (c := cX1_allLaidBy) [(.aload_n 0, 1), (.getfield 20, 3), (.iload_n 1, 1), (.bipush 10, 2), (.imul, 1), (.bipush 10, 2), (.invokevirtual 49, 3), (.ireturn, 1)] 0 (by decide +kernel)
theorem dX1_allLaidBy_0 : decode cX1_allLaidBy 0 = .ok (.aload_n 0, 1) := eX1_allLaidBy_0.1
theorem dX1_allLaidBy_1 : decode cX1_allLaidBy 1 = .ok (.getfield 20, 3) := eX1_allLaidBy_0.2.1
theorem dX1_allLaidBy_4 : decode cX1_allLaidBy 4 = .ok (.iload_n 1, 1) := eX1_allLaidBy_0.2.2.1
theorem dX1_allLaidBy_5 : decode cX1_allLaidBy 5 = .ok (.bipush 10, 2) := eX1_allLaidBy_0.2.2.2.1
theorem dX1_allLaidBy_7 : decode cX1_allLaidBy 7 = .ok (.imul, 1) := eX1_allLaidBy_0.2.2.2.2.1
theorem dX1_allLaidBy_8 : decode cX1_allLaidBy 8 = .ok (.bipush 10, 2) := eX1_allLaidBy_0.2.2.2.2.2.1
theorem dX1_allLaidBy_10 : decode cX1_allLaidBy 10 = .ok (.invokevirtual 49, 3) := eX1_allLaidBy_0.2.2.2.2.2.2.1
theorem dX1_allLaidBy_13 : decode cX1_allLaidBy 13 = .ok (.ireturn, 1) := eX1_allLaidBy_0.2.2.2.2.2.2.2.1
theorem eX1_knownTo_0 : decode cX1_knownTo 0 = .ok (.iload_n 1, 1) ∧ decode cX1_knownTo 1 = .ok (.bipush 10, 2) ∧ decode cX1_knownTo 3 = .ok (.imul, 1) ∧ decode cX1_knownTo 4 = .ok (.iload_n 2, 1) ∧ decode cX1_knownTo 5 = .ok (.iadd, 1) ∧ decode cX1_knownTo 6 = .ok (.istore_n 3, 1) ∧ decode cX1_knownTo 7 = .ok (.aload_n 0, 1) ∧ decode cX1_knownTo 8 = .ok (.getfield 14, 3) ∧ True := dkl_ok (c := cX1_knownTo) [(.iload_n 1, 1), (.bipush 10, 2), (.imul, 1), (.iload_n 2, 1), (.iadd, 1), (.istore_n 3, 1), (.aload_n 0, 1), (.getfield 14, 3)] 0 (by decide +kernel)
theorem dX1_knownTo_0 : decode cX1_knownTo 0 = .ok (.iload_n 1, 1) := eX1_knownTo_0.1
theorem dX1_knownTo_1 : decode cX1_knownTo 1 = .ok (.bipush 10, 2) := eX1_knownTo_0.2.1
theorem dX1_knownTo_3 : decode cX1_knownTo 3 = .ok (.imul, 1) := eX1_knownTo_0.2.2.1
theorem dX1_knownTo_4 : decode cX1_knownTo 4 = .ok (.iload_n 2, 1) := eX1_knownTo_0.2.2.2.1
theorem dX1_knownTo_5 : decode cX1_knownTo 5 = .ok (.iadd, 1) := eX1_knownTo_0.2.2.2.2.1
theorem dX1_knownTo_6 : decode cX1_knownTo 6 = .ok (.istore_n 3, 1) := eX1_knownTo_0.2.2.2.2.2.1
theorem dX1_knownTo_7 : decode cX1_knownTo 7 = .ok (.aload_n 0, 1) := eX1_knownTo_0.2.2.2.2.2.2.1
theorem dX1_knownTo_8 : decode cX1_knownTo 8 = .ok (.getfield 14, 3) := eX1_knownTo_0.2.2.2.2.2.2.2.1
theorem eX1_knownTo_11 : decode cX1_knownTo 11 = .ok (.iload_n 3, 1) ∧ decode cX1_knownTo 12 = .ok (.invokevirtual 45, 3) ∧ decode cX1_knownTo 15 = .ok (.aload_n 0, 1) ∧ decode cX1_knownTo 16 = .ok (.getfield 20, 3) ∧ decode cX1_knownTo 19 = .ok (.iload_n 3, 1) ∧ decode cX1_knownTo 20 = .ok (.invokevirtual 45, 3) ∧ decode cX1_knownTo 23 = .ok (.iadd, 1) ∧ decode cX1_knownTo 24 = .ok (.ireturn, 1) ∧ True := dkl_ok (c := cX1_knownTo) [(.iload_n 3, 1), (.invokevirtual 45, 3), (.aload_n 0, 1), (.getfield 20, 3), (.iload_n 3, 1), (.invokevirtual 45, 3), (.iadd, 1), (.ireturn, 1)] 11 (by decide +kernel)
theorem dX1_knownTo_11 : decode cX1_knownTo 11 = .ok (.iload_n 3, 1) := eX1_knownTo_11.1
theorem dX1_knownTo_12 : decode cX1_knownTo 12 = .ok (.invokevirtual 45, 3) := eX1_knownTo_11.2.1
theorem dX1_knownTo_15 : decode cX1_knownTo 15 = .ok (.aload_n 0, 1) := eX1_knownTo_11.2.2.1
theorem dX1_knownTo_16 : decode cX1_knownTo 16 = .ok (.getfield 20, 3) := eX1_knownTo_11.2.2.2.1
theorem dX1_knownTo_19 : decode cX1_knownTo 19 = .ok (.iload_n 3, 1) := eX1_knownTo_11.2.2.2.2.1
theorem dX1_knownTo_20 : decode cX1_knownTo 20 = .ok (.invokevirtual 45, 3) := eX1_knownTo_11.2.2.2.2.2.1
theorem dX1_knownTo_23 : decode cX1_knownTo 23 = .ok (.iadd, 1) := eX1_knownTo_11.2.2.2.2.2.2.1
theorem dX1_knownTo_24 : decode cX1_knownTo 24 = .ok (.ireturn, 1) := eX1_knownTo_11.2.2.2.2.2.2.2.1
theorem eX1_deal_0 : decode cX1_deal 0 = .ok (.aload_n 0, 1) ∧ decode cX1_deal 1 = .ok (.getfield 14, 3) ∧ decode cX1_deal 4 = .ok (.iload_n 1, 1) ∧ decode cX1_deal 5 = .ok (.bipush 10, 2) ∧ decode cX1_deal 7 = .ok (.imul, 1) ∧ decode cX1_deal 8 = .ok (.iload_n 2, 1) ∧ decode cX1_deal 9 = .ok (.iadd, 1) ∧ decode cX1_deal 10 = .ok (.iload_n 3, 1) ∧ True := dkl_ok (c := cX1_deal) [(.aload_n 0, 1), (.getfield 14, 3), (.iload_n 1, 1), (.bipush 10, 2), (.imul, 1), (.iload_n 2, 1), (.iadd, 1), (.iload_n 3, 1)] 0 (by decide +kernel)
theorem dX1_deal_0 : decode cX1_deal 0 = .ok (.aload_n 0, 1) := eX1_deal_0.1
theorem dX1_deal_1 : decode cX1_deal 1 = .ok (.getfield 14, 3) := eX1_deal_0.2.1
theorem dX1_deal_4 : decode cX1_deal 4 = .ok (.iload_n 1, 1) := eX1_deal_0.2.2.1
theorem dX1_deal_5 : decode cX1_deal 5 = .ok (.bipush 10, 2) := eX1_deal_0.2.2.2.1
theorem dX1_deal_7 : decode cX1_deal 7 = .ok (.imul, 1) := eX1_deal_0.2.2.2.2.1
theorem dX1_deal_8 : decode cX1_deal 8 = .ok (.iload_n 2, 1) := eX1_deal_0.2.2.2.2.2.1
theorem dX1_deal_9 : decode cX1_deal 9 = .ok (.iadd, 1) := eX1_deal_0.2.2.2.2.2.2.1
theorem dX1_deal_10 : decode cX1_deal 10 = .ok (.iload_n 3, 1) := eX1_deal_0.2.2.2.2.2.2.2.1
theorem eX1_deal_11 : decode cX1_deal 11 = .ok (.invokevirtual 53, 3) ∧ decode cX1_deal 14 = .ok (.aload_n 0, 1) ∧ decode cX1_deal 15 = .ok (.getfield 23, 3) ∧ decode cX1_deal 18 = .ok (.iload_n 1, 1) ∧ decode cX1_deal 19 = .ok (.iload_n 3, 1) ∧ decode cX1_deal 20 = .ok (.invokevirtual 53, 3) ∧ decode cX1_deal 23 = .ok (.return_, 1) ∧ True := dkl_ok (c := cX1_deal) [(.invokevirtual 53, 3), (.aload_n 0, 1), (.getfield 23, 3), (.iload_n 1, 1), (.iload_n 3, 1), (.invokevirtual 53, 3), (.return_, 1)] 11 (by decide +kernel)
theorem dX1_deal_11 : decode cX1_deal 11 = .ok (.invokevirtual 53, 3) := eX1_deal_11.1
theorem dX1_deal_14 : decode cX1_deal 14 = .ok (.aload_n 0, 1) := eX1_deal_11.2.1
theorem dX1_deal_15 : decode cX1_deal 15 = .ok (.getfield 23, 3) := eX1_deal_11.2.2.1
theorem dX1_deal_18 : decode cX1_deal 18 = .ok (.iload_n 1, 1) := eX1_deal_11.2.2.2.1
theorem dX1_deal_19 : decode cX1_deal 19 = .ok (.iload_n 3, 1) := eX1_deal_11.2.2.2.2.1
theorem dX1_deal_20 : decode cX1_deal 20 = .ok (.invokevirtual 53, 3) := eX1_deal_11.2.2.2.2.2.1
theorem dX1_deal_23 : decode cX1_deal 23 = .ok (.return_, 1) := eX1_deal_11.2.2.2.2.2.2.1
theorem eX1_moveToHeap_0 : decode cX1_moveToHeap 0 = .ok (.aload_n 0, 1) ∧ decode cX1_moveToHeap 1 = .ok (.iload_n 1, 1) ∧ decode cX1_moveToHeap 2 = .ok (.iload_n 2, 1) ∧ decode cX1_moveToHeap 3 = .ok (.iload_n 3, 1) ∧ decode cX1_moveToHeap 4 = .ok (.ineg, 1) ∧ decode cX1_moveToHeap 5 = .ok (.invokevirtual 57, 3) ∧ decode cX1_moveToHeap 8 = .ok (.aload_n 0, 1) ∧ decode cX1_moveToHeap 9 = .ok (.getfield 20, 3) ∧ True := dkl_ok (c := cX1_moveToHeap) [(.aload_n 0, 1), (.iload_n 1, 1), (.iload_n 2, 1), (.iload_n 3, 1), (.ineg, 1), (.invokevirtual 57, 3), (.aload_n 0, 1), (.getfield 20, 3)] 0 (by decide +kernel)
theorem dX1_moveToHeap_0 : decode cX1_moveToHeap 0 = .ok (.aload_n 0, 1) := eX1_moveToHeap_0.1
theorem dX1_moveToHeap_1 : decode cX1_moveToHeap 1 = .ok (.iload_n 1, 1) := eX1_moveToHeap_0.2.1
theorem dX1_moveToHeap_2 : decode cX1_moveToHeap 2 = .ok (.iload_n 2, 1) := eX1_moveToHeap_0.2.2.1
theorem dX1_moveToHeap_3 : decode cX1_moveToHeap 3 = .ok (.iload_n 3, 1) := eX1_moveToHeap_0.2.2.2.1
theorem dX1_moveToHeap_4 : decode cX1_moveToHeap 4 = .ok (.ineg, 1) := eX1_moveToHeap_0.2.2.2.2.1
theorem dX1_moveToHeap_5 : decode cX1_moveToHeap 5 = .ok (.invokevirtual 57, 3) := eX1_moveToHeap_0.2.2.2.2.2.1
theorem dX1_moveToHeap_8 : decode cX1_moveToHeap 8 = .ok (.aload_n 0, 1) := eX1_moveToHeap_0.2.2.2.2.2.2.1
theorem dX1_moveToHeap_9 : decode cX1_moveToHeap 9 = .ok (.getfield 20, 3) := eX1_moveToHeap_0.2.2.2.2.2.2.2.1
theorem eX1_moveToHeap_12 : decode cX1_moveToHeap 12 = .ok (.iload_n 1, 1) ∧ decode cX1_moveToHeap 13 = .ok (.bipush 10, 2) ∧ decode cX1_moveToHeap 15 = .ok (.imul, 1) ∧ decode cX1_moveToHeap 16 = .ok (.iload_n 2, 1) ∧ decode cX1_moveToHeap 17 = .ok (.iadd, 1) ∧ decode cX1_moveToHeap 18 = .ok (.iload_n 3, 1) ∧ decode cX1_moveToHeap 19 = .ok (.invokevirtual 53, 3) ∧ decode cX1_moveToHeap 22 = .ok (.return_, 1) ∧ True := dkl_ok (c := cX1_moveToHeap) [(.iload_n 1, 1), (.bipush 10, 2), (.imul, 1), (.iload_n 2, 1), (.iadd, 1), (.iload_n 3, 1), (.invokevirtual 53, 3), (.return_, 1)] 12 (by decide +kernel)
theorem dX1_moveToHeap_12 : decode cX1_moveToHeap 12 = .ok (.iload_n 1, 1) := eX1_moveToHeap_12.1
theorem dX1_moveToHeap_13 : decode cX1_moveToHeap 13 = .ok (.bipush 10, 2) := eX1_moveToHeap_12.2.1
theorem dX1_moveToHeap_15 : decode cX1_moveToHeap 15 = .ok (.imul, 1) := eX1_moveToHeap_12.2.2.1
theorem dX1_moveToHeap_16 : decode cX1_moveToHeap 16 = .ok (.iload_n 2, 1) := eX1_moveToHeap_12.2.2.2.1
theorem dX1_moveToHeap_17 : decode cX1_moveToHeap 17 = .ok (.iadd, 1) := eX1_moveToHeap_12.2.2.2.2.1
theorem dX1_moveToHeap_18 : decode cX1_moveToHeap 18 = .ok (.iload_n 3, 1) := eX1_moveToHeap_12.2.2.2.2.2.1
theorem dX1_moveToHeap_19 : decode cX1_moveToHeap 19 = .ok (.invokevirtual 53, 3) := eX1_moveToHeap_12.2.2.2.2.2.2.1
theorem dX1_moveToHeap_22 : decode cX1_moveToHeap 22 = .ok (.return_, 1) := eX1_moveToHeap_12.2.2.2.2.2.2.2.1
theorem eX1_takeHeap_0 : decode cX1_takeHeap 0 = .ok (.iconst 0, 1) ∧ decode cX1_takeHeap 1 = .ok (.istore_n 2, 1) ∧ decode cX1_takeHeap 2 = .ok (.iload_n 2, 1) ∧ decode cX1_takeHeap 3 = .ok (.bipush 6, 2) ∧ decode cX1_takeHeap 5 = .ok (.if_icmp .ge 35, 3) ∧ decode cX1_takeHeap 8 = .ok (.iconst 0, 1) ∧ decode cX1_takeHeap 9 = .ok (.istore_n 3, 1) ∧ decode cX1_takeHeap 10 = .ok (.iload_n 3, 1) ∧ True := dkl_ok (c := cX1_takeHeap) [(.iconst 0, 1), (.istore_n 2, 1), (.iload_n 2, 1), (.bipush 6, 2), (.if_icmp .ge 35, 3), (.iconst 0, 1), (.istore_n 3, 1), (.iload_n 3, 1)] 0 (by decide +kernel)
theorem dX1_takeHeap_0 : decode cX1_takeHeap 0 = .ok (.iconst 0, 1) := eX1_takeHeap_0.1
theorem dX1_takeHeap_1 : decode cX1_takeHeap 1 = .ok (.istore_n 2, 1) := eX1_takeHeap_0.2.1
theorem dX1_takeHeap_2 : decode cX1_takeHeap 2 = .ok (.iload_n 2, 1) := eX1_takeHeap_0.2.2.1
theorem dX1_takeHeap_3 : decode cX1_takeHeap 3 = .ok (.bipush 6, 2) := eX1_takeHeap_0.2.2.2.1
theorem dX1_takeHeap_5 : decode cX1_takeHeap 5 = .ok (.if_icmp .ge 35, 3) := eX1_takeHeap_0.2.2.2.2.1
theorem dX1_takeHeap_8 : decode cX1_takeHeap 8 = .ok (.iconst 0, 1) := eX1_takeHeap_0.2.2.2.2.2.1
theorem dX1_takeHeap_9 : decode cX1_takeHeap 9 = .ok (.istore_n 3, 1) := eX1_takeHeap_0.2.2.2.2.2.2.1
theorem dX1_takeHeap_10 : decode cX1_takeHeap 10 = .ok (.iload_n 3, 1) := eX1_takeHeap_0.2.2.2.2.2.2.2.1
theorem eX1_takeHeap_11 : decode cX1_takeHeap 11 = .ok (.bipush 10, 2) ∧ decode cX1_takeHeap 13 = .ok (.if_icmp .ge 21, 3) ∧ decode cX1_takeHeap 16 = .ok (.aload_n 0, 1) ∧ decode cX1_takeHeap 17 = .ok (.iload_n 1, 1) ∧ decode cX1_takeHeap 18 = .ok (.iload_n 3, 1) ∧ decode cX1_takeHeap 19 = .ok (.aload_n 0, 1) ∧ decode cX1_takeHeap 20 = .ok (.iload_n 2, 1) ∧ decode cX1_takeHeap 21 = .ok (.iload_n 3, 1) ∧ True := dkl_ok (c := cX1_takeHeap) [(.bipush 10, 2), (.if_icmp .ge 21, 3), (.aload_n 0, 1), (.iload_n 1, 1), (.iload_n 3, 1), (.aload_n 0, 1), (.iload_n 2, 1), (.iload_n 3, 1)] 11 (by decide +kernel)
theorem dX1_takeHeap_11 : decode cX1_takeHeap 11 = .ok (.bipush 10, 2) := eX1_takeHeap_11.1
theorem dX1_takeHeap_13 : decode cX1_takeHeap 13 = .ok (.if_icmp .ge 21, 3) := eX1_takeHeap_11.2.1
theorem dX1_takeHeap_16 : decode cX1_takeHeap 16 = .ok (.aload_n 0, 1) := eX1_takeHeap_11.2.2.1
theorem dX1_takeHeap_17 : decode cX1_takeHeap 17 = .ok (.iload_n 1, 1) := eX1_takeHeap_11.2.2.2.1
theorem dX1_takeHeap_18 : decode cX1_takeHeap 18 = .ok (.iload_n 3, 1) := eX1_takeHeap_11.2.2.2.2.1
theorem dX1_takeHeap_19 : decode cX1_takeHeap 19 = .ok (.aload_n 0, 1) := eX1_takeHeap_11.2.2.2.2.2.1
theorem dX1_takeHeap_20 : decode cX1_takeHeap 20 = .ok (.iload_n 2, 1) := eX1_takeHeap_11.2.2.2.2.2.2.1
theorem dX1_takeHeap_21 : decode cX1_takeHeap 21 = .ok (.iload_n 3, 1) := eX1_takeHeap_11.2.2.2.2.2.2.2.1
theorem eX1_takeHeap_22 : decode cX1_takeHeap 22 = .ok (.invokevirtual 61, 3) ∧ decode cX1_takeHeap 25 = .ok (.invokevirtual 57, 3) ∧ decode cX1_takeHeap 28 = .ok (.iinc 3 1, 3) ∧ decode cX1_takeHeap 31 = .ok (.goto (-21), 3) ∧ decode cX1_takeHeap 34 = .ok (.iinc 2 1, 3) ∧ decode cX1_takeHeap 37 = .ok (.goto (-35), 3) ∧ decode cX1_takeHeap 40 = .ok (.aload_n 0, 1) ∧ decode cX1_takeHeap 41 = .ok (.getfield 20, 3) ∧ True := dkl_ok (c := cX1_takeHeap) [(.invokevirtual 61, 3), (.invokevirtual 57, 3), (.iinc 3 1, 3), (.goto (-21), 3), (.iinc 2 1, 3), (.goto (-35), 3), (.aload_n 0, 1), (.getfield 20, 3)] 22 (by decide +kernel)
theorem dX1_takeHeap_22 : decode cX1_takeHeap 22 = .ok (.invokevirtual 61, 3) := eX1_takeHeap_22.1
theorem dX1_takeHeap_25 : decode cX1_takeHeap 25 = .ok (.invokevirtual 57, 3) := eX1_takeHeap_22.2.1
theorem dX1_takeHeap_28 : decode cX1_takeHeap 28 = .ok (.iinc 3 1, 3) := eX1_takeHeap_22.2.2.1
theorem dX1_takeHeap_31 : decode cX1_takeHeap 31 = .ok (.goto (-21), 3) := eX1_takeHeap_22.2.2.2.1
theorem dX1_takeHeap_34 : decode cX1_takeHeap 34 = .ok (.iinc 2 1, 3) := eX1_takeHeap_22.2.2.2.2.1
theorem dX1_takeHeap_37 : decode cX1_takeHeap 37 = .ok (.goto (-35), 3) := eX1_takeHeap_22.2.2.2.2.2.1
theorem dX1_takeHeap_40 : decode cX1_takeHeap 40 = .ok (.aload_n 0, 1) := eX1_takeHeap_22.2.2.2.2.2.2.1
theorem dX1_takeHeap_41 : decode cX1_takeHeap 41 = .ok (.getfield 20, 3) := eX1_takeHeap_22.2.2.2.2.2.2.2.1
theorem eX1_takeHeap_44 : decode cX1_takeHeap 44 = .ok (.invokevirtual 38, 3) ∧ decode cX1_takeHeap 47 = .ok (.return_, 1) ∧ True := dkl_ok (c := cX1_takeHeap) [(.invokevirtual 38, 3), (.return_, 1)] 44 (by decide +kernel)
theorem dX1_takeHeap_44 : decode cX1_takeHeap 44 = .ok (.invokevirtual 38, 3) := eX1_takeHeap_44.1
theorem dX1_takeHeap_47 : decode cX1_takeHeap 47 = .ok (.return_, 1) := eX1_takeHeap_44.2.1
theorem eX1_honestTop_0 : decode cX1_honestTop 0 = .ok (.aload_n 0, 1) ∧ decode cX1_honestTop 1 = .ok (.getfield 32, 3) ∧ decode cX1_honestTop 4 = .ok (.iload_n 1, 1) ∧ decode cX1_honestTop 5 = .ok (.invokevirtual 45, 3) ∧ decode cX1_honestTop 8 = .ok (.aload_n 0, 1) ∧ decode cX1_honestTop 9 = .ok (.getfield 35, 3) ∧ decode cX1_honestTop 12 = .ok (.iload_n 1, 1) ∧ decode cX1_honestTop 13 = .ok (.invokevirtual 45, 3) ∧ True := dkl_ok (c := cX1_honestTop) [(.aload_n 0, 1), (.getfield 32, 3), (.iload_n 1, 1), (.invokevirtual 45, 3), (.aload_n 0, 1), (.getfield 35, 3), (.iload_n 1, 1), (.invokevirtual 45, 3)] 0 (by decide +kernel)
theorem dX1_honestTop_0 : decode cX1_honestTop 0 = .ok (.aload_n 0, 1) := eX1_honestTop_0.1
theorem dX1_honestTop_1 : decode cX1_honestTop 1 = .ok (.getfield 32, 3) := eX1_honestTop_0.2.1
theorem dX1_honestTop_4 : decode cX1_honestTop 4 = .ok (.iload_n 1, 1) := eX1_honestTop_0.2.2.1
theorem dX1_honestTop_5 : decode cX1_honestTop 5 = .ok (.invokevirtual 45, 3) := eX1_honestTop_0.2.2.2.1
theorem dX1_honestTop_8 : decode cX1_honestTop 8 = .ok (.aload_n 0, 1) := eX1_honestTop_0.2.2.2.2.1
theorem dX1_honestTop_9 : decode cX1_honestTop 9 = .ok (.getfield 35, 3) := eX1_honestTop_0.2.2.2.2.2.1
theorem dX1_honestTop_12 : decode cX1_honestTop 12 = .ok (.iload_n 1, 1) := eX1_honestTop_0.2.2.2.2.2.2.1
theorem dX1_honestTop_13 : decode cX1_honestTop 13 = .ok (.invokevirtual 45, 3) := eX1_honestTop_0.2.2.2.2.2.2.2.1
theorem eX1_honestTop_16 : decode cX1_honestTop 16 = .ok (.isub, 1) ∧ decode cX1_honestTop 17 = .ok (.i2l, 1) ∧ decode cX1_honestTop 18 = .ok (.lconst 1, 1) ∧ decode cX1_honestTop 19 = .ok (.ladd, 1) ∧ decode cX1_honestTop 20 = .ok (.lreturn, 1) ∧ True := dkl_ok (c := cX1_honestTop) [(.isub, 1), (.i2l, 1), (.lconst 1, 1), (.ladd, 1), (.lreturn, 1)] 16 (by decide +kernel)
theorem dX1_honestTop_16 : decode cX1_honestTop 16 = .ok (.isub, 1) := eX1_honestTop_16.1
theorem dX1_honestTop_17 : decode cX1_honestTop 17 = .ok (.i2l, 1) := eX1_honestTop_16.2.1
theorem dX1_honestTop_18 : decode cX1_honestTop 18 = .ok (.lconst 1, 1) := eX1_honestTop_16.2.2.1
theorem dX1_honestTop_19 : decode cX1_honestTop 19 = .ok (.ladd, 1) := eX1_honestTop_16.2.2.2.1
theorem dX1_honestTop_20 : decode cX1_honestTop 20 = .ok (.lreturn, 1) := eX1_honestTop_16.2.2.2.2.1
theorem eX1_honestBottom_0 : decode cX1_honestBottom 0 = .ok (.aload_n 0, 1) ∧ decode cX1_honestBottom 1 = .ok (.getfield 32, 3) ∧ decode cX1_honestBottom 4 = .ok (.iload_n 1, 1) ∧ decode cX1_honestBottom 5 = .ok (.invokevirtual 45, 3) ∧ decode cX1_honestBottom 8 = .ok (.i2l, 1) ∧ decode cX1_honestBottom 9 = .ok (.ldc2_w 64, 3) ∧ decode cX1_honestBottom 12 = .ok (.ladd, 1) ∧ decode cX1_honestBottom 13 = .ok (.lreturn, 1) ∧ True := dkl_ok (c := cX1_honestBottom) [(.aload_n 0, 1), (.getfield 32, 3), (.iload_n 1, 1), (.invokevirtual 45, 3), (.i2l, 1), (.ldc2_w 64, 3), (.ladd, 1), (.lreturn, 1)] 0 (by decide +kernel)
theorem dX1_honestBottom_0 : decode cX1_honestBottom 0 = .ok (.aload_n 0, 1) := eX1_honestBottom_0.1
theorem dX1_honestBottom_1 : decode cX1_honestBottom 1 = .ok (.getfield 32, 3) := eX1_honestBottom_0.2.1
theorem dX1_honestBottom_4 : decode cX1_honestBottom 4 = .ok (.iload_n 1, 1) := eX1_honestBottom_0.2.2.1
theorem dX1_honestBottom_5 : decode cX1_honestBottom 5 = .ok (.invokevirtual 45, 3) := eX1_honestBottom_0.2.2.2.1
theorem dX1_honestBottom_8 : decode cX1_honestBottom 8 = .ok (.i2l, 1) := eX1_honestBottom_0.2.2.2.2.1
theorem dX1_honestBottom_9 : decode cX1_honestBottom 9 = .ok (.ldc2_w 64, 3) := eX1_honestBottom_0.2.2.2.2.2.1
theorem dX1_honestBottom_12 : decode cX1_honestBottom 12 = .ok (.ladd, 1) := eX1_honestBottom_0.2.2.2.2.2.2.1
theorem dX1_honestBottom_13 : decode cX1_honestBottom 13 = .ok (.lreturn, 1) := eX1_honestBottom_0.2.2.2.2.2.2.2.1
theorem eX2_init_0 : decode cX2_init 0 = .ok (.aload_n 0, 1) ∧ decode cX2_init 1 = .ok (.invokespecial 3, 3) ∧ decode cX2_init 4 = .ok (.aload_n 0, 1) ∧ decode cX2_init 5 = .ok (.iconst 0, 1) ∧ decode cX2_init 6 = .ok (.putfield 9, 3) ∧ decode cX2_init 9 = .ok (.aload_n 0, 1) ∧ decode cX2_init 10 = .ok (.iconst 0, 1) ∧ decode cX2_init 11 = .ok (.putfield 15, 3) ∧ True := dkl_ok (c := cX2_init) [(.aload_n 0, 1), (.invokespecial 3, 3), (.aload_n 0, 1), (.iconst 0, 1), (.putfield 9, 3), (.aload_n 0, 1), (.iconst 0, 1), (.putfield 15, 3)] 0 (by decide +kernel)
theorem dX2_init_0 : decode cX2_init 0 = .ok (.aload_n 0, 1) := eX2_init_0.1
theorem dX2_init_1 : decode cX2_init 1 = .ok (.invokespecial 3, 3) := eX2_init_0.2.1
theorem dX2_init_4 : decode cX2_init 4 = .ok (.aload_n 0, 1) := eX2_init_0.2.2.1
theorem dX2_init_5 : decode cX2_init 5 = .ok (.iconst 0, 1) := eX2_init_0.2.2.2.1
theorem dX2_init_6 : decode cX2_init 6 = .ok (.putfield 9, 3) := eX2_init_0.2.2.2.2.1
theorem dX2_init_9 : decode cX2_init 9 = .ok (.aload_n 0, 1) := eX2_init_0.2.2.2.2.2.1
theorem dX2_init_10 : decode cX2_init 10 = .ok (.iconst 0, 1) := eX2_init_0.2.2.2.2.2.2.1
theorem dX2_init_11 : decode cX2_init 11 = .ok (.putfield 15, 3) := eX2_init_0.2.2.2.2.2.2.2.1
theorem eX2_init_14 : decode cX2_init 14 = .ok (.aload_n 0, 1) ∧ decode cX2_init 15 = .ok (.new 18, 3) ∧ decode cX2_init 18 = .ok (.dup, 1) ∧ decode cX2_init 19 = .ok (.bipush 80, 2) ∧ decode cX2_init 21 = .ok (.invokespecial 20, 3) ∧ decode cX2_init 24 = .ok (.putfield 23, 3) ∧ decode cX2_init 27 = .ok (.aload_n 0, 1) ∧ decode cX2_init 28 = .ok (.new 18, 3) ∧ True := dkl_ok (c := cX2_init) [(.aload_n 0, 1), (.new 18, 3), (.dup, 1), (.bipush 80, 2), (.invokespecial 20, 3), (.putfield 23, 3), (.aload_n 0, 1), (.new 18, 3)] 14 (by decide +kernel)
theorem dX2_init_14 : decode cX2_init 14 = .ok (.aload_n 0, 1) := eX2_init_14.1
theorem dX2_init_15 : decode cX2_init 15 = .ok (.new 18, 3) := eX2_init_14.2.1
theorem dX2_init_18 : decode cX2_init 18 = .ok (.dup, 1) := eX2_init_14.2.2.1
theorem dX2_init_19 : decode cX2_init 19 = .ok (.bipush 80, 2) := eX2_init_14.2.2.2.1
theorem dX2_init_21 : decode cX2_init 21 = .ok (.invokespecial 20, 3) := eX2_init_14.2.2.2.2.1
theorem dX2_init_24 : decode cX2_init 24 = .ok (.putfield 23, 3) := eX2_init_14.2.2.2.2.2.1
theorem dX2_init_27 : decode cX2_init 27 = .ok (.aload_n 0, 1) := eX2_init_14.2.2.2.2.2.2.1
theorem dX2_init_28 : decode cX2_init 28 = .ok (.new 18, 3) := eX2_init_14.2.2.2.2.2.2.2.1
theorem eX2_init_31 : decode cX2_init 31 = .ok (.dup, 1) ∧ decode cX2_init 32 = .ok (.bipush 80, 2) ∧ decode cX2_init 34 = .ok (.invokespecial 20, 3) ∧ decode cX2_init 37 = .ok (.putfield 27, 3) ∧ decode cX2_init 40 = .ok (.aload_n 0, 1) ∧ decode cX2_init 41 = .ok (.new 18, 3) ∧ decode cX2_init 44 = .ok (.dup, 1) ∧ decode cX2_init 45 = .ok (.bipush 80, 2) ∧ True := dkl_ok (c := cX2_init) [(.dup, 1), (.bipush 80, 2), (.invokespecial 20, 3), (.putfield 27, 3), (.aload_n 0, 1), (.new 18, 3), (.dup, 1), (.bipush 80, 2)] 31 (by decide +kernel)
theorem dX2_init_31 : decode cX2_init 31 = .ok (.dup, 1) := eX2_init_31.1
theorem dX2_init_32 : decode cX2_init 32 = .ok (.bipush 80, 2) := eX2_init_31.2.1
theorem dX2_init_34 : decode cX2_init 34 = .ok (.invokespecial 20, 3) := eX2_init_31.2.2.1
theorem dX2_init_37 : decode cX2_init 37 = .ok (.putfield 27, 3) := eX2_init_31.2.2.2.1
theorem dX2_init_40 : decode cX2_init 40 = .ok (.aload_n 0, 1) := eX2_init_31.2.2.2.2.1
theorem dX2_init_41 : decode cX2_init 41 = .ok (.new 18, 3) := eX2_init_31.2.2.2.2.2.1
theorem dX2_init_44 : decode cX2_init 44 = .ok (.dup, 1) := eX2_init_31.2.2.2.2.2.2.1
theorem dX2_init_45 : decode cX2_init 45 = .ok (.bipush 80, 2) := eX2_init_31.2.2.2.2.2.2.2.1
theorem eX2_init_47 : decode cX2_init 47 = .ok (.invokespecial 20, 3) ∧ decode cX2_init 50 = .ok (.putfield 30, 3) ∧ decode cX2_init 53 = .ok (.aload_n 0, 1) ∧ decode cX2_init 54 = .ok (.new 18, 3) ∧ decode cX2_init 57 = .ok (.dup, 1) ∧ decode cX2_init 58 = .ok (.sipush 320, 3) ∧ decode cX2_init 61 = .ok (.invokespecial 20, 3) ∧ decode cX2_init 64 = .ok (.putfield 33, 3) ∧ True := dkl_ok (c := cX2_init) [(.invokespecial 20, 3), (.putfield 30, 3), (.aload_n 0, 1), (.new 18, 3), (.dup, 1), (.sipush 320, 3), (.invokespecial 20, 3), (.putfield 33, 3)] 47 (by decide +kernel)
theorem dX2_init_47 : decode cX2_init 47 = .ok (.invokespecial 20, 3) := eX2_init_47.1
theorem dX2_init_50 : decode cX2_init 50 = .ok (.putfield 30, 3) := eX2_init_47.2.1
theorem dX2_init_53 : decode cX2_init 53 = .ok (.aload_n 0, 1) := eX2_init_47.2.2.1
theorem dX2_init_54 : decode cX2_init 54 = .ok (.new 18, 3) := eX2_init_47.2.2.2.1
theorem dX2_init_57 : decode cX2_init 57 = .ok (.dup, 1) := eX2_init_47.2.2.2.2.1
theorem dX2_init_58 : decode cX2_init 58 = .ok (.sipush 320, 3) := eX2_init_47.2.2.2.2.2.1
theorem dX2_init_61 : decode cX2_init 61 = .ok (.invokespecial 20, 3) := eX2_init_47.2.2.2.2.2.2.1
theorem dX2_init_64 : decode cX2_init 64 = .ok (.putfield 33, 3) := eX2_init_47.2.2.2.2.2.2.2.1
theorem eX2_init_67 : decode cX2_init 67 = .ok (.return_, 1) ∧ True := dkl_ok (c := cX2_init) [(.return_, 1)] 67 (by decide +kernel)
theorem dX2_init_67 : decode cX2_init 67 = .ok (.return_, 1) := eX2_init_67.1
theorem eX2_clear_0 : decode cX2_clear 0 = .ok (.aload_n 0, 1) ∧ decode cX2_clear 1 = .ok (.iconst 0, 1) ∧ decode cX2_clear 2 = .ok (.putfield 9, 3) ∧ decode cX2_clear 5 = .ok (.aload_n 0, 1) ∧ decode cX2_clear 6 = .ok (.iconst 0, 1) ∧ decode cX2_clear 7 = .ok (.putfield 15, 3) ∧ decode cX2_clear 10 = .ok (.return_, 1) ∧ True := dkl_ok (c := cX2_clear) [(.aload_n 0, 1), (.iconst 0, 1), (.putfield 9, 3), (.aload_n 0, 1), (.iconst 0, 1), (.putfield 15, 3), (.return_, 1)] 0 (by decide +kernel)
theorem dX2_clear_0 : decode cX2_clear 0 = .ok (.aload_n 0, 1) := eX2_clear_0.1
theorem dX2_clear_1 : decode cX2_clear 1 = .ok (.iconst 0, 1) := eX2_clear_0.2.1
theorem dX2_clear_2 : decode cX2_clear 2 = .ok (.putfield 9, 3) := eX2_clear_0.2.2.1
theorem dX2_clear_5 : decode cX2_clear 5 = .ok (.aload_n 0, 1) := eX2_clear_0.2.2.2.1
theorem dX2_clear_6 : decode cX2_clear 6 = .ok (.iconst 0, 1) := eX2_clear_0.2.2.2.2.1
theorem dX2_clear_7 : decode cX2_clear 7 = .ok (.putfield 15, 3) := eX2_clear_0.2.2.2.2.2.1
theorem dX2_clear_10 : decode cX2_clear 10 = .ok (.return_, 1) := eX2_clear_0.2.2.2.2.2.2.1
theorem eX2_copyFrom_0 : decode cX2_copyFrom 0 = .ok (.aload_n 0, 1) ∧ decode cX2_copyFrom 1 = .ok (.aload_n 1, 1) ∧ decode cX2_copyFrom 2 = .ok (.getfield 9, 3) ∧ decode cX2_copyFrom 5 = .ok (.putfield 9, 3) ∧ decode cX2_copyFrom 8 = .ok (.aload_n 0, 1) ∧ decode cX2_copyFrom 9 = .ok (.aload_n 1, 1) ∧ decode cX2_copyFrom 10 = .ok (.getfield 15, 3) ∧ decode cX2_copyFrom 13 = .ok (.putfield 15, 3) ∧ True := dkl_ok (c := cX2_copyFrom) [(.aload_n 0, 1), (.aload_n 1, 1), (.getfield 9, 3), (.putfield 9, 3), (.aload_n 0, 1), (.aload_n 1, 1), (.getfield 15, 3), (.putfield 15, 3)] 0 (by decide +kernel)
theorem dX2_copyFrom_0 : decode cX2_copyFrom 0 = .ok (.aload_n 0, 1) := eX2_copyFrom_0.1
theorem dX2_copyFrom_1 : decode cX2_copyFrom 1 = .ok (.aload_n 1, 1) := eX2_copyFrom_0.2.1
theorem dX2_copyFrom_2 : decode cX2_copyFrom 2 = .ok (.getfield 9, 3) := eX2_copyFrom_0.2.2.1
theorem dX2_copyFrom_5 : decode cX2_copyFrom 5 = .ok (.putfield 9, 3) := eX2_copyFrom_0.2.2.2.1
theorem dX2_copyFrom_8 : decode cX2_copyFrom 8 = .ok (.aload_n 0, 1) := eX2_copyFrom_0.2.2.2.2.1
theorem dX2_copyFrom_9 : decode cX2_copyFrom 9 = .ok (.aload_n 1, 1) := eX2_copyFrom_0.2.2.2.2.2.1
theorem dX2_copyFrom_10 : decode cX2_copyFrom 10 = .ok (.getfield 15, 3) := eX2_copyFrom_0.2.2.2.2.2.2.1
theorem dX2_copyFrom_13 : decode cX2_copyFrom 13 = .ok (.putfield 15, 3) := eX2_copyFrom_0.2.2.2.2.2.2.2.1
theorem eX2_copyFrom_16 : decode cX2_copyFrom 16 = .ok (.aload_n 0, 1) ∧ decode cX2_copyFrom 17 = .ok (.getfield 23, 3) ∧ decode cX2_copyFrom 20 = .ok (.aload_n 1, 1) ∧ decode cX2_copyFrom 21 = .ok (.getfield 23, 3) ∧ decode cX2_copyFrom 24 = .ok (.invokevirtual 36, 3) ∧ decode cX2_copyFrom 27 = .ok (.aload_n 0, 1) ∧ decode cX2_copyFrom 28 = .ok (.getfield 27, 3) ∧ decode cX2_copyFrom 31 = .ok (.aload_n 1, 1) ∧ True := dkl_ok (c := cX2_copyFrom) [(.aload_n 0, 1), (.getfield 23, 3), (.aload_n 1, 1), (.getfield 23, 3), (.invokevirtual 36, 3), (.aload_n 0, 1), (.getfield 27, 3), (.aload_n 1, 1)] 16 (by decide +kernel)
theorem dX2_copyFrom_16 : decode cX2_copyFrom 16 = .ok (.aload_n 0, 1) := eX2_copyFrom_16.1
theorem dX2_copyFrom_17 : decode cX2_copyFrom 17 = .ok (.getfield 23, 3) := eX2_copyFrom_16.2.1
theorem dX2_copyFrom_20 : decode cX2_copyFrom 20 = .ok (.aload_n 1, 1) := eX2_copyFrom_16.2.2.1
theorem dX2_copyFrom_21 : decode cX2_copyFrom 21 = .ok (.getfield 23, 3) := eX2_copyFrom_16.2.2.2.1
theorem dX2_copyFrom_24 : decode cX2_copyFrom 24 = .ok (.invokevirtual 36, 3) := eX2_copyFrom_16.2.2.2.2.1
theorem dX2_copyFrom_27 : decode cX2_copyFrom 27 = .ok (.aload_n 0, 1) := eX2_copyFrom_16.2.2.2.2.2.1
theorem dX2_copyFrom_28 : decode cX2_copyFrom 28 = .ok (.getfield 27, 3) := eX2_copyFrom_16.2.2.2.2.2.2.1
theorem dX2_copyFrom_31 : decode cX2_copyFrom 31 = .ok (.aload_n 1, 1) := eX2_copyFrom_16.2.2.2.2.2.2.2.1
theorem eX2_copyFrom_32 : decode cX2_copyFrom 32 = .ok (.getfield 27, 3) ∧ decode cX2_copyFrom 35 = .ok (.invokevirtual 36, 3) ∧ decode cX2_copyFrom 38 = .ok (.aload_n 0, 1) ∧ decode cX2_copyFrom 39 = .ok (.getfield 30, 3) ∧ decode cX2_copyFrom 42 = .ok (.aload_n 1, 1) ∧ decode cX2_copyFrom 43 = .ok (.getfield 30, 3) ∧ decode cX2_copyFrom 46 = .ok (.invokevirtual 36, 3) ∧ decode cX2_copyFrom 49 = .ok (.aload_n 0, 1) ∧ True := dkl_ok (c := cX2_copyFrom) [(.getfield 27, 3), (.invokevirtual 36, 3), (.aload_n 0, 1), (.getfield 30, 3), (.aload_n 1, 1), (.getfield 30, 3), (.invokevirtual 36, 3), (.aload_n 0, 1)] 32 (by decide +kernel)
theorem dX2_copyFrom_32 : decode cX2_copyFrom 32 = .ok (.getfield 27, 3) := eX2_copyFrom_32.1
theorem dX2_copyFrom_35 : decode cX2_copyFrom 35 = .ok (.invokevirtual 36, 3) := eX2_copyFrom_32.2.1
theorem dX2_copyFrom_38 : decode cX2_copyFrom 38 = .ok (.aload_n 0, 1) := eX2_copyFrom_32.2.2.1
theorem dX2_copyFrom_39 : decode cX2_copyFrom 39 = .ok (.getfield 30, 3) := eX2_copyFrom_32.2.2.2.1
theorem dX2_copyFrom_42 : decode cX2_copyFrom 42 = .ok (.aload_n 1, 1) := eX2_copyFrom_32.2.2.2.2.1
theorem dX2_copyFrom_43 : decode cX2_copyFrom 43 = .ok (.getfield 30, 3) := eX2_copyFrom_32.2.2.2.2.2.1
theorem dX2_copyFrom_46 : decode cX2_copyFrom 46 = .ok (.invokevirtual 36, 3) := eX2_copyFrom_32.2.2.2.2.2.2.1
theorem dX2_copyFrom_49 : decode cX2_copyFrom 49 = .ok (.aload_n 0, 1) := eX2_copyFrom_32.2.2.2.2.2.2.2.1
theorem eX2_copyFrom_50 : decode cX2_copyFrom 50 = .ok (.getfield 33, 3) ∧ decode cX2_copyFrom 53 = .ok (.aload_n 1, 1) ∧ decode cX2_copyFrom 54 = .ok (.getfield 33, 3) ∧ decode cX2_copyFrom 57 = .ok (.invokevirtual 36, 3) ∧ decode cX2_copyFrom 60 = .ok (.return_, 1) ∧ True := dkl_ok (c := cX2_copyFrom) [(.getfield 33, 3), (.aload_n 1, 1), (.getfield 33, 3), (.invokevirtual 36, 3), (.return_, 1)] 50 (by decide +kernel)
theorem dX2_copyFrom_50 : decode cX2_copyFrom 50 = .ok (.getfield 33, 3) := eX2_copyFrom_50.1
theorem dX2_copyFrom_53 : decode cX2_copyFrom 53 = .ok (.aload_n 1, 1) := eX2_copyFrom_50.2.1
theorem dX2_copyFrom_54 : decode cX2_copyFrom 54 = .ok (.getfield 33, 3) := eX2_copyFrom_50.2.2.1
theorem dX2_copyFrom_57 : decode cX2_copyFrom 57 = .ok (.invokevirtual 36, 3) := eX2_copyFrom_50.2.2.2.1
theorem dX2_copyFrom_60 : decode cX2_copyFrom 60 = .ok (.return_, 1) := eX2_copyFrom_50.2.2.2.2.1
theorem eX2_begin_0 : decode cX2_begin 0 = .ok (.aload_n 0, 1) ∧ decode cX2_begin 1 = .ok (.getfield 23, 3) ∧ decode cX2_begin 4 = .ok (.aload_n 0, 1) ∧ decode cX2_begin 5 = .ok (.getfield 9, 3) ∧ decode cX2_begin 8 = .ok (.iload_n 1, 1) ∧ decode cX2_begin 9 = .ok (.invokevirtual 40, 3) ∧ decode cX2_begin 12 = .ok (.aload_n 0, 1) ∧ decode cX2_begin 13 = .ok (.getfield 27, 3) ∧ True := dkl_ok (c := cX2_begin) [(.aload_n 0, 1), (.getfield 23, 3), (.aload_n 0, 1), (.getfield 9, 3), (.iload_n 1, 1), (.invokevirtual 40, 3), (.aload_n 0, 1), (.getfield 27, 3)] 0 (by decide +kernel)
theorem dX2_begin_0 : decode cX2_begin 0 = .ok (.aload_n 0, 1) := eX2_begin_0.1
theorem dX2_begin_1 : decode cX2_begin 1 = .ok (.getfield 23, 3) := eX2_begin_0.2.1
theorem dX2_begin_4 : decode cX2_begin 4 = .ok (.aload_n 0, 1) := eX2_begin_0.2.2.1
theorem dX2_begin_5 : decode cX2_begin 5 = .ok (.getfield 9, 3) := eX2_begin_0.2.2.2.1
theorem dX2_begin_8 : decode cX2_begin 8 = .ok (.iload_n 1, 1) := eX2_begin_0.2.2.2.2.1
theorem dX2_begin_9 : decode cX2_begin 9 = .ok (.invokevirtual 40, 3) := eX2_begin_0.2.2.2.2.2.1
theorem dX2_begin_12 : decode cX2_begin 12 = .ok (.aload_n 0, 1) := eX2_begin_0.2.2.2.2.2.2.1
theorem dX2_begin_13 : decode cX2_begin 13 = .ok (.getfield 27, 3) := eX2_begin_0.2.2.2.2.2.2.2.1
theorem eX2_begin_16 : decode cX2_begin 16 = .ok (.aload_n 0, 1) ∧ decode cX2_begin 17 = .ok (.getfield 9, 3) ∧ decode cX2_begin 20 = .ok (.iload_n 2, 1) ∧ decode cX2_begin 21 = .ok (.invokevirtual 40, 3) ∧ decode cX2_begin 24 = .ok (.aload_n 0, 1) ∧ decode cX2_begin 25 = .ok (.getfield 30, 3) ∧ decode cX2_begin 28 = .ok (.aload_n 0, 1) ∧ decode cX2_begin 29 = .ok (.getfield 9, 3) ∧ True := dkl_ok (c := cX2_begin) [(.aload_n 0, 1), (.getfield 9, 3), (.iload_n 2, 1), (.invokevirtual 40, 3), (.aload_n 0, 1), (.getfield 30, 3), (.aload_n 0, 1), (.getfield 9, 3)] 16 (by decide +kernel)
theorem dX2_begin_16 : decode cX2_begin 16 = .ok (.aload_n 0, 1) := eX2_begin_16.1
theorem dX2_begin_17 : decode cX2_begin 17 = .ok (.getfield 9, 3) := eX2_begin_16.2.1
theorem dX2_begin_20 : decode cX2_begin 20 = .ok (.iload_n 2, 1) := eX2_begin_16.2.2.1
theorem dX2_begin_21 : decode cX2_begin 21 = .ok (.invokevirtual 40, 3) := eX2_begin_16.2.2.2.1
theorem dX2_begin_24 : decode cX2_begin 24 = .ok (.aload_n 0, 1) := eX2_begin_16.2.2.2.2.1
theorem dX2_begin_25 : decode cX2_begin 25 = .ok (.getfield 30, 3) := eX2_begin_16.2.2.2.2.2.1
theorem dX2_begin_28 : decode cX2_begin 28 = .ok (.aload_n 0, 1) := eX2_begin_16.2.2.2.2.2.2.1
theorem dX2_begin_29 : decode cX2_begin 29 = .ok (.getfield 9, 3) := eX2_begin_16.2.2.2.2.2.2.2.1
theorem eX2_begin_32 : decode cX2_begin 32 = .ok (.iconst 0, 1) ∧ decode cX2_begin 33 = .ok (.invokevirtual 40, 3) ∧ decode cX2_begin 36 = .ok (.aload_n 0, 1) ∧ decode cX2_begin 37 = .ok (.dup, 1) ∧ decode cX2_begin 38 = .ok (.getfield 9, 3) ∧ decode cX2_begin 41 = .ok (.iconst 1, 1) ∧ decode cX2_begin 42 = .ok (.iadd, 1) ∧ decode cX2_begin 43 = .ok (.putfield 9, 3) ∧ True := dkl_ok (c := cX2_begin) [(.iconst 0, 1), (.invokevirtual 40, 3), (.aload_n 0, 1), (.dup, 1), (.getfield 9, 3), (.iconst 1, 1), (.iadd, 1), (.putfield 9, 3)] 32 (by decide +kernel)
theorem dX2_begin_32 : decode cX2_begin 32 = .ok (.iconst 0, 1) := eX2_begin_32.1
theorem dX2_begin_33 : decode cX2_begin 33 = .ok (.invokevirtual 40, 3) := eX2_begin_32.2.1
theorem dX2_begin_36 : decode cX2_begin 36 = .ok (.aload_n 0, 1) := eX2_begin_32.2.2.1
theorem dX2_begin_37 : decode cX2_begin 37 = .ok (.dup, 1) := eX2_begin_32.2.2.2.1
theorem dX2_begin_38 : decode cX2_begin 38 = .ok (.getfield 9, 3) := eX2_begin_32.2.2.2.2.1
theorem dX2_begin_41 : decode cX2_begin 41 = .ok (.iconst 1, 1) := eX2_begin_32.2.2.2.2.2.1
theorem dX2_begin_42 : decode cX2_begin 42 = .ok (.iadd, 1) := eX2_begin_32.2.2.2.2.2.2.1
theorem dX2_begin_43 : decode cX2_begin 43 = .ok (.putfield 9, 3) := eX2_begin_32.2.2.2.2.2.2.2.1
theorem eX2_begin_46 : decode cX2_begin 46 = .ok (.return_, 1) ∧ True := dkl_ok (c := cX2_begin) [(.return_, 1)] 46 (by decide +kernel)
theorem dX2_begin_46 : decode cX2_begin 46 = .ok (.return_, 1) := eX2_begin_46.1
theorem eX2_add_0 : decode cX2_add 0 = .ok (.aload_n 0, 1) ∧ decode cX2_add 1 = .ok (.getfield 9, 3) ∧ decode cX2_add 4 = .ok (.iconst 1, 1) ∧ decode cX2_add 5 = .ok (.isub, 1) ∧ decode cX2_add 6 = .ok (.istore_n 3, 1) ∧ decode cX2_add 7 = .ok (.iconst 0, 1) ∧ decode cX2_add 8 = .ok (.istore 4, 2) ∧ decode cX2_add 10 = .ok (.iload 4, 2) ∧ True := dkl_ok (c := cX2_add) [(.aload_n 0, 1), (.getfield 9, 3), (.iconst 1, 1), (.isub, 1), (.istore_n 3, 1), (.iconst 0, 1), (.istore 4, 2), (.iload 4, 2)] 0 (by decide +kernel)
theorem dX2_add_0 : decode cX2_add 0 = .ok (.aload_n 0, 1) := eX2_add_0.1
theorem dX2_add_1 : decode cX2_add 1 = .ok (.getfield 9, 3) := eX2_add_0.2.1
theorem dX2_add_4 : decode cX2_add 4 = .ok (.iconst 1, 1) := eX2_add_0.2.2.1
theorem dX2_add_5 : decode cX2_add 5 = .ok (.isub, 1) := eX2_add_0.2.2.2.1
theorem dX2_add_6 : decode cX2_add 6 = .ok (.istore_n 3, 1) := eX2_add_0.2.2.2.2.1
theorem dX2_add_7 : decode cX2_add 7 = .ok (.iconst 0, 1) := eX2_add_0.2.2.2.2.2.1
theorem dX2_add_8 : decode cX2_add 8 = .ok (.istore 4, 2) := eX2_add_0.2.2.2.2.2.2.1
theorem dX2_add_10 : decode cX2_add 10 = .ok (.iload 4, 2) := eX2_add_0.2.2.2.2.2.2.2.1
theorem eX2_add_12 : decode cX2_add 12 = .ok (.iload_n 2, 1) ∧ decode cX2_add 13 = .ok (.if_icmp .ge 48, 3) ∧ decode cX2_add 16 = .ok (.aload_n 0, 1) ∧ decode cX2_add 17 = .ok (.getfield 33, 3) ∧ decode cX2_add 20 = .ok (.iload_n 3, 1) ∧ decode cX2_add 21 = .ok (.iconst 4, 1) ∧ decode cX2_add 22 = .ok (.imul, 1) ∧ decode cX2_add 23 = .ok (.aload_n 0, 1) ∧ True := dkl_ok (c := cX2_add) [(.iload_n 2, 1), (.if_icmp .ge 48, 3), (.aload_n 0, 1), (.getfield 33, 3), (.iload_n 3, 1), (.iconst 4, 1), (.imul, 1), (.aload_n 0, 1)] 12 (by decide +kernel)
theorem dX2_add_12 : decode cX2_add 12 = .ok (.iload_n 2, 1) := eX2_add_12.1
theorem dX2_add_13 : decode cX2_add 13 = .ok (.if_icmp .ge 48, 3) := eX2_add_12.2.1
theorem dX2_add_16 : decode cX2_add 16 = .ok (.aload_n 0, 1) := eX2_add_12.2.2.1
theorem dX2_add_17 : decode cX2_add 17 = .ok (.getfield 33, 3) := eX2_add_12.2.2.2.1
theorem dX2_add_20 : decode cX2_add 20 = .ok (.iload_n 3, 1) := eX2_add_12.2.2.2.2.1
theorem dX2_add_21 : decode cX2_add 21 = .ok (.iconst 4, 1) := eX2_add_12.2.2.2.2.2.1
theorem dX2_add_22 : decode cX2_add 22 = .ok (.imul, 1) := eX2_add_12.2.2.2.2.2.2.1
theorem dX2_add_23 : decode cX2_add 23 = .ok (.aload_n 0, 1) := eX2_add_12.2.2.2.2.2.2.2.1
theorem eX2_add_24 : decode cX2_add 24 = .ok (.getfield 30, 3) ∧ decode cX2_add 27 = .ok (.iload_n 3, 1) ∧ decode cX2_add 28 = .ok (.invokevirtual 44, 3) ∧ decode cX2_add 31 = .ok (.iadd, 1) ∧ decode cX2_add 32 = .ok (.iload_n 1, 1) ∧ decode cX2_add 33 = .ok (.invokevirtual 40, 3) ∧ decode cX2_add 36 = .ok (.aload_n 0, 1) ∧ decode cX2_add 37 = .ok (.getfield 30, 3) ∧ True := dkl_ok (c := cX2_add) [(.getfield 30, 3), (.iload_n 3, 1), (.invokevirtual 44, 3), (.iadd, 1), (.iload_n 1, 1), (.invokevirtual 40, 3), (.aload_n 0, 1), (.getfield 30, 3)] 24 (by decide +kernel)
theorem dX2_add_24 : decode cX2_add 24 = .ok (.getfield 30, 3) := eX2_add_24.1
theorem dX2_add_27 : decode cX2_add 27 = .ok (.iload_n 3, 1) := eX2_add_24.2.1
theorem dX2_add_28 : decode cX2_add 28 = .ok (.invokevirtual 44, 3) := eX2_add_24.2.2.1
theorem dX2_add_31 : decode cX2_add 31 = .ok (.iadd, 1) := eX2_add_24.2.2.2.1
theorem dX2_add_32 : decode cX2_add 32 = .ok (.iload_n 1, 1) := eX2_add_24.2.2.2.2.1
theorem dX2_add_33 : decode cX2_add 33 = .ok (.invokevirtual 40, 3) := eX2_add_24.2.2.2.2.2.1
theorem dX2_add_36 : decode cX2_add 36 = .ok (.aload_n 0, 1) := eX2_add_24.2.2.2.2.2.2.1
theorem dX2_add_37 : decode cX2_add 37 = .ok (.getfield 30, 3) := eX2_add_24.2.2.2.2.2.2.2.1
theorem eX2_add_40 : decode cX2_add 40 = .ok (.iload_n 3, 1) ∧ decode cX2_add 41 = .ok (.iconst 1, 1) ∧ decode cX2_add 42 = .ok (.invokevirtual 48, 3) ∧ decode cX2_add 45 = .ok (.aload_n 0, 1) ∧ decode cX2_add 46 = .ok (.dup, 1) ∧ decode cX2_add 47 = .ok (.getfield 15, 3) ∧ decode cX2_add 50 = .ok (.iconst 1, 1) ∧ decode cX2_add 51 = .ok (.iadd, 1) ∧ True := dkl_ok (c := cX2_add) [(.iload_n 3, 1), (.iconst 1, 1), (.invokevirtual 48, 3), (.aload_n 0, 1), (.dup, 1), (.getfield 15, 3), (.iconst 1, 1), (.iadd, 1)] 40 (by decide +kernel)
theorem dX2_add_40 : decode cX2_add 40 = .ok (.iload_n 3, 1) := eX2_add_40.1
theorem dX2_add_41 : decode cX2_add 41 = .ok (.iconst 1, 1) := eX2_add_40.2.1
theorem dX2_add_42 : decode cX2_add 42 = .ok (.invokevirtual 48, 3) := eX2_add_40.2.2.1
theorem dX2_add_45 : decode cX2_add 45 = .ok (.aload_n 0, 1) := eX2_add_40.2.2.2.1
theorem dX2_add_46 : decode cX2_add 46 = .ok (.dup, 1) := eX2_add_40.2.2.2.2.1
theorem dX2_add_47 : decode cX2_add 47 = .ok (.getfield 15, 3) := eX2_add_40.2.2.2.2.2.1
theorem dX2_add_50 : decode cX2_add 50 = .ok (.iconst 1, 1) := eX2_add_40.2.2.2.2.2.2.1
theorem dX2_add_51 : decode cX2_add 51 = .ok (.iadd, 1) := eX2_add_40.2.2.2.2.2.2.2.1
theorem eX2_add_52 : decode cX2_add 52 = .ok (.putfield 15, 3) ∧ decode cX2_add 55 = .ok (.iinc 4 1, 3) ∧ decode cX2_add 58 = .ok (.goto (-48), 3) ∧ decode cX2_add 61 = .ok (.return_, 1) ∧ True := dkl_ok (c := cX2_add) [(.putfield 15, 3), (.iinc 4 1, 3), (.goto (-48), 3), (.return_, 1)] 52 (by decide +kernel)
theorem dX2_add_52 : decode cX2_add 52 = .ok (.putfield 15, 3) := eX2_add_52.1
theorem dX2_add_55 : decode cX2_add 55 = .ok (.iinc 4 1, 3) := eX2_add_52.2.1
theorem dX2_add_58 : decode cX2_add 58 = .ok (.goto (-48), 3) := eX2_add_52.2.2.1
theorem dX2_add_61 : decode cX2_add 61 = .ok (.return_, 1) := eX2_add_52.2.2.2.1
theorem eX2_kindOf_0 : decode cX2_kindOf 0 = .ok (.aload_n 0, 1) ∧ decode cX2_kindOf 1 = .ok (.getfield 33, 3) ∧ decode cX2_kindOf 4 = .ok (.iload_n 1, 1) ∧ decode cX2_kindOf 5 = .ok (.iconst 4, 1) ∧ decode cX2_kindOf 6 = .ok (.imul, 1) ∧ decode cX2_kindOf 7 = .ok (.iload_n 2, 1) ∧ decode cX2_kindOf 8 = .ok (.iadd, 1) ∧ decode cX2_kindOf 9 = .ok (.invokevirtual 44, 3) ∧ True := dkl_ok (c := cX2_kindOf) [(.aload_n 0, 1), (.getfield 33, 3), (.iload_n 1, 1), (.iconst 4, 1), (.imul, 1), (.iload_n 2, 1), (.iadd, 1), (.invokevirtual 44, 3)] 0 (by decide +kernel)
theorem dX2_kindOf_0 : decode cX2_kindOf 0 = .ok (.aload_n 0, 1) := eX2_kindOf_0.1
theorem dX2_kindOf_1 : decode cX2_kindOf 1 = .ok (.getfield 33, 3) := eX2_kindOf_0.2.1
theorem dX2_kindOf_4 : decode cX2_kindOf 4 = .ok (.iload_n 1, 1) := eX2_kindOf_0.2.2.1
theorem dX2_kindOf_5 : decode cX2_kindOf 5 = .ok (.iconst 4, 1) := eX2_kindOf_0.2.2.2.1
theorem dX2_kindOf_6 : decode cX2_kindOf 6 = .ok (.imul, 1) := eX2_kindOf_0.2.2.2.2.1
theorem dX2_kindOf_7 : decode cX2_kindOf 7 = .ok (.iload_n 2, 1) := eX2_kindOf_0.2.2.2.2.2.1
theorem dX2_kindOf_8 : decode cX2_kindOf 8 = .ok (.iadd, 1) := eX2_kindOf_0.2.2.2.2.2.2.1
theorem dX2_kindOf_9 : decode cX2_kindOf 9 = .ok (.invokevirtual 44, 3) := eX2_kindOf_0.2.2.2.2.2.2.2.1
theorem eX2_kindOf_12 : decode cX2_kindOf 12 = .ok (.ireturn, 1) ∧ True := dkl_ok (c := cX2_kindOf) [(.ireturn, 1)] 12 (by decide +kernel)
theorem dX2_kindOf_12 : decode cX2_kindOf 12 = .ok (.ireturn, 1) := eX2_kindOf_12.1
theorem eX2_truth_0 : decode cX2_truth 0 = .ok (.iconst 0, 1) ∧ decode cX2_truth 1 = .ok (.istore_n 2, 1) ∧ decode cX2_truth 2 = .ok (.iconst 0, 1) ∧ decode cX2_truth 3 = .ok (.istore_n 3, 1) ∧ decode cX2_truth 4 = .ok (.iload_n 3, 1) ∧ decode cX2_truth 5 = .ok (.aload_n 0, 1) ∧ decode cX2_truth 6 = .ok (.getfield 30, 3) ∧ decode cX2_truth 9 = .ok (.iload_n 1, 1) ∧ True := dkl_ok (c := cX2_truth) [(.iconst 0, 1), (.istore_n 2, 1), (.iconst 0, 1), (.istore_n 3, 1), (.iload_n 3, 1), (.aload_n 0, 1), (.getfield 30, 3), (.iload_n 1, 1)] 0 (by decide +kernel)
theorem dX2_truth_0 : decode cX2_truth 0 = .ok (.iconst 0, 1) := eX2_truth_0.1
theorem dX2_truth_1 : decode cX2_truth 1 = .ok (.istore_n 2, 1) := eX2_truth_0.2.1
theorem dX2_truth_2 : decode cX2_truth 2 = .ok (.iconst 0, 1) := eX2_truth_0.2.2.1
theorem dX2_truth_3 : decode cX2_truth 3 = .ok (.istore_n 3, 1) := eX2_truth_0.2.2.2.1
theorem dX2_truth_4 : decode cX2_truth 4 = .ok (.iload_n 3, 1) := eX2_truth_0.2.2.2.2.1
theorem dX2_truth_5 : decode cX2_truth 5 = .ok (.aload_n 0, 1) := eX2_truth_0.2.2.2.2.2.1
theorem dX2_truth_6 : decode cX2_truth 6 = .ok (.getfield 30, 3) := eX2_truth_0.2.2.2.2.2.2.1
theorem dX2_truth_9 : decode cX2_truth 9 = .ok (.iload_n 1, 1) := eX2_truth_0.2.2.2.2.2.2.2.1
theorem eX2_truth_10 : decode cX2_truth 10 = .ok (.invokevirtual 44, 3) ∧ decode cX2_truth 13 = .ok (.if_icmp .ge 35, 3) ∧ decode cX2_truth 16 = .ok (.aload_n 0, 1) ∧ decode cX2_truth 17 = .ok (.getfield 33, 3) ∧ decode cX2_truth 20 = .ok (.iload_n 1, 1) ∧ decode cX2_truth 21 = .ok (.iconst 4, 1) ∧ decode cX2_truth 22 = .ok (.imul, 1) ∧ decode cX2_truth 23 = .ok (.iload_n 3, 1) ∧ True := dkl_ok (c := cX2_truth) [(.invokevirtual 44, 3), (.if_icmp .ge 35, 3), (.aload_n 0, 1), (.getfield 33, 3), (.iload_n 1, 1), (.iconst 4, 1), (.imul, 1), (.iload_n 3, 1)] 10 (by decide +kernel)
theorem dX2_truth_10 : decode cX2_truth 10 = .ok (.invokevirtual 44, 3) := eX2_truth_10.1
theorem dX2_truth_13 : decode cX2_truth 13 = .ok (.if_icmp .ge 35, 3) := eX2_truth_10.2.1
theorem dX2_truth_16 : decode cX2_truth 16 = .ok (.aload_n 0, 1) := eX2_truth_10.2.2.1
theorem dX2_truth_17 : decode cX2_truth 17 = .ok (.getfield 33, 3) := eX2_truth_10.2.2.2.1
theorem dX2_truth_20 : decode cX2_truth 20 = .ok (.iload_n 1, 1) := eX2_truth_10.2.2.2.2.1
theorem dX2_truth_21 : decode cX2_truth 21 = .ok (.iconst 4, 1) := eX2_truth_10.2.2.2.2.2.1
theorem dX2_truth_22 : decode cX2_truth 22 = .ok (.imul, 1) := eX2_truth_10.2.2.2.2.2.2.1
theorem dX2_truth_23 : decode cX2_truth 23 = .ok (.iload_n 3, 1) := eX2_truth_10.2.2.2.2.2.2.2.1
theorem eX2_truth_24 : decode cX2_truth 24 = .ok (.iadd, 1) ∧ decode cX2_truth 25 = .ok (.invokevirtual 44, 3) ∧ decode cX2_truth 28 = .ok (.aload_n 0, 1) ∧ decode cX2_truth 29 = .ok (.getfield 27, 3) ∧ decode cX2_truth 32 = .ok (.iload_n 1, 1) ∧ decode cX2_truth 33 = .ok (.invokevirtual 44, 3) ∧ decode cX2_truth 36 = .ok (.if_icmp .ne 6, 3) ∧ decode cX2_truth 39 = .ok (.iinc 2 1, 3) ∧ True := dkl_ok (c := cX2_truth) [(.iadd, 1), (.invokevirtual 44, 3), (.aload_n 0, 1), (.getfield 27, 3), (.iload_n 1, 1), (.invokevirtual 44, 3), (.if_icmp .ne 6, 3), (.iinc 2 1, 3)] 24 (by decide +kernel)
theorem dX2_truth_24 : decode cX2_truth 24 = .ok (.iadd, 1) := eX2_truth_24.1
theorem dX2_truth_25 : decode cX2_truth 25 = .ok (.invokevirtual 44, 3) := eX2_truth_24.2.1
theorem dX2_truth_28 : decode cX2_truth 28 = .ok (.aload_n 0, 1) := eX2_truth_24.2.2.1
theorem dX2_truth_29 : decode cX2_truth 29 = .ok (.getfield 27, 3) := eX2_truth_24.2.2.2.1
theorem dX2_truth_32 : decode cX2_truth 32 = .ok (.iload_n 1, 1) := eX2_truth_24.2.2.2.2.1
theorem dX2_truth_33 : decode cX2_truth 33 = .ok (.invokevirtual 44, 3) := eX2_truth_24.2.2.2.2.2.1
theorem dX2_truth_36 : decode cX2_truth 36 = .ok (.if_icmp .ne 6, 3) := eX2_truth_24.2.2.2.2.2.2.1
theorem dX2_truth_39 : decode cX2_truth 39 = .ok (.iinc 2 1, 3) := eX2_truth_24.2.2.2.2.2.2.2.1
theorem eX2_truth_42 : decode cX2_truth 42 = .ok (.iinc 3 1, 3) ∧ decode cX2_truth 45 = .ok (.goto (-41), 3) ∧ decode cX2_truth 48 = .ok (.iload_n 2, 1) ∧ decode cX2_truth 49 = .ok (.aload_n 0, 1) ∧ decode cX2_truth 50 = .ok (.getfield 30, 3) ∧ decode cX2_truth 53 = .ok (.iload_n 1, 1) ∧ decode cX2_truth 54 = .ok (.invokevirtual 44, 3) ∧ decode cX2_truth 57 = .ok (.if_icmp .ne 5, 3) ∧ True := dkl_ok (c := cX2_truth) [(.iinc 3 1, 3), (.goto (-41), 3), (.iload_n 2, 1), (.aload_n 0, 1), (.getfield 30, 3), (.iload_n 1, 1), (.invokevirtual 44, 3), (.if_icmp .ne 5, 3)] 42 (by decide +kernel)
theorem dX2_truth_42 : decode cX2_truth 42 = .ok (.iinc 3 1, 3) := eX2_truth_42.1
theorem dX2_truth_45 : decode cX2_truth 45 = .ok (.goto (-41), 3) := eX2_truth_42.2.1
theorem dX2_truth_48 : decode cX2_truth 48 = .ok (.iload_n 2, 1) := eX2_truth_42.2.2.1
theorem dX2_truth_49 : decode cX2_truth 49 = .ok (.aload_n 0, 1) := eX2_truth_42.2.2.2.1
theorem dX2_truth_50 : decode cX2_truth 50 = .ok (.getfield 30, 3) := eX2_truth_42.2.2.2.2.1
theorem dX2_truth_53 : decode cX2_truth 53 = .ok (.iload_n 1, 1) := eX2_truth_42.2.2.2.2.2.1
theorem dX2_truth_54 : decode cX2_truth 54 = .ok (.invokevirtual 44, 3) := eX2_truth_42.2.2.2.2.2.2.1
theorem dX2_truth_57 : decode cX2_truth 57 = .ok (.if_icmp .ne 5, 3) := eX2_truth_42.2.2.2.2.2.2.2.1
theorem eX2_truth_60 : decode cX2_truth 60 = .ok (.iconst 0, 1) ∧ decode cX2_truth 61 = .ok (.ireturn, 1) ∧ decode cX2_truth 62 = .ok (.iload_n 2, 1) ∧ decode cX2_truth 63 = .ok (.ifCond .ne 7, 3) ∧ decode cX2_truth 66 = .ok (.iconst 2, 1) ∧ decode cX2_truth 67 = .ok (.goto 4, 3) ∧ decode cX2_truth 70 = .ok (.iconst 1, 1) ∧ decode cX2_truth 71 = .ok (.ireturn, 1) ∧ True := dkl_ok (c := cX2_truth) [(.iconst 0, 1), (.ireturn, 1), (.iload_n 2, 1), (.ifCond .ne 7, 3), (.iconst 2, 1), (.goto 4, 3), (.iconst 1, 1), (.ireturn, 1)] 60 (by decide +kernel)
theorem dX2_truth_60 : decode cX2_truth 60 = .ok (.iconst 0, 1) := eX2_truth_60.1
theorem dX2_truth_61 : decode cX2_truth 61 = .ok (.ireturn, 1) := eX2_truth_60.2.1
theorem dX2_truth_62 : decode cX2_truth 62 = .ok (.iload_n 2, 1) := eX2_truth_60.2.2.1
theorem dX2_truth_63 : decode cX2_truth 63 = .ok (.ifCond .ne 7, 3) := eX2_truth_60.2.2.2.1
theorem dX2_truth_66 : decode cX2_truth 66 = .ok (.iconst 2, 1) := eX2_truth_60.2.2.2.2.1
theorem dX2_truth_67 : decode cX2_truth 67 = .ok (.goto 4, 3) := eX2_truth_60.2.2.2.2.2.1
theorem dX2_truth_70 : decode cX2_truth 70 = .ok (.iconst 1, 1) := eX2_truth_60.2.2.2.2.2.2.1
theorem dX2_truth_71 : decode cX2_truth 71 = .ok (.ireturn, 1) := eX2_truth_60.2.2.2.2.2.2.2.1
theorem eX2_topTruth_0 : decode cX2_topTruth 0 = .ok (.aload_n 0, 1) ∧ decode cX2_topTruth 1 = .ok (.aload_n 0, 1) ∧ decode cX2_topTruth 2 = .ok (.getfield 9, 3) ∧ decode cX2_topTruth 5 = .ok (.iconst 1, 1) ∧ decode cX2_topTruth 6 = .ok (.isub, 1) ∧ decode cX2_topTruth 7 = .ok (.invokevirtual 51, 3) ∧ decode cX2_topTruth 10 = .ok (.ireturn, 1) ∧ True := dkl_ok (c := cX2_topTruth) [(.aload_n 0, 1), (.aload_n 0, 1), (.getfield 9, 3), (.iconst 1, 1), (.isub, 1), (.invokevirtual 51, 3), (.ireturn, 1)] 0 (by decide +kernel)
theorem dX2_topTruth_0 : decode cX2_topTruth 0 = .ok (.aload_n 0, 1) := eX2_topTruth_0.1
theorem dX2_topTruth_1 : decode cX2_topTruth 1 = .ok (.aload_n 0, 1) := eX2_topTruth_0.2.1
theorem dX2_topTruth_2 : decode cX2_topTruth 2 = .ok (.getfield 9, 3) := eX2_topTruth_0.2.2.1
theorem dX2_topTruth_5 : decode cX2_topTruth 5 = .ok (.iconst 1, 1) := eX2_topTruth_0.2.2.2.1
theorem dX2_topTruth_6 : decode cX2_topTruth 6 = .ok (.isub, 1) := eX2_topTruth_0.2.2.2.2.1
theorem dX2_topTruth_7 : decode cX2_topTruth 7 = .ok (.invokevirtual 51, 3) := eX2_topTruth_0.2.2.2.2.2.1
theorem dX2_topTruth_10 : decode cX2_topTruth 10 = .ok (.ireturn, 1) := eX2_topTruth_0.2.2.2.2.2.2.1
theorem eX2_topSize_0 : decode cX2_topSize 0 = .ok (.aload_n 0, 1) ∧ decode cX2_topSize 1 = .ok (.getfield 30, 3) ∧ decode cX2_topSize 4 = .ok (.aload_n 0, 1) ∧ decode cX2_topSize 5 = .ok (.getfield 9, 3) ∧ decode cX2_topSize 8 = .ok (.iconst 1, 1) ∧ decode cX2_topSize 9 = .ok (.isub, 1) ∧ decode cX2_topSize 10 = .ok (.invokevirtual 44, 3) ∧ decode cX2_topSize 13 = .ok (.ireturn, 1) ∧ True := dkl_ok (c := cX2_topSize) [(.aload_n 0, 1), (.getfield 30, 3), (.aload_n 0, 1), (.getfield 9, 3), (.iconst 1, 1), (.isub, 1), (.invokevirtual 44, 3), (.ireturn, 1)] 0 (by decide +kernel)
theorem dX2_topSize_0 : decode cX2_topSize 0 = .ok (.aload_n 0, 1) := eX2_topSize_0.1
theorem dX2_topSize_1 : decode cX2_topSize 1 = .ok (.getfield 30, 3) := eX2_topSize_0.2.1
theorem dX2_topSize_4 : decode cX2_topSize 4 = .ok (.aload_n 0, 1) := eX2_topSize_0.2.2.1
theorem dX2_topSize_5 : decode cX2_topSize 5 = .ok (.getfield 9, 3) := eX2_topSize_0.2.2.2.1
theorem dX2_topSize_8 : decode cX2_topSize 8 = .ok (.iconst 1, 1) := eX2_topSize_0.2.2.2.2.1
theorem dX2_topSize_9 : decode cX2_topSize 9 = .ok (.isub, 1) := eX2_topSize_0.2.2.2.2.2.1
theorem dX2_topSize_10 : decode cX2_topSize 10 = .ok (.invokevirtual 44, 3) := eX2_topSize_0.2.2.2.2.2.2.1
theorem dX2_topSize_13 : decode cX2_topSize 13 = .ok (.ireturn, 1) := eX2_topSize_0.2.2.2.2.2.2.2.1
theorem eX2_timesSaid_0 : decode cX2_timesSaid 0 = .ok (.iconst 0, 1) ∧ decode cX2_timesSaid 1 = .ok (.istore_n 3, 1) ∧ decode cX2_timesSaid 2 = .ok (.iconst 0, 1) ∧ decode cX2_timesSaid 3 = .ok (.istore 4, 2) ∧ decode cX2_timesSaid 5 = .ok (.iload 4, 2) ∧ decode cX2_timesSaid 7 = .ok (.aload_n 0, 1) ∧ decode cX2_timesSaid 8 = .ok (.getfield 9, 3) ∧ decode cX2_timesSaid 11 = .ok (.if_icmp .ge 38, 3) ∧ True := dkl_ok (c := cX2_timesSaid) [(.iconst 0, 1), (.istore_n 3, 1), (.iconst 0, 1), (.istore 4, 2), (.iload 4, 2), (.aload_n 0, 1), (.getfield 9, 3), (.if_icmp .ge 38, 3)] 0 (by decide +kernel)
theorem dX2_timesSaid_0 : decode cX2_timesSaid 0 = .ok (.iconst 0, 1) := eX2_timesSaid_0.1
theorem dX2_timesSaid_1 : decode cX2_timesSaid 1 = .ok (.istore_n 3, 1) := eX2_timesSaid_0.2.1
theorem dX2_timesSaid_2 : decode cX2_timesSaid 2 = .ok (.iconst 0, 1) := eX2_timesSaid_0.2.2.1
theorem dX2_timesSaid_3 : decode cX2_timesSaid 3 = .ok (.istore 4, 2) := eX2_timesSaid_0.2.2.2.1
theorem dX2_timesSaid_5 : decode cX2_timesSaid 5 = .ok (.iload 4, 2) := eX2_timesSaid_0.2.2.2.2.1
theorem dX2_timesSaid_7 : decode cX2_timesSaid 7 = .ok (.aload_n 0, 1) := eX2_timesSaid_0.2.2.2.2.2.1
theorem dX2_timesSaid_8 : decode cX2_timesSaid 8 = .ok (.getfield 9, 3) := eX2_timesSaid_0.2.2.2.2.2.2.1
theorem dX2_timesSaid_11 : decode cX2_timesSaid 11 = .ok (.if_icmp .ge 38, 3) := eX2_timesSaid_0.2.2.2.2.2.2.2.1
theorem eX2_timesSaid_14 : decode cX2_timesSaid 14 = .ok (.aload_n 0, 1) ∧ decode cX2_timesSaid 15 = .ok (.getfield 23, 3) ∧ decode cX2_timesSaid 18 = .ok (.iload 4, 2) ∧ decode cX2_timesSaid 20 = .ok (.invokevirtual 44, 3) ∧ decode cX2_timesSaid 23 = .ok (.iload_n 1, 1) ∧ decode cX2_timesSaid 24 = .ok (.if_icmp .ne 19, 3) ∧ decode cX2_timesSaid 27 = .ok (.aload_n 0, 1) ∧ decode cX2_timesSaid 28 = .ok (.getfield 27, 3) ∧ True := dkl_ok (c := cX2_timesSaid) [(.aload_n 0, 1), (.getfield 23, 3), (.iload 4, 2), (.invokevirtual 44, 3), (.iload_n 1, 1), (.if_icmp .ne 19, 3), (.aload_n 0, 1), (.getfield 27, 3)] 14 (by decide +kernel)
theorem dX2_timesSaid_14 : decode cX2_timesSaid 14 = .ok (.aload_n 0, 1) := eX2_timesSaid_14.1
theorem dX2_timesSaid_15 : decode cX2_timesSaid 15 = .ok (.getfield 23, 3) := eX2_timesSaid_14.2.1
theorem dX2_timesSaid_18 : decode cX2_timesSaid 18 = .ok (.iload 4, 2) := eX2_timesSaid_14.2.2.1
theorem dX2_timesSaid_20 : decode cX2_timesSaid 20 = .ok (.invokevirtual 44, 3) := eX2_timesSaid_14.2.2.2.1
theorem dX2_timesSaid_23 : decode cX2_timesSaid 23 = .ok (.iload_n 1, 1) := eX2_timesSaid_14.2.2.2.2.1
theorem dX2_timesSaid_24 : decode cX2_timesSaid 24 = .ok (.if_icmp .ne 19, 3) := eX2_timesSaid_14.2.2.2.2.2.1
theorem dX2_timesSaid_27 : decode cX2_timesSaid 27 = .ok (.aload_n 0, 1) := eX2_timesSaid_14.2.2.2.2.2.2.1
theorem dX2_timesSaid_28 : decode cX2_timesSaid 28 = .ok (.getfield 27, 3) := eX2_timesSaid_14.2.2.2.2.2.2.2.1
theorem eX2_timesSaid_31 : decode cX2_timesSaid 31 = .ok (.iload 4, 2) ∧ decode cX2_timesSaid 33 = .ok (.invokevirtual 44, 3) ∧ decode cX2_timesSaid 36 = .ok (.iload_n 2, 1) ∧ decode cX2_timesSaid 37 = .ok (.if_icmp .ne 6, 3) ∧ decode cX2_timesSaid 40 = .ok (.iinc 3 1, 3) ∧ decode cX2_timesSaid 43 = .ok (.iinc 4 1, 3) ∧ decode cX2_timesSaid 46 = .ok (.goto (-41), 3) ∧ decode cX2_timesSaid 49 = .ok (.iload_n 3, 1) ∧ True := dkl_ok (c := cX2_timesSaid) [(.iload 4, 2), (.invokevirtual 44, 3), (.iload_n 2, 1), (.if_icmp .ne 6, 3), (.iinc 3 1, 3), (.iinc 4 1, 3), (.goto (-41), 3), (.iload_n 3, 1)] 31 (by decide +kernel)
theorem dX2_timesSaid_31 : decode cX2_timesSaid 31 = .ok (.iload 4, 2) := eX2_timesSaid_31.1
theorem dX2_timesSaid_33 : decode cX2_timesSaid 33 = .ok (.invokevirtual 44, 3) := eX2_timesSaid_31.2.1
theorem dX2_timesSaid_36 : decode cX2_timesSaid 36 = .ok (.iload_n 2, 1) := eX2_timesSaid_31.2.2.1
theorem dX2_timesSaid_37 : decode cX2_timesSaid 37 = .ok (.if_icmp .ne 6, 3) := eX2_timesSaid_31.2.2.2.1
theorem dX2_timesSaid_40 : decode cX2_timesSaid 40 = .ok (.iinc 3 1, 3) := eX2_timesSaid_31.2.2.2.2.1
theorem dX2_timesSaid_43 : decode cX2_timesSaid 43 = .ok (.iinc 4 1, 3) := eX2_timesSaid_31.2.2.2.2.2.1
theorem dX2_timesSaid_46 : decode cX2_timesSaid 46 = .ok (.goto (-41), 3) := eX2_timesSaid_31.2.2.2.2.2.2.1
theorem dX2_timesSaid_49 : decode cX2_timesSaid 49 = .ok (.iload_n 3, 1) := eX2_timesSaid_31.2.2.2.2.2.2.2.1
theorem eX2_timesSaid_50 : decode cX2_timesSaid 50 = .ok (.ireturn, 1) ∧ True := dkl_ok (c := cX2_timesSaid) [(.ireturn, 1)] 50 (by decide +kernel)
theorem dX2_timesSaid_50 : decode cX2_timesSaid 50 = .ok (.ireturn, 1) := eX2_timesSaid_50.1
theorem eX3_init_0 : decode cX3_init 0 = .ok (.aload_n 0, 1) ∧ decode cX3_init 1 = .ok (.invokespecial 3, 3) ∧ decode cX3_init 4 = .ok (.aload_n 0, 1) ∧ decode cX3_init 5 = .ok (.iconst 0, 1) ∧ True := dkl_ok (c := cX3_init) [(.aload_n 0, 1), (.invokespecial 3, 3), (.aload_n 0, 1), (.iconst 0, 1)] 0 (by decide +kernel)
theorem dX3_init_0 : decode cX3_init 0 = .ok (.aload_n 0, 1) := eX3_init_0.1
theorem dX3_init_1 : decode cX3_init 1 = .ok (.invokespecial 3, 3) := eX3_init_0.2.1
theorem dX3_init_4 : decode cX3_init 4 = .ok (.aload_n 0, 1) := eX3_init_0.2.2.1
theorem dX3_init_5 : decode cX3_init 5 = .ok (.iconst 0, 1) := eX3_init_0.2.2.2.1
theorem dX3_init_6 : decode cX3_init 6 = .ok (.newarray .byte, 2) := d_of (by decide +kernel)
theorem eX3_init_8 : decode cX3_init 8 = .ok (.putfield 9, 3) ∧ decode cX3_init 11 = .ok (.aload_n 0, 1) ∧ decode cX3_init 12 = .ok (.iconst 0, 1) ∧ decode cX3_init 13 = .ok (.putfield 15, 3) ∧ decode cX3_init 16 = .ok (.aload_n 0, 1) ∧ decode cX3_init 17 = .ok (.iconst 0, 1) ∧ decode cX3_init 18 = .ok (.putfield 19, 3) ∧ decode cX3_init 21 = .ok (.aload_n 0, 1) ∧ True := dkl_ok (c := cX3_init) [(.putfield 9, 3), (.aload_n 0, 1), (.iconst 0, 1), (.putfield 15, 3), (.aload_n 0, 1), (.iconst 0, 1), (.putfield 19, 3), (.aload_n 0, 1)] 8 (by decide +kernel)
theorem dX3_init_8 : decode cX3_init 8 = .ok (.putfield 9, 3) := eX3_init_8.1
theorem dX3_init_11 : decode cX3_init 11 = .ok (.aload_n 0, 1) := eX3_init_8.2.1
theorem dX3_init_12 : decode cX3_init 12 = .ok (.iconst 0, 1) := eX3_init_8.2.2.1
theorem dX3_init_13 : decode cX3_init 13 = .ok (.putfield 15, 3) := eX3_init_8.2.2.2.1
theorem dX3_init_16 : decode cX3_init 16 = .ok (.aload_n 0, 1) := eX3_init_8.2.2.2.2.1
theorem dX3_init_17 : decode cX3_init 17 = .ok (.iconst 0, 1) := eX3_init_8.2.2.2.2.2.1
theorem dX3_init_18 : decode cX3_init 18 = .ok (.putfield 19, 3) := eX3_init_8.2.2.2.2.2.2.1
theorem dX3_init_21 : decode cX3_init 21 = .ok (.aload_n 0, 1) := eX3_init_8.2.2.2.2.2.2.2.1
theorem eX3_init_22 : decode cX3_init 22 = .ok (.iconst 0, 1) ∧ decode cX3_init 23 = .ok (.putfield 22, 3) ∧ decode cX3_init 26 = .ok (.aload_n 0, 1) ∧ decode cX3_init 27 = .ok (.iconst 0, 1) ∧ decode cX3_init 28 = .ok (.putfield 25, 3) ∧ decode cX3_init 31 = .ok (.aload_n 0, 1) ∧ decode cX3_init 32 = .ok (.iconst 0, 1) ∧ decode cX3_init 33 = .ok (.putfield 28, 3) ∧ True := dkl_ok (c := cX3_init) [(.iconst 0, 1), (.putfield 22, 3), (.aload_n 0, 1), (.iconst 0, 1), (.putfield 25, 3), (.aload_n 0, 1), (.iconst 0, 1), (.putfield 28, 3)] 22 (by decide +kernel)
theorem dX3_init_22 : decode cX3_init 22 = .ok (.iconst 0, 1) := eX3_init_22.1
theorem dX3_init_23 : decode cX3_init 23 = .ok (.putfield 22, 3) := eX3_init_22.2.1
theorem dX3_init_26 : decode cX3_init 26 = .ok (.aload_n 0, 1) := eX3_init_22.2.2.1
theorem dX3_init_27 : decode cX3_init 27 = .ok (.iconst 0, 1) := eX3_init_22.2.2.2.1
theorem dX3_init_28 : decode cX3_init 28 = .ok (.putfield 25, 3) := eX3_init_22.2.2.2.2.1
theorem dX3_init_31 : decode cX3_init 31 = .ok (.aload_n 0, 1) := eX3_init_22.2.2.2.2.2.1
theorem dX3_init_32 : decode cX3_init 32 = .ok (.iconst 0, 1) := eX3_init_22.2.2.2.2.2.2.1
theorem dX3_init_33 : decode cX3_init 33 = .ok (.putfield 28, 3) := eX3_init_22.2.2.2.2.2.2.2.1
theorem eX3_init_36 : decode cX3_init 36 = .ok (.aload_n 0, 1) ∧ decode cX3_init 37 = .ok (.iconst 0, 1) ∧ decode cX3_init 38 = .ok (.putfield 31, 3) ∧ decode cX3_init 41 = .ok (.aload_n 0, 1) ∧ decode cX3_init 42 = .ok (.iconst (-1), 1) ∧ decode cX3_init 43 = .ok (.putfield 34, 3) ∧ decode cX3_init 46 = .ok (.return_, 1) ∧ True := dkl_ok (c := cX3_init) [(.aload_n 0, 1), (.iconst 0, 1), (.putfield 31, 3), (.aload_n 0, 1), (.iconst (-1), 1), (.putfield 34, 3), (.return_, 1)] 36 (by decide +kernel)
theorem dX3_init_36 : decode cX3_init 36 = .ok (.aload_n 0, 1) := eX3_init_36.1
theorem dX3_init_37 : decode cX3_init 37 = .ok (.iconst 0, 1) := eX3_init_36.2.1
theorem dX3_init_38 : decode cX3_init 38 = .ok (.putfield 31, 3) := eX3_init_36.2.2.1
theorem dX3_init_41 : decode cX3_init 41 = .ok (.aload_n 0, 1) := eX3_init_36.2.2.2.1
theorem dX3_init_42 : decode cX3_init 42 = .ok (.iconst (-1), 1) := eX3_init_36.2.2.2.2.1
theorem dX3_init_43 : decode cX3_init 43 = .ok (.putfield 34, 3) := eX3_init_36.2.2.2.2.2.1
theorem dX3_init_46 : decode cX3_init 46 = .ok (.return_, 1) := eX3_init_36.2.2.2.2.2.2.1
theorem eX3_start_0 : decode cX3_start 0 = .ok (.aload_n 0, 1) ∧ decode cX3_start 1 = .ok (.aload_n 1, 1) ∧ decode cX3_start 2 = .ok (.putfield 9, 3) ∧ decode cX3_start 5 = .ok (.aload_n 0, 1) ∧ decode cX3_start 6 = .ok (.iconst 0, 1) ∧ decode cX3_start 7 = .ok (.iload_n 2, 1) ∧ decode cX3_start 8 = .ok (.aload_n 1, 1) ∧ decode cX3_start 9 = .ok (.arraylength, 1) ∧ True := dkl_ok (c := cX3_start) [(.aload_n 0, 1), (.aload_n 1, 1), (.putfield 9, 3), (.aload_n 0, 1), (.iconst 0, 1), (.iload_n 2, 1), (.aload_n 1, 1), (.arraylength, 1)] 0 (by decide +kernel)
theorem dX3_start_0 : decode cX3_start 0 = .ok (.aload_n 0, 1) := eX3_start_0.1
theorem dX3_start_1 : decode cX3_start 1 = .ok (.aload_n 1, 1) := eX3_start_0.2.1
theorem dX3_start_2 : decode cX3_start 2 = .ok (.putfield 9, 3) := eX3_start_0.2.2.1
theorem dX3_start_5 : decode cX3_start 5 = .ok (.aload_n 0, 1) := eX3_start_0.2.2.2.1
theorem dX3_start_6 : decode cX3_start 6 = .ok (.iconst 0, 1) := eX3_start_0.2.2.2.2.1
theorem dX3_start_7 : decode cX3_start 7 = .ok (.iload_n 2, 1) := eX3_start_0.2.2.2.2.2.1
theorem dX3_start_8 : decode cX3_start 8 = .ok (.aload_n 1, 1) := eX3_start_0.2.2.2.2.2.2.1
theorem dX3_start_9 : decode cX3_start 9 = .ok (.arraylength, 1) := eX3_start_0.2.2.2.2.2.2.2.1
theorem eX3_start_10 : decode cX3_start 10 = .ok (.invokestatic 37, 3) ∧ decode cX3_start 13 = .ok (.invokestatic 43, 3) ∧ decode cX3_start 16 = .ok (.putfield 15, 3) ∧ decode cX3_start 19 = .ok (.aload_n 0, 1) ∧ decode cX3_start 20 = .ok (.iconst 0, 1) ∧ decode cX3_start 21 = .ok (.putfield 22, 3) ∧ decode cX3_start 24 = .ok (.aload_n 0, 1) ∧ decode cX3_start 25 = .ok (.iconst 0, 1) ∧ True := dkl_ok (c := cX3_start) [(.invokestatic 37, 3), (.invokestatic 43, 3), (.putfield 15, 3), (.aload_n 0, 1), (.iconst 0, 1), (.putfield 22, 3), (.aload_n 0, 1), (.iconst 0, 1)] 10 (by decide +kernel)
theorem dX3_start_10 : decode cX3_start 10 = .ok (.invokestatic 37, 3) := eX3_start_10.1
theorem dX3_start_13 : decode cX3_start 13 = .ok (.invokestatic 43, 3) := eX3_start_10.2.1
theorem dX3_start_16 : decode cX3_start 16 = .ok (.putfield 15, 3) := eX3_start_10.2.2.1
theorem dX3_start_19 : decode cX3_start 19 = .ok (.aload_n 0, 1) := eX3_start_10.2.2.2.1
theorem dX3_start_20 : decode cX3_start 20 = .ok (.iconst 0, 1) := eX3_start_10.2.2.2.2.1
theorem dX3_start_21 : decode cX3_start 21 = .ok (.putfield 22, 3) := eX3_start_10.2.2.2.2.2.1
theorem dX3_start_24 : decode cX3_start 24 = .ok (.aload_n 0, 1) := eX3_start_10.2.2.2.2.2.2.1
theorem dX3_start_25 : decode cX3_start 25 = .ok (.iconst 0, 1) := eX3_start_10.2.2.2.2.2.2.2.1
theorem eX3_start_26 : decode cX3_start 26 = .ok (.putfield 31, 3) ∧ decode cX3_start 29 = .ok (.aload_n 0, 1) ∧ decode cX3_start 30 = .ok (.iconst (-1), 1) ∧ decode cX3_start 31 = .ok (.putfield 34, 3) ∧ decode cX3_start 34 = .ok (.aload_n 0, 1) ∧ decode cX3_start 35 = .ok (.invokevirtual 46, 3) ∧ decode cX3_start 38 = .ok (.return_, 1) ∧ True := dkl_ok (c := cX3_start) [(.putfield 31, 3), (.aload_n 0, 1), (.iconst (-1), 1), (.putfield 34, 3), (.aload_n 0, 1), (.invokevirtual 46, 3), (.return_, 1)] 26 (by decide +kernel)
theorem dX3_start_26 : decode cX3_start 26 = .ok (.putfield 31, 3) := eX3_start_26.1
theorem dX3_start_29 : decode cX3_start 29 = .ok (.aload_n 0, 1) := eX3_start_26.2.1
theorem dX3_start_30 : decode cX3_start 30 = .ok (.iconst (-1), 1) := eX3_start_26.2.2.1
theorem dX3_start_31 : decode cX3_start 31 = .ok (.putfield 34, 3) := eX3_start_26.2.2.2.1
theorem dX3_start_34 : decode cX3_start 34 = .ok (.aload_n 0, 1) := eX3_start_26.2.2.2.2.1
theorem dX3_start_35 : decode cX3_start 35 = .ok (.invokevirtual 46, 3) := eX3_start_26.2.2.2.2.2.1
theorem dX3_start_38 : decode cX3_start 38 = .ok (.return_, 1) := eX3_start_26.2.2.2.2.2.2.1
theorem eX3_advance_0 : decode cX3_advance 0 = .ok (.aload_n 0, 1) ∧ decode cX3_advance 1 = .ok (.aload_n 0, 1) ∧ decode cX3_advance 2 = .ok (.getfield 22, 3) ∧ decode cX3_advance 5 = .ok (.putfield 19, 3) ∧ decode cX3_advance 8 = .ok (.aload_n 0, 1) ∧ decode cX3_advance 9 = .ok (.getfield 19, 3) ∧ decode cX3_advance 12 = .ok (.aload_n 0, 1) ∧ decode cX3_advance 13 = .ok (.getfield 15, 3) ∧ True := dkl_ok (c := cX3_advance) [(.aload_n 0, 1), (.aload_n 0, 1), (.getfield 22, 3), (.putfield 19, 3), (.aload_n 0, 1), (.getfield 19, 3), (.aload_n 0, 1), (.getfield 15, 3)] 0 (by decide +kernel)
theorem dX3_advance_0 : decode cX3_advance 0 = .ok (.aload_n 0, 1) := eX3_advance_0.1
theorem dX3_advance_1 : decode cX3_advance 1 = .ok (.aload_n 0, 1) := eX3_advance_0.2.1
theorem dX3_advance_2 : decode cX3_advance 2 = .ok (.getfield 22, 3) := eX3_advance_0.2.2.1
theorem dX3_advance_5 : decode cX3_advance 5 = .ok (.putfield 19, 3) := eX3_advance_0.2.2.2.1
theorem dX3_advance_8 : decode cX3_advance 8 = .ok (.aload_n 0, 1) := eX3_advance_0.2.2.2.2.1
theorem dX3_advance_9 : decode cX3_advance 9 = .ok (.getfield 19, 3) := eX3_advance_0.2.2.2.2.2.1
theorem dX3_advance_12 : decode cX3_advance 12 = .ok (.aload_n 0, 1) := eX3_advance_0.2.2.2.2.2.2.1
theorem dX3_advance_13 : decode cX3_advance 13 = .ok (.getfield 15, 3) := eX3_advance_0.2.2.2.2.2.2.2.1
theorem eX3_advance_16 : decode cX3_advance 16 = .ok (.if_icmp .ge 36, 3) ∧ decode cX3_advance 19 = .ok (.aload_n 0, 1) ∧ decode cX3_advance 20 = .ok (.iconst 0, 1) ∧ decode cX3_advance 21 = .ok (.invokevirtual 49, 3) ∧ decode cX3_advance 24 = .ok (.bipush 10, 2) ∧ decode cX3_advance 26 = .ok (.if_icmp .eq 13, 3) ∧ decode cX3_advance 29 = .ok (.aload_n 0, 1) ∧ decode cX3_advance 30 = .ok (.iconst 0, 1) ∧ True := dkl_ok (c := cX3_advance) [(.if_icmp .ge 36, 3), (.aload_n 0, 1), (.iconst 0, 1), (.invokevirtual 49, 3), (.bipush 10, 2), (.if_icmp .eq 13, 3), (.aload_n 0, 1), (.iconst 0, 1)] 16 (by decide +kernel)
theorem dX3_advance_16 : decode cX3_advance 16 = .ok (.if_icmp .ge 36, 3) := eX3_advance_16.1
theorem dX3_advance_19 : decode cX3_advance 19 = .ok (.aload_n 0, 1) := eX3_advance_16.2.1
theorem dX3_advance_20 : decode cX3_advance 20 = .ok (.iconst 0, 1) := eX3_advance_16.2.2.1
theorem dX3_advance_21 : decode cX3_advance 21 = .ok (.invokevirtual 49, 3) := eX3_advance_16.2.2.2.1
theorem dX3_advance_24 : decode cX3_advance 24 = .ok (.bipush 10, 2) := eX3_advance_16.2.2.2.2.1
theorem dX3_advance_26 : decode cX3_advance 26 = .ok (.if_icmp .eq 13, 3) := eX3_advance_16.2.2.2.2.2.1
theorem dX3_advance_29 : decode cX3_advance 29 = .ok (.aload_n 0, 1) := eX3_advance_16.2.2.2.2.2.2.1
theorem dX3_advance_30 : decode cX3_advance 30 = .ok (.iconst 0, 1) := eX3_advance_16.2.2.2.2.2.2.2.1
theorem eX3_advance_31 : decode cX3_advance 31 = .ok (.invokevirtual 49, 3) ∧ decode cX3_advance 34 = .ok (.bipush 32, 2) ∧ decode cX3_advance 36 = .ok (.if_icmp .ne 16, 3) ∧ decode cX3_advance 39 = .ok (.aload_n 0, 1) ∧ decode cX3_advance 40 = .ok (.dup, 1) ∧ decode cX3_advance 41 = .ok (.getfield 19, 3) ∧ decode cX3_advance 44 = .ok (.iconst 1, 1) ∧ decode cX3_advance 45 = .ok (.iadd, 1) ∧ True := dkl_ok (c := cX3_advance) [(.invokevirtual 49, 3), (.bipush 32, 2), (.if_icmp .ne 16, 3), (.aload_n 0, 1), (.dup, 1), (.getfield 19, 3), (.iconst 1, 1), (.iadd, 1)] 31 (by decide +kernel)
theorem dX3_advance_31 : decode cX3_advance 31 = .ok (.invokevirtual 49, 3) := eX3_advance_31.1
theorem dX3_advance_34 : decode cX3_advance 34 = .ok (.bipush 32, 2) := eX3_advance_31.2.1
theorem dX3_advance_36 : decode cX3_advance 36 = .ok (.if_icmp .ne 16, 3) := eX3_advance_31.2.2.1
theorem dX3_advance_39 : decode cX3_advance 39 = .ok (.aload_n 0, 1) := eX3_advance_31.2.2.2.1
theorem dX3_advance_40 : decode cX3_advance 40 = .ok (.dup, 1) := eX3_advance_31.2.2.2.2.1
theorem dX3_advance_41 : decode cX3_advance 41 = .ok (.getfield 19, 3) := eX3_advance_31.2.2.2.2.2.1
theorem dX3_advance_44 : decode cX3_advance 44 = .ok (.iconst 1, 1) := eX3_advance_31.2.2.2.2.2.2.1
theorem dX3_advance_45 : decode cX3_advance 45 = .ok (.iadd, 1) := eX3_advance_31.2.2.2.2.2.2.2.1
theorem eX3_advance_46 : decode cX3_advance 46 = .ok (.putfield 19, 3) ∧ decode cX3_advance 49 = .ok (.goto (-41), 3) ∧ decode cX3_advance 52 = .ok (.aload_n 0, 1) ∧ decode cX3_advance 53 = .ok (.aload_n 0, 1) ∧ decode cX3_advance 54 = .ok (.getfield 19, 3) ∧ decode cX3_advance 57 = .ok (.putfield 22, 3) ∧ decode cX3_advance 60 = .ok (.aload_n 0, 1) ∧ decode cX3_advance 61 = .ok (.iconst 0, 1) ∧ True := dkl_ok (c := cX3_advance) [(.putfield 19, 3), (.goto (-41), 3), (.aload_n 0, 1), (.aload_n 0, 1), (.getfield 19, 3), (.putfield 22, 3), (.aload_n 0, 1), (.iconst 0, 1)] 46 (by decide +kernel)
theorem dX3_advance_46 : decode cX3_advance 46 = .ok (.putfield 19, 3) := eX3_advance_46.1
theorem dX3_advance_49 : decode cX3_advance 49 = .ok (.goto (-41), 3) := eX3_advance_46.2.1
theorem dX3_advance_52 : decode cX3_advance 52 = .ok (.aload_n 0, 1) := eX3_advance_46.2.2.1
theorem dX3_advance_53 : decode cX3_advance 53 = .ok (.aload_n 0, 1) := eX3_advance_46.2.2.2.1
theorem dX3_advance_54 : decode cX3_advance 54 = .ok (.getfield 19, 3) := eX3_advance_46.2.2.2.2.1
theorem dX3_advance_57 : decode cX3_advance 57 = .ok (.putfield 22, 3) := eX3_advance_46.2.2.2.2.2.1
theorem dX3_advance_60 : decode cX3_advance 60 = .ok (.aload_n 0, 1) := eX3_advance_46.2.2.2.2.2.2.1
theorem dX3_advance_61 : decode cX3_advance 61 = .ok (.iconst 0, 1) := eX3_advance_46.2.2.2.2.2.2.2.1
theorem eX3_advance_62 : decode cX3_advance 62 = .ok (.invokevirtual 49, 3) ∧ decode cX3_advance 65 = .ok (.istore_n 1, 1) ∧ decode cX3_advance 66 = .ok (.aload_n 0, 1) ∧ decode cX3_advance 67 = .ok (.getfield 19, 3) ∧ decode cX3_advance 70 = .ok (.aload_n 0, 1) ∧ decode cX3_advance 71 = .ok (.getfield 15, 3) ∧ decode cX3_advance 74 = .ok (.if_icmp .lt 11, 3) ∧ decode cX3_advance 77 = .ok (.aload_n 0, 1) ∧ True := dkl_ok (c := cX3_advance) [(.invokevirtual 49, 3), (.istore_n 1, 1), (.aload_n 0, 1), (.getfield 19, 3), (.aload_n 0, 1), (.getfield 15, 3), (.if_icmp .lt 11, 3), (.aload_n 0, 1)] 62 (by decide +kernel)
theorem dX3_advance_62 : decode cX3_advance 62 = .ok (.invokevirtual 49, 3) := eX3_advance_62.1
theorem dX3_advance_65 : decode cX3_advance 65 = .ok (.istore_n 1, 1) := eX3_advance_62.2.1
theorem dX3_advance_66 : decode cX3_advance 66 = .ok (.aload_n 0, 1) := eX3_advance_62.2.2.1
theorem dX3_advance_67 : decode cX3_advance 67 = .ok (.getfield 19, 3) := eX3_advance_62.2.2.2.1
theorem dX3_advance_70 : decode cX3_advance 70 = .ok (.aload_n 0, 1) := eX3_advance_62.2.2.2.2.1
theorem dX3_advance_71 : decode cX3_advance 71 = .ok (.getfield 15, 3) := eX3_advance_62.2.2.2.2.2.1
theorem dX3_advance_74 : decode cX3_advance 74 = .ok (.if_icmp .lt 11, 3) := eX3_advance_62.2.2.2.2.2.2.1
theorem dX3_advance_77 : decode cX3_advance 77 = .ok (.aload_n 0, 1) := eX3_advance_62.2.2.2.2.2.2.2.1
theorem eX3_advance_78 : decode cX3_advance 78 = .ok (.iconst 0, 1) ∧ decode cX3_advance 79 = .ok (.putfield 25, 3) ∧ decode cX3_advance 82 = .ok (.goto 168, 3) ∧ decode cX3_advance 85 = .ok (.iload_n 1, 1) ∧ decode cX3_advance 86 = .ok (.bipush 97, 2) ∧ decode cX3_advance 88 = .ok (.if_icmp .lt 29, 3) ∧ decode cX3_advance 91 = .ok (.iload_n 1, 1) ∧ decode cX3_advance 92 = .ok (.bipush 122, 2) ∧ True := dkl_ok (c := cX3_advance) [(.iconst 0, 1), (.putfield 25, 3), (.goto 168, 3), (.iload_n 1, 1), (.bipush 97, 2), (.if_icmp .lt 29, 3), (.iload_n 1, 1), (.bipush 122, 2)] 78 (by decide +kernel)
theorem dX3_advance_78 : decode cX3_advance 78 = .ok (.iconst 0, 1) := eX3_advance_78.1
theorem dX3_advance_79 : decode cX3_advance 79 = .ok (.putfield 25, 3) := eX3_advance_78.2.1
theorem dX3_advance_82 : decode cX3_advance 82 = .ok (.goto 168, 3) := eX3_advance_78.2.2.1
theorem dX3_advance_85 : decode cX3_advance 85 = .ok (.iload_n 1, 1) := eX3_advance_78.2.2.2.1
theorem dX3_advance_86 : decode cX3_advance 86 = .ok (.bipush 97, 2) := eX3_advance_78.2.2.2.2.1
theorem dX3_advance_88 : decode cX3_advance 88 = .ok (.if_icmp .lt 29, 3) := eX3_advance_78.2.2.2.2.2.1
theorem dX3_advance_91 : decode cX3_advance 91 = .ok (.iload_n 1, 1) := eX3_advance_78.2.2.2.2.2.2.1
theorem dX3_advance_92 : decode cX3_advance 92 = .ok (.bipush 122, 2) := eX3_advance_78.2.2.2.2.2.2.2.1
theorem eX3_advance_94 : decode cX3_advance 94 = .ok (.if_icmp .gt 23, 3) ∧ decode cX3_advance 97 = .ok (.aload_n 0, 1) ∧ decode cX3_advance 98 = .ok (.iconst 1, 1) ∧ decode cX3_advance 99 = .ok (.putfield 25, 3) ∧ decode cX3_advance 102 = .ok (.aload_n 0, 1) ∧ decode cX3_advance 103 = .ok (.aload_n 0, 1) ∧ decode cX3_advance 104 = .ok (.bipush 97, 2) ∧ decode cX3_advance 106 = .ok (.bipush 122, 2) ∧ True := dkl_ok (c := cX3_advance) [(.if_icmp .gt 23, 3), (.aload_n 0, 1), (.iconst 1, 1), (.putfield 25, 3), (.aload_n 0, 1), (.aload_n 0, 1), (.bipush 97, 2), (.bipush 122, 2)] 94 (by decide +kernel)
theorem dX3_advance_94 : decode cX3_advance 94 = .ok (.if_icmp .gt 23, 3) := eX3_advance_94.1
theorem dX3_advance_97 : decode cX3_advance 97 = .ok (.aload_n 0, 1) := eX3_advance_94.2.1
theorem dX3_advance_98 : decode cX3_advance 98 = .ok (.iconst 1, 1) := eX3_advance_94.2.2.1
theorem dX3_advance_99 : decode cX3_advance 99 = .ok (.putfield 25, 3) := eX3_advance_94.2.2.2.1
theorem dX3_advance_102 : decode cX3_advance 102 = .ok (.aload_n 0, 1) := eX3_advance_94.2.2.2.2.1
theorem dX3_advance_103 : decode cX3_advance 103 = .ok (.aload_n 0, 1) := eX3_advance_94.2.2.2.2.2.1
theorem dX3_advance_104 : decode cX3_advance 104 = .ok (.bipush 97, 2) := eX3_advance_94.2.2.2.2.2.2.1
theorem dX3_advance_106 : decode cX3_advance 106 = .ok (.bipush 122, 2) := eX3_advance_94.2.2.2.2.2.2.2.1
theorem eX3_advance_108 : decode cX3_advance 108 = .ok (.invokevirtual 53, 3) ∧ decode cX3_advance 111 = .ok (.putfield 22, 3) ∧ decode cX3_advance 114 = .ok (.goto 136, 3) ∧ decode cX3_advance 117 = .ok (.iload_n 1, 1) ∧ decode cX3_advance 118 = .ok (.bipush 48, 2) ∧ decode cX3_advance 120 = .ok (.if_icmp .lt 87, 3) ∧ decode cX3_advance 123 = .ok (.iload_n 1, 1) ∧ decode cX3_advance 124 = .ok (.bipush 57, 2) ∧ True := dkl_ok (c := cX3_advance) [(.invokevirtual 53, 3), (.putfield 22, 3), (.goto 136, 3), (.iload_n 1, 1), (.bipush 48, 2), (.if_icmp .lt 87, 3), (.iload_n 1, 1), (.bipush 57, 2)] 108 (by decide +kernel)
theorem dX3_advance_108 : decode cX3_advance 108 = .ok (.invokevirtual 53, 3) := eX3_advance_108.1
theorem dX3_advance_111 : decode cX3_advance 111 = .ok (.putfield 22, 3) := eX3_advance_108.2.1
theorem dX3_advance_114 : decode cX3_advance 114 = .ok (.goto 136, 3) := eX3_advance_108.2.2.1
theorem dX3_advance_117 : decode cX3_advance 117 = .ok (.iload_n 1, 1) := eX3_advance_108.2.2.2.1
theorem dX3_advance_118 : decode cX3_advance 118 = .ok (.bipush 48, 2) := eX3_advance_108.2.2.2.2.1
theorem dX3_advance_120 : decode cX3_advance 120 = .ok (.if_icmp .lt 87, 3) := eX3_advance_108.2.2.2.2.2.1
theorem dX3_advance_123 : decode cX3_advance 123 = .ok (.iload_n 1, 1) := eX3_advance_108.2.2.2.2.2.2.1
theorem dX3_advance_124 : decode cX3_advance 124 = .ok (.bipush 57, 2) := eX3_advance_108.2.2.2.2.2.2.2.1
theorem eX3_advance_126 : decode cX3_advance 126 = .ok (.if_icmp .gt 81, 3) ∧ decode cX3_advance 129 = .ok (.aload_n 0, 1) ∧ decode cX3_advance 130 = .ok (.aload_n 0, 1) ∧ decode cX3_advance 131 = .ok (.bipush 48, 2) ∧ decode cX3_advance 133 = .ok (.bipush 57, 2) ∧ decode cX3_advance 135 = .ok (.invokevirtual 53, 3) ∧ decode cX3_advance 138 = .ok (.putfield 22, 3) ∧ decode cX3_advance 141 = .ok (.aload_n 0, 1) ∧ True := dkl_ok (c := cX3_advance) [(.if_icmp .gt 81, 3), (.aload_n 0, 1), (.aload_n 0, 1), (.bipush 48, 2), (.bipush 57, 2), (.invokevirtual 53, 3), (.putfield 22, 3), (.aload_n 0, 1)] 126 (by decide +kernel)
theorem dX3_advance_126 : decode cX3_advance 126 = .ok (.if_icmp .gt 81, 3) := eX3_advance_126.1
theorem dX3_advance_129 : decode cX3_advance 129 = .ok (.aload_n 0, 1) := eX3_advance_126.2.1
theorem dX3_advance_130 : decode cX3_advance 130 = .ok (.aload_n 0, 1) := eX3_advance_126.2.2.1
theorem dX3_advance_131 : decode cX3_advance 131 = .ok (.bipush 48, 2) := eX3_advance_126.2.2.2.1
theorem dX3_advance_133 : decode cX3_advance 133 = .ok (.bipush 57, 2) := eX3_advance_126.2.2.2.2.1
theorem dX3_advance_135 : decode cX3_advance 135 = .ok (.invokevirtual 53, 3) := eX3_advance_126.2.2.2.2.2.1
theorem dX3_advance_138 : decode cX3_advance 138 = .ok (.putfield 22, 3) := eX3_advance_126.2.2.2.2.2.2.1
theorem dX3_advance_141 : decode cX3_advance 141 = .ok (.aload_n 0, 1) := eX3_advance_126.2.2.2.2.2.2.2.1
theorem eX3_advance_142 : decode cX3_advance 142 = .ok (.aload_n 0, 1) ∧ decode cX3_advance 143 = .ok (.invokevirtual 56, 3) ∧ decode cX3_advance 146 = .ok (.iconst 4, 1) ∧ decode cX3_advance 147 = .ok (.if_icmp .le 7, 3) ∧ decode cX3_advance 150 = .ok (.iconst 4, 1) ∧ decode cX3_advance 151 = .ok (.goto 4, 3) ∧ decode cX3_advance 154 = .ok (.iconst 2, 1) ∧ decode cX3_advance 155 = .ok (.putfield 25, 3) ∧ True := dkl_ok (c := cX3_advance) [(.aload_n 0, 1), (.invokevirtual 56, 3), (.iconst 4, 1), (.if_icmp .le 7, 3), (.iconst 4, 1), (.goto 4, 3), (.iconst 2, 1), (.putfield 25, 3)] 142 (by decide +kernel)
theorem dX3_advance_142 : decode cX3_advance 142 = .ok (.aload_n 0, 1) := eX3_advance_142.1
theorem dX3_advance_143 : decode cX3_advance 143 = .ok (.invokevirtual 56, 3) := eX3_advance_142.2.1
theorem dX3_advance_146 : decode cX3_advance 146 = .ok (.iconst 4, 1) := eX3_advance_142.2.2.1
theorem dX3_advance_147 : decode cX3_advance 147 = .ok (.if_icmp .le 7, 3) := eX3_advance_142.2.2.2.1
theorem dX3_advance_150 : decode cX3_advance 150 = .ok (.iconst 4, 1) := eX3_advance_142.2.2.2.2.1
theorem dX3_advance_151 : decode cX3_advance 151 = .ok (.goto 4, 3) := eX3_advance_142.2.2.2.2.2.1
theorem dX3_advance_154 : decode cX3_advance 154 = .ok (.iconst 2, 1) := eX3_advance_142.2.2.2.2.2.2.1
theorem dX3_advance_155 : decode cX3_advance 155 = .ok (.putfield 25, 3) := eX3_advance_142.2.2.2.2.2.2.2.1
theorem eX3_advance_158 : decode cX3_advance 158 = .ok (.aload_n 0, 1) ∧ decode cX3_advance 159 = .ok (.iconst 0, 1) ∧ decode cX3_advance 160 = .ok (.putfield 28, 3) ∧ decode cX3_advance 163 = .ok (.iconst 0, 1) ∧ decode cX3_advance 164 = .ok (.istore_n 2, 1) ∧ decode cX3_advance 165 = .ok (.iload_n 2, 1) ∧ decode cX3_advance 166 = .ok (.iconst 4, 1) ∧ decode cX3_advance 167 = .ok (.if_icmp .ge 37, 3) ∧ True := dkl_ok (c := cX3_advance) [(.aload_n 0, 1), (.iconst 0, 1), (.putfield 28, 3), (.iconst 0, 1), (.istore_n 2, 1), (.iload_n 2, 1), (.iconst 4, 1), (.if_icmp .ge 37, 3)] 158 (by decide +kernel)
theorem dX3_advance_158 : decode cX3_advance 158 = .ok (.aload_n 0, 1) := eX3_advance_158.1
theorem dX3_advance_159 : decode cX3_advance 159 = .ok (.iconst 0, 1) := eX3_advance_158.2.1
theorem dX3_advance_160 : decode cX3_advance 160 = .ok (.putfield 28, 3) := eX3_advance_158.2.2.1
theorem dX3_advance_163 : decode cX3_advance 163 = .ok (.iconst 0, 1) := eX3_advance_158.2.2.2.1
theorem dX3_advance_164 : decode cX3_advance 164 = .ok (.istore_n 2, 1) := eX3_advance_158.2.2.2.2.1
theorem dX3_advance_165 : decode cX3_advance 165 = .ok (.iload_n 2, 1) := eX3_advance_158.2.2.2.2.2.1
theorem dX3_advance_166 : decode cX3_advance 166 = .ok (.iconst 4, 1) := eX3_advance_158.2.2.2.2.2.2.1
theorem dX3_advance_167 : decode cX3_advance 167 = .ok (.if_icmp .ge 37, 3) := eX3_advance_158.2.2.2.2.2.2.2.1
theorem eX3_advance_170 : decode cX3_advance 170 = .ok (.iload_n 2, 1) ∧ decode cX3_advance 171 = .ok (.aload_n 0, 1) ∧ decode cX3_advance 172 = .ok (.invokevirtual 56, 3) ∧ decode cX3_advance 175 = .ok (.if_icmp .ge 29, 3) ∧ decode cX3_advance 178 = .ok (.aload_n 0, 1) ∧ decode cX3_advance 179 = .ok (.aload_n 0, 1) ∧ decode cX3_advance 180 = .ok (.getfield 28, 3) ∧ decode cX3_advance 183 = .ok (.bipush 10, 2) ∧ True := dkl_ok (c := cX3_advance) [(.iload_n 2, 1), (.aload_n 0, 1), (.invokevirtual 56, 3), (.if_icmp .ge 29, 3), (.aload_n 0, 1), (.aload_n 0, 1), (.getfield 28, 3), (.bipush 10, 2)] 170 (by decide +kernel)
theorem dX3_advance_170 : decode cX3_advance 170 = .ok (.iload_n 2, 1) := eX3_advance_170.1
theorem dX3_advance_171 : decode cX3_advance 171 = .ok (.aload_n 0, 1) := eX3_advance_170.2.1
theorem dX3_advance_172 : decode cX3_advance 172 = .ok (.invokevirtual 56, 3) := eX3_advance_170.2.2.1
theorem dX3_advance_175 : decode cX3_advance 175 = .ok (.if_icmp .ge 29, 3) := eX3_advance_170.2.2.2.1
theorem dX3_advance_178 : decode cX3_advance 178 = .ok (.aload_n 0, 1) := eX3_advance_170.2.2.2.2.1
theorem dX3_advance_179 : decode cX3_advance 179 = .ok (.aload_n 0, 1) := eX3_advance_170.2.2.2.2.2.1
theorem dX3_advance_180 : decode cX3_advance 180 = .ok (.getfield 28, 3) := eX3_advance_170.2.2.2.2.2.2.1
theorem dX3_advance_183 : decode cX3_advance 183 = .ok (.bipush 10, 2) := eX3_advance_170.2.2.2.2.2.2.2.1
theorem eX3_advance_185 : decode cX3_advance 185 = .ok (.imul, 1) ∧ decode cX3_advance 186 = .ok (.aload_n 0, 1) ∧ decode cX3_advance 187 = .ok (.iload_n 2, 1) ∧ decode cX3_advance 188 = .ok (.invokevirtual 49, 3) ∧ decode cX3_advance 191 = .ok (.iadd, 1) ∧ decode cX3_advance 192 = .ok (.bipush 48, 2) ∧ decode cX3_advance 194 = .ok (.isub, 1) ∧ decode cX3_advance 195 = .ok (.putfield 28, 3) ∧ True := dkl_ok (c := cX3_advance) [(.imul, 1), (.aload_n 0, 1), (.iload_n 2, 1), (.invokevirtual 49, 3), (.iadd, 1), (.bipush 48, 2), (.isub, 1), (.putfield 28, 3)] 185 (by decide +kernel)
theorem dX3_advance_185 : decode cX3_advance 185 = .ok (.imul, 1) := eX3_advance_185.1
theorem dX3_advance_186 : decode cX3_advance 186 = .ok (.aload_n 0, 1) := eX3_advance_185.2.1
theorem dX3_advance_187 : decode cX3_advance 187 = .ok (.iload_n 2, 1) := eX3_advance_185.2.2.1
theorem dX3_advance_188 : decode cX3_advance 188 = .ok (.invokevirtual 49, 3) := eX3_advance_185.2.2.2.1
theorem dX3_advance_191 : decode cX3_advance 191 = .ok (.iadd, 1) := eX3_advance_185.2.2.2.2.1
theorem dX3_advance_192 : decode cX3_advance 192 = .ok (.bipush 48, 2) := eX3_advance_185.2.2.2.2.2.1
theorem dX3_advance_194 : decode cX3_advance 194 = .ok (.isub, 1) := eX3_advance_185.2.2.2.2.2.2.1
theorem dX3_advance_195 : decode cX3_advance 195 = .ok (.putfield 28, 3) := eX3_advance_185.2.2.2.2.2.2.2.1
theorem eX3_advance_198 : decode cX3_advance 198 = .ok (.iinc 2 1, 3) ∧ decode cX3_advance 201 = .ok (.goto (-36), 3) ∧ decode cX3_advance 204 = .ok (.goto 46, 3) ∧ decode cX3_advance 207 = .ok (.aload_n 0, 1) ∧ decode cX3_advance 208 = .ok (.iload_n 1, 1) ∧ decode cX3_advance 209 = .ok (.bipush 59, 2) ∧ decode cX3_advance 211 = .ok (.if_icmp .eq 21, 3) ∧ decode cX3_advance 214 = .ok (.iload_n 1, 1) ∧ True := dkl_ok (c := cX3_advance) [(.iinc 2 1, 3), (.goto (-36), 3), (.goto 46, 3), (.aload_n 0, 1), (.iload_n 1, 1), (.bipush 59, 2), (.if_icmp .eq 21, 3), (.iload_n 1, 1)] 198 (by decide +kernel)
theorem dX3_advance_198 : decode cX3_advance 198 = .ok (.iinc 2 1, 3) := eX3_advance_198.1
theorem dX3_advance_201 : decode cX3_advance 201 = .ok (.goto (-36), 3) := eX3_advance_198.2.1
theorem dX3_advance_204 : decode cX3_advance 204 = .ok (.goto 46, 3) := eX3_advance_198.2.2.1
theorem dX3_advance_207 : decode cX3_advance 207 = .ok (.aload_n 0, 1) := eX3_advance_198.2.2.2.1
theorem dX3_advance_208 : decode cX3_advance 208 = .ok (.iload_n 1, 1) := eX3_advance_198.2.2.2.2.1
theorem dX3_advance_209 : decode cX3_advance 209 = .ok (.bipush 59, 2) := eX3_advance_198.2.2.2.2.2.1
theorem dX3_advance_211 : decode cX3_advance 211 = .ok (.if_icmp .eq 21, 3) := eX3_advance_198.2.2.2.2.2.2.1
theorem dX3_advance_214 : decode cX3_advance 214 = .ok (.iload_n 1, 1) := eX3_advance_198.2.2.2.2.2.2.2.1
theorem eX3_advance_215 : decode cX3_advance 215 = .ok (.bipush 60, 2) ∧ decode cX3_advance 217 = .ok (.if_icmp .eq 15, 3) ∧ decode cX3_advance 220 = .ok (.iload_n 1, 1) ∧ decode cX3_advance 221 = .ok (.bipush 62, 2) ∧ decode cX3_advance 223 = .ok (.if_icmp .eq 9, 3) ∧ decode cX3_advance 226 = .ok (.iload_n 1, 1) ∧ decode cX3_advance 227 = .ok (.bipush 61, 2) ∧ decode cX3_advance 229 = .ok (.if_icmp .ne 7, 3) ∧ True := dkl_ok (c := cX3_advance) [(.bipush 60, 2), (.if_icmp .eq 15, 3), (.iload_n 1, 1), (.bipush 62, 2), (.if_icmp .eq 9, 3), (.iload_n 1, 1), (.bipush 61, 2), (.if_icmp .ne 7, 3)] 215 (by decide +kernel)
theorem dX3_advance_215 : decode cX3_advance 215 = .ok (.bipush 60, 2) := eX3_advance_215.1
theorem dX3_advance_217 : decode cX3_advance 217 = .ok (.if_icmp .eq 15, 3) := eX3_advance_215.2.1
theorem dX3_advance_220 : decode cX3_advance 220 = .ok (.iload_n 1, 1) := eX3_advance_215.2.2.1
theorem dX3_advance_221 : decode cX3_advance 221 = .ok (.bipush 62, 2) := eX3_advance_215.2.2.2.1
theorem dX3_advance_223 : decode cX3_advance 223 = .ok (.if_icmp .eq 9, 3) := eX3_advance_215.2.2.2.2.1
theorem dX3_advance_226 : decode cX3_advance 226 = .ok (.iload_n 1, 1) := eX3_advance_215.2.2.2.2.2.1
theorem dX3_advance_227 : decode cX3_advance 227 = .ok (.bipush 61, 2) := eX3_advance_215.2.2.2.2.2.2.1
theorem dX3_advance_229 : decode cX3_advance 229 = .ok (.if_icmp .ne 7, 3) := eX3_advance_215.2.2.2.2.2.2.2.1
theorem eX3_advance_232 : decode cX3_advance 232 = .ok (.iconst 3, 1) ∧ decode cX3_advance 233 = .ok (.goto 4, 3) ∧ decode cX3_advance 236 = .ok (.iconst 4, 1) ∧ decode cX3_advance 237 = .ok (.putfield 25, 3) ∧ decode cX3_advance 240 = .ok (.aload_n 0, 1) ∧ decode cX3_advance 241 = .ok (.aload_n 0, 1) ∧ decode cX3_advance 242 = .ok (.getfield 19, 3) ∧ decode cX3_advance 245 = .ok (.iconst 1, 1) ∧ True := dkl_ok (c := cX3_advance) [(.iconst 3, 1), (.goto 4, 3), (.iconst 4, 1), (.putfield 25, 3), (.aload_n 0, 1), (.aload_n 0, 1), (.getfield 19, 3), (.iconst 1, 1)] 232 (by decide +kernel)
theorem dX3_advance_232 : decode cX3_advance 232 = .ok (.iconst 3, 1) := eX3_advance_232.1
theorem dX3_advance_233 : decode cX3_advance 233 = .ok (.goto 4, 3) := eX3_advance_232.2.1
theorem dX3_advance_236 : decode cX3_advance 236 = .ok (.iconst 4, 1) := eX3_advance_232.2.2.1
theorem dX3_advance_237 : decode cX3_advance 237 = .ok (.putfield 25, 3) := eX3_advance_232.2.2.2.1
theorem dX3_advance_240 : decode cX3_advance 240 = .ok (.aload_n 0, 1) := eX3_advance_232.2.2.2.2.1
theorem dX3_advance_241 : decode cX3_advance 241 = .ok (.aload_n 0, 1) := eX3_advance_232.2.2.2.2.2.1
theorem dX3_advance_242 : decode cX3_advance 242 = .ok (.getfield 19, 3) := eX3_advance_232.2.2.2.2.2.2.1
theorem dX3_advance_245 : decode cX3_advance 245 = .ok (.iconst 1, 1) := eX3_advance_232.2.2.2.2.2.2.2.1
theorem eX3_advance_246 : decode cX3_advance 246 = .ok (.iadd, 1) ∧ decode cX3_advance 247 = .ok (.putfield 22, 3) ∧ decode cX3_advance 250 = .ok (.return_, 1) ∧ True := dkl_ok (c := cX3_advance) [(.iadd, 1), (.putfield 22, 3), (.return_, 1)] 246 (by decide +kernel)
theorem dX3_advance_246 : decode cX3_advance 246 = .ok (.iadd, 1) := eX3_advance_246.1
theorem dX3_advance_247 : decode cX3_advance 247 = .ok (.putfield 22, 3) := eX3_advance_246.2.1
theorem dX3_advance_250 : decode cX3_advance 250 = .ok (.return_, 1) := eX3_advance_246.2.2.1
theorem eX3_endOfRun_0 : decode cX3_endOfRun 0 = .ok (.aload_n 0, 1) ∧ decode cX3_endOfRun 1 = .ok (.getfield 19, 3) ∧ decode cX3_endOfRun 4 = .ok (.istore_n 3, 1) ∧ decode cX3_endOfRun 5 = .ok (.iload_n 3, 1) ∧ decode cX3_endOfRun 6 = .ok (.aload_n 0, 1) ∧ decode cX3_endOfRun 7 = .ok (.getfield 15, 3) ∧ decode cX3_endOfRun 10 = .ok (.if_icmp .ge 38, 3) ∧ decode cX3_endOfRun 13 = .ok (.iload_n 3, 1) ∧ True := dkl_ok (c := cX3_endOfRun) [(.aload_n 0, 1), (.getfield 19, 3), (.istore_n 3, 1), (.iload_n 3, 1), (.aload_n 0, 1), (.getfield 15, 3), (.if_icmp .ge 38, 3), (.iload_n 3, 1)] 0 (by decide +kernel)
theorem dX3_endOfRun_0 : decode cX3_endOfRun 0 = .ok (.aload_n 0, 1) := eX3_endOfRun_0.1
theorem dX3_endOfRun_1 : decode cX3_endOfRun 1 = .ok (.getfield 19, 3) := eX3_endOfRun_0.2.1
theorem dX3_endOfRun_4 : decode cX3_endOfRun 4 = .ok (.istore_n 3, 1) := eX3_endOfRun_0.2.2.1
theorem dX3_endOfRun_5 : decode cX3_endOfRun 5 = .ok (.iload_n 3, 1) := eX3_endOfRun_0.2.2.2.1
theorem dX3_endOfRun_6 : decode cX3_endOfRun 6 = .ok (.aload_n 0, 1) := eX3_endOfRun_0.2.2.2.2.1
theorem dX3_endOfRun_7 : decode cX3_endOfRun 7 = .ok (.getfield 15, 3) := eX3_endOfRun_0.2.2.2.2.2.1
theorem dX3_endOfRun_10 : decode cX3_endOfRun 10 = .ok (.if_icmp .ge 38, 3) := eX3_endOfRun_0.2.2.2.2.2.2.1
theorem dX3_endOfRun_13 : decode cX3_endOfRun 13 = .ok (.iload_n 3, 1) := eX3_endOfRun_0.2.2.2.2.2.2.2.1
theorem eX3_endOfRun_14 : decode cX3_endOfRun 14 = .ok (.aload_n 0, 1) ∧ decode cX3_endOfRun 15 = .ok (.getfield 9, 3) ∧ decode cX3_endOfRun 18 = .ok (.arraylength, 1) ∧ decode cX3_endOfRun 19 = .ok (.if_icmp .ge 29, 3) ∧ decode cX3_endOfRun 22 = .ok (.aload_n 0, 1) ∧ decode cX3_endOfRun 23 = .ok (.getfield 9, 3) ∧ decode cX3_endOfRun 26 = .ok (.iload_n 3, 1) ∧ decode cX3_endOfRun 27 = .ok (.baload, 1) ∧ True := dkl_ok (c := cX3_endOfRun) [(.aload_n 0, 1), (.getfield 9, 3), (.arraylength, 1), (.if_icmp .ge 29, 3), (.aload_n 0, 1), (.getfield 9, 3), (.iload_n 3, 1), (.baload, 1)] 14 (by decide +kernel)
theorem dX3_endOfRun_14 : decode cX3_endOfRun 14 = .ok (.aload_n 0, 1) := eX3_endOfRun_14.1
theorem dX3_endOfRun_15 : decode cX3_endOfRun 15 = .ok (.getfield 9, 3) := eX3_endOfRun_14.2.1
theorem dX3_endOfRun_18 : decode cX3_endOfRun 18 = .ok (.arraylength, 1) := eX3_endOfRun_14.2.2.1
theorem dX3_endOfRun_19 : decode cX3_endOfRun 19 = .ok (.if_icmp .ge 29, 3) := eX3_endOfRun_14.2.2.2.1
theorem dX3_endOfRun_22 : decode cX3_endOfRun 22 = .ok (.aload_n 0, 1) := eX3_endOfRun_14.2.2.2.2.1
theorem dX3_endOfRun_23 : decode cX3_endOfRun 23 = .ok (.getfield 9, 3) := eX3_endOfRun_14.2.2.2.2.2.1
theorem dX3_endOfRun_26 : decode cX3_endOfRun 26 = .ok (.iload_n 3, 1) := eX3_endOfRun_14.2.2.2.2.2.2.1
theorem dX3_endOfRun_27 : decode cX3_endOfRun 27 = .ok (.baload, 1) := eX3_endOfRun_14.2.2.2.2.2.2.2.1
theorem eX3_endOfRun_28 : decode cX3_endOfRun 28 = .ok (.iload_n 1, 1) ∧ decode cX3_endOfRun 29 = .ok (.if_icmp .lt 19, 3) ∧ decode cX3_endOfRun 32 = .ok (.aload_n 0, 1) ∧ decode cX3_endOfRun 33 = .ok (.getfield 9, 3) ∧ decode cX3_endOfRun 36 = .ok (.iload_n 3, 1) ∧ decode cX3_endOfRun 37 = .ok (.baload, 1) ∧ decode cX3_endOfRun 38 = .ok (.iload_n 2, 1) ∧ decode cX3_endOfRun 39 = .ok (.if_icmp .gt 9, 3) ∧ True := dkl_ok (c := cX3_endOfRun) [(.iload_n 1, 1), (.if_icmp .lt 19, 3), (.aload_n 0, 1), (.getfield 9, 3), (.iload_n 3, 1), (.baload, 1), (.iload_n 2, 1), (.if_icmp .gt 9, 3)] 28 (by decide +kernel)
theorem dX3_endOfRun_28 : decode cX3_endOfRun 28 = .ok (.iload_n 1, 1) := eX3_endOfRun_28.1
theorem dX3_endOfRun_29 : decode cX3_endOfRun 29 = .ok (.if_icmp .lt 19, 3) := eX3_endOfRun_28.2.1
theorem dX3_endOfRun_32 : decode cX3_endOfRun 32 = .ok (.aload_n 0, 1) := eX3_endOfRun_28.2.2.1
theorem dX3_endOfRun_33 : decode cX3_endOfRun 33 = .ok (.getfield 9, 3) := eX3_endOfRun_28.2.2.2.1
theorem dX3_endOfRun_36 : decode cX3_endOfRun 36 = .ok (.iload_n 3, 1) := eX3_endOfRun_28.2.2.2.2.1
theorem dX3_endOfRun_37 : decode cX3_endOfRun 37 = .ok (.baload, 1) := eX3_endOfRun_28.2.2.2.2.2.1
theorem dX3_endOfRun_38 : decode cX3_endOfRun 38 = .ok (.iload_n 2, 1) := eX3_endOfRun_28.2.2.2.2.2.2.1
theorem dX3_endOfRun_39 : decode cX3_endOfRun 39 = .ok (.if_icmp .gt 9, 3) := eX3_endOfRun_28.2.2.2.2.2.2.2.1
theorem eX3_endOfRun_42 : decode cX3_endOfRun 42 = .ok (.iinc 3 1, 3) ∧ decode cX3_endOfRun 45 = .ok (.goto (-40), 3) ∧ decode cX3_endOfRun 48 = .ok (.iload_n 3, 1) ∧ decode cX3_endOfRun 49 = .ok (.ireturn, 1) ∧ True := dkl_ok (c := cX3_endOfRun) [(.iinc 3 1, 3), (.goto (-40), 3), (.iload_n 3, 1), (.ireturn, 1)] 42 (by decide +kernel)
theorem dX3_endOfRun_42 : decode cX3_endOfRun 42 = .ok (.iinc 3 1, 3) := eX3_endOfRun_42.1
theorem dX3_endOfRun_45 : decode cX3_endOfRun 45 = .ok (.goto (-40), 3) := eX3_endOfRun_42.2.1
theorem dX3_endOfRun_48 : decode cX3_endOfRun 48 = .ok (.iload_n 3, 1) := eX3_endOfRun_42.2.2.1
theorem dX3_endOfRun_49 : decode cX3_endOfRun 49 = .ok (.ireturn, 1) := eX3_endOfRun_42.2.2.2.1
theorem eX3_size_0 : decode cX3_size 0 = .ok (.aload_n 0, 1) ∧ decode cX3_size 1 = .ok (.getfield 22, 3) ∧ decode cX3_size 4 = .ok (.aload_n 0, 1) ∧ decode cX3_size 5 = .ok (.getfield 19, 3) ∧ decode cX3_size 8 = .ok (.isub, 1) ∧ decode cX3_size 9 = .ok (.ireturn, 1) ∧ True := dkl_ok (c := cX3_size) [(.aload_n 0, 1), (.getfield 22, 3), (.aload_n 0, 1), (.getfield 19, 3), (.isub, 1), (.ireturn, 1)] 0 (by decide +kernel)
theorem dX3_size_0 : decode cX3_size 0 = .ok (.aload_n 0, 1) := eX3_size_0.1
theorem dX3_size_1 : decode cX3_size 1 = .ok (.getfield 22, 3) := eX3_size_0.2.1
theorem dX3_size_4 : decode cX3_size 4 = .ok (.aload_n 0, 1) := eX3_size_0.2.2.1
theorem dX3_size_5 : decode cX3_size 5 = .ok (.getfield 19, 3) := eX3_size_0.2.2.2.1
theorem dX3_size_8 : decode cX3_size 8 = .ok (.isub, 1) := eX3_size_0.2.2.2.2.1
theorem dX3_size_9 : decode cX3_size 9 = .ok (.ireturn, 1) := eX3_size_0.2.2.2.2.2.1
theorem eX3_signAt_0 : decode cX3_signAt 0 = .ok (.aload_n 0, 1) ∧ decode cX3_signAt 1 = .ok (.getfield 19, 3) ∧ decode cX3_signAt 4 = .ok (.iload_n 1, 1) ∧ decode cX3_signAt 5 = .ok (.iadd, 1) ∧ decode cX3_signAt 6 = .ok (.istore_n 2, 1) ∧ decode cX3_signAt 7 = .ok (.iload_n 2, 1) ∧ decode cX3_signAt 8 = .ok (.ifCond .lt 29, 3) ∧ decode cX3_signAt 11 = .ok (.iload_n 2, 1) ∧ True := dkl_ok (c := cX3_signAt) [(.aload_n 0, 1), (.getfield 19, 3), (.iload_n 1, 1), (.iadd, 1), (.istore_n 2, 1), (.iload_n 2, 1), (.ifCond .lt 29, 3), (.iload_n 2, 1)] 0 (by decide +kernel)
theorem dX3_signAt_0 : decode cX3_signAt 0 = .ok (.aload_n 0, 1) := eX3_signAt_0.1
theorem dX3_signAt_1 : decode cX3_signAt 1 = .ok (.getfield 19, 3) := eX3_signAt_0.2.1
theorem dX3_signAt_4 : decode cX3_signAt 4 = .ok (.iload_n 1, 1) := eX3_signAt_0.2.2.1
theorem dX3_signAt_5 : decode cX3_signAt 5 = .ok (.iadd, 1) := eX3_signAt_0.2.2.2.1
theorem dX3_signAt_6 : decode cX3_signAt 6 = .ok (.istore_n 2, 1) := eX3_signAt_0.2.2.2.2.1
theorem dX3_signAt_7 : decode cX3_signAt 7 = .ok (.iload_n 2, 1) := eX3_signAt_0.2.2.2.2.2.1
theorem dX3_signAt_8 : decode cX3_signAt 8 = .ok (.ifCond .lt 29, 3) := eX3_signAt_0.2.2.2.2.2.2.1
theorem dX3_signAt_11 : decode cX3_signAt 11 = .ok (.iload_n 2, 1) := eX3_signAt_0.2.2.2.2.2.2.2.1
theorem eX3_signAt_12 : decode cX3_signAt 12 = .ok (.aload_n 0, 1) ∧ decode cX3_signAt 13 = .ok (.getfield 15, 3) ∧ decode cX3_signAt 16 = .ok (.if_icmp .ge 21, 3) ∧ decode cX3_signAt 19 = .ok (.iload_n 2, 1) ∧ decode cX3_signAt 20 = .ok (.aload_n 0, 1) ∧ decode cX3_signAt 21 = .ok (.getfield 9, 3) ∧ decode cX3_signAt 24 = .ok (.arraylength, 1) ∧ decode cX3_signAt 25 = .ok (.if_icmp .ge 12, 3) ∧ True := dkl_ok (c := cX3_signAt) [(.aload_n 0, 1), (.getfield 15, 3), (.if_icmp .ge 21, 3), (.iload_n 2, 1), (.aload_n 0, 1), (.getfield 9, 3), (.arraylength, 1), (.if_icmp .ge 12, 3)] 12 (by decide +kernel)
theorem dX3_signAt_12 : decode cX3_signAt 12 = .ok (.aload_n 0, 1) := eX3_signAt_12.1
theorem dX3_signAt_13 : decode cX3_signAt 13 = .ok (.getfield 15, 3) := eX3_signAt_12.2.1
theorem dX3_signAt_16 : decode cX3_signAt 16 = .ok (.if_icmp .ge 21, 3) := eX3_signAt_12.2.2.1
theorem dX3_signAt_19 : decode cX3_signAt 19 = .ok (.iload_n 2, 1) := eX3_signAt_12.2.2.2.1
theorem dX3_signAt_20 : decode cX3_signAt 20 = .ok (.aload_n 0, 1) := eX3_signAt_12.2.2.2.2.1
theorem dX3_signAt_21 : decode cX3_signAt 21 = .ok (.getfield 9, 3) := eX3_signAt_12.2.2.2.2.2.1
theorem dX3_signAt_24 : decode cX3_signAt 24 = .ok (.arraylength, 1) := eX3_signAt_12.2.2.2.2.2.2.1
theorem dX3_signAt_25 : decode cX3_signAt 25 = .ok (.if_icmp .ge 12, 3) := eX3_signAt_12.2.2.2.2.2.2.2.1
theorem eX3_signAt_28 : decode cX3_signAt 28 = .ok (.aload_n 0, 1) ∧ decode cX3_signAt 29 = .ok (.getfield 9, 3) ∧ decode cX3_signAt 32 = .ok (.iload_n 2, 1) ∧ decode cX3_signAt 33 = .ok (.baload, 1) ∧ decode cX3_signAt 34 = .ok (.goto 4, 3) ∧ decode cX3_signAt 37 = .ok (.iconst 0, 1) ∧ decode cX3_signAt 38 = .ok (.ireturn, 1) ∧ True := dkl_ok (c := cX3_signAt) [(.aload_n 0, 1), (.getfield 9, 3), (.iload_n 2, 1), (.baload, 1), (.goto 4, 3), (.iconst 0, 1), (.ireturn, 1)] 28 (by decide +kernel)
theorem dX3_signAt_28 : decode cX3_signAt 28 = .ok (.aload_n 0, 1) := eX3_signAt_28.1
theorem dX3_signAt_29 : decode cX3_signAt 29 = .ok (.getfield 9, 3) := eX3_signAt_28.2.1
theorem dX3_signAt_32 : decode cX3_signAt 32 = .ok (.iload_n 2, 1) := eX3_signAt_28.2.2.1
theorem dX3_signAt_33 : decode cX3_signAt 33 = .ok (.baload, 1) := eX3_signAt_28.2.2.2.1
theorem dX3_signAt_34 : decode cX3_signAt 34 = .ok (.goto 4, 3) := eX3_signAt_28.2.2.2.2.1
theorem dX3_signAt_37 : decode cX3_signAt 37 = .ok (.iconst 0, 1) := eX3_signAt_28.2.2.2.2.2.1
theorem dX3_signAt_38 : decode cX3_signAt 38 = .ok (.ireturn, 1) := eX3_signAt_28.2.2.2.2.2.2.1
theorem eX3_fails_0 : decode cX3_fails 0 = .ok (.aload_n 0, 1) ∧ decode cX3_fails 1 = .ok (.aload_n 0, 1) ∧ decode cX3_fails 2 = .ok (.getfield 25, 3) ∧ decode cX3_fails 5 = .ok (.iconst 4, 1) ∧ decode cX3_fails 6 = .ok (.if_icmp .ne 7, 3) ∧ decode cX3_fails 9 = .ok (.iconst 1, 1) ∧ decode cX3_fails 10 = .ok (.goto 4, 3) ∧ decode cX3_fails 13 = .ok (.iload_n 1, 1) ∧ True := dkl_ok (c := cX3_fails) [(.aload_n 0, 1), (.aload_n 0, 1), (.getfield 25, 3), (.iconst 4, 1), (.if_icmp .ne 7, 3), (.iconst 1, 1), (.goto 4, 3), (.iload_n 1, 1)] 0 (by decide +kernel)
theorem dX3_fails_0 : decode cX3_fails 0 = .ok (.aload_n 0, 1) := eX3_fails_0.1
theorem dX3_fails_1 : decode cX3_fails 1 = .ok (.aload_n 0, 1) := eX3_fails_0.2.1
theorem dX3_fails_2 : decode cX3_fails 2 = .ok (.getfield 25, 3) := eX3_fails_0.2.2.1
theorem dX3_fails_5 : decode cX3_fails 5 = .ok (.iconst 4, 1) := eX3_fails_0.2.2.2.1
theorem dX3_fails_6 : decode cX3_fails 6 = .ok (.if_icmp .ne 7, 3) := eX3_fails_0.2.2.2.2.1
theorem dX3_fails_9 : decode cX3_fails 9 = .ok (.iconst 1, 1) := eX3_fails_0.2.2.2.2.2.1
theorem dX3_fails_10 : decode cX3_fails 10 = .ok (.goto 4, 3) := eX3_fails_0.2.2.2.2.2.2.1
theorem dX3_fails_13 : decode cX3_fails 13 = .ok (.iload_n 1, 1) := eX3_fails_0.2.2.2.2.2.2.2.1
theorem eX3_fails_14 : decode cX3_fails 14 = .ok (.putfield 31, 3) ∧ decode cX3_fails 17 = .ok (.aload_n 0, 1) ∧ decode cX3_fails 18 = .ok (.aload_n 0, 1) ∧ decode cX3_fails 19 = .ok (.getfield 19, 3) ∧ decode cX3_fails 22 = .ok (.putfield 34, 3) ∧ decode cX3_fails 25 = .ok (.iconst 0, 1) ∧ decode cX3_fails 26 = .ok (.ireturn, 1) ∧ True := dkl_ok (c := cX3_fails) [(.putfield 31, 3), (.aload_n 0, 1), (.aload_n 0, 1), (.getfield 19, 3), (.putfield 34, 3), (.iconst 0, 1), (.ireturn, 1)] 14 (by decide +kernel)
theorem dX3_fails_14 : decode cX3_fails 14 = .ok (.putfield 31, 3) := eX3_fails_14.1
theorem dX3_fails_17 : decode cX3_fails 17 = .ok (.aload_n 0, 1) := eX3_fails_14.2.1
theorem dX3_fails_18 : decode cX3_fails 18 = .ok (.aload_n 0, 1) := eX3_fails_14.2.2.1
theorem dX3_fails_19 : decode cX3_fails 19 = .ok (.getfield 19, 3) := eX3_fails_14.2.2.2.1
theorem dX3_fails_22 : decode cX3_fails 22 = .ok (.putfield 34, 3) := eX3_fails_14.2.2.2.2.1
theorem dX3_fails_25 : decode cX3_fails 25 = .ok (.iconst 0, 1) := eX3_fails_14.2.2.2.2.2.1
theorem dX3_fails_26 : decode cX3_fails 26 = .ok (.ireturn, 1) := eX3_fails_14.2.2.2.2.2.2.1
theorem eX3_isWord_0 : decode cX3_isWord 0 = .ok (.aload_n 0, 1) ∧ decode cX3_isWord 1 = .ok (.getfield 25, 3) ∧ decode cX3_isWord 4 = .ok (.iconst 1, 1) ∧ decode cX3_isWord 5 = .ok (.if_icmp .ne 14, 3) ∧ decode cX3_isWord 8 = .ok (.aload_n 0, 1) ∧ decode cX3_isWord 9 = .ok (.invokevirtual 56, 3) ∧ decode cX3_isWord 12 = .ok (.aload_n 1, 1) ∧ decode cX3_isWord 13 = .ok (.invokevirtual 60, 3) ∧ True := dkl_ok (c := cX3_isWord) [(.aload_n 0, 1), (.getfield 25, 3), (.iconst 1, 1), (.if_icmp .ne 14, 3), (.aload_n 0, 1), (.invokevirtual 56, 3), (.aload_n 1, 1), (.invokevirtual 60, 3)] 0 (by decide +kernel)
theorem dX3_isWord_0 : decode cX3_isWord 0 = .ok (.aload_n 0, 1) := eX3_isWord_0.1
theorem dX3_isWord_1 : decode cX3_isWord 1 = .ok (.getfield 25, 3) := eX3_isWord_0.2.1
theorem dX3_isWord_4 : decode cX3_isWord 4 = .ok (.iconst 1, 1) := eX3_isWord_0.2.2.1
theorem dX3_isWord_5 : decode cX3_isWord 5 = .ok (.if_icmp .ne 14, 3) := eX3_isWord_0.2.2.2.1
theorem dX3_isWord_8 : decode cX3_isWord 8 = .ok (.aload_n 0, 1) := eX3_isWord_0.2.2.2.2.1
theorem dX3_isWord_9 : decode cX3_isWord 9 = .ok (.invokevirtual 56, 3) := eX3_isWord_0.2.2.2.2.2.1
theorem dX3_isWord_12 : decode cX3_isWord 12 = .ok (.aload_n 1, 1) := eX3_isWord_0.2.2.2.2.2.2.1
theorem dX3_isWord_13 : decode cX3_isWord 13 = .ok (.invokevirtual 60, 3) := eX3_isWord_0.2.2.2.2.2.2.2.1
theorem eX3_isWord_16 : decode cX3_isWord 16 = .ok (.if_icmp .eq 5, 3) ∧ decode cX3_isWord 19 = .ok (.iconst 0, 1) ∧ decode cX3_isWord 20 = .ok (.ireturn, 1) ∧ decode cX3_isWord 21 = .ok (.iconst 0, 1) ∧ decode cX3_isWord 22 = .ok (.istore_n 2, 1) ∧ decode cX3_isWord 23 = .ok (.iload_n 2, 1) ∧ decode cX3_isWord 24 = .ok (.aload_n 1, 1) ∧ decode cX3_isWord 25 = .ok (.invokevirtual 60, 3) ∧ True := dkl_ok (c := cX3_isWord) [(.if_icmp .eq 5, 3), (.iconst 0, 1), (.ireturn, 1), (.iconst 0, 1), (.istore_n 2, 1), (.iload_n 2, 1), (.aload_n 1, 1), (.invokevirtual 60, 3)] 16 (by decide +kernel)
theorem dX3_isWord_16 : decode cX3_isWord 16 = .ok (.if_icmp .eq 5, 3) := eX3_isWord_16.1
theorem dX3_isWord_19 : decode cX3_isWord 19 = .ok (.iconst 0, 1) := eX3_isWord_16.2.1
theorem dX3_isWord_20 : decode cX3_isWord 20 = .ok (.ireturn, 1) := eX3_isWord_16.2.2.1
theorem dX3_isWord_21 : decode cX3_isWord 21 = .ok (.iconst 0, 1) := eX3_isWord_16.2.2.2.1
theorem dX3_isWord_22 : decode cX3_isWord 22 = .ok (.istore_n 2, 1) := eX3_isWord_16.2.2.2.2.1
theorem dX3_isWord_23 : decode cX3_isWord 23 = .ok (.iload_n 2, 1) := eX3_isWord_16.2.2.2.2.2.1
theorem dX3_isWord_24 : decode cX3_isWord 24 = .ok (.aload_n 1, 1) := eX3_isWord_16.2.2.2.2.2.2.1
theorem dX3_isWord_25 : decode cX3_isWord 25 = .ok (.invokevirtual 60, 3) := eX3_isWord_16.2.2.2.2.2.2.2.1
theorem eX3_isWord_28 : decode cX3_isWord 28 = .ok (.if_icmp .ge 24, 3) ∧ decode cX3_isWord 31 = .ok (.aload_n 1, 1) ∧ decode cX3_isWord 32 = .ok (.iload_n 2, 1) ∧ decode cX3_isWord 33 = .ok (.invokevirtual 64, 3) ∧ decode cX3_isWord 36 = .ok (.aload_n 0, 1) ∧ decode cX3_isWord 37 = .ok (.iload_n 2, 1) ∧ decode cX3_isWord 38 = .ok (.invokevirtual 49, 3) ∧ decode cX3_isWord 41 = .ok (.if_icmp .eq 5, 3) ∧ True := dkl_ok (c := cX3_isWord) [(.if_icmp .ge 24, 3), (.aload_n 1, 1), (.iload_n 2, 1), (.invokevirtual 64, 3), (.aload_n 0, 1), (.iload_n 2, 1), (.invokevirtual 49, 3), (.if_icmp .eq 5, 3)] 28 (by decide +kernel)
theorem dX3_isWord_28 : decode cX3_isWord 28 = .ok (.if_icmp .ge 24, 3) := eX3_isWord_28.1
theorem dX3_isWord_31 : decode cX3_isWord 31 = .ok (.aload_n 1, 1) := eX3_isWord_28.2.1
theorem dX3_isWord_32 : decode cX3_isWord 32 = .ok (.iload_n 2, 1) := eX3_isWord_28.2.2.1
theorem dX3_isWord_33 : decode cX3_isWord 33 = .ok (.invokevirtual 64, 3) := eX3_isWord_28.2.2.2.1
theorem dX3_isWord_36 : decode cX3_isWord 36 = .ok (.aload_n 0, 1) := eX3_isWord_28.2.2.2.2.1
theorem dX3_isWord_37 : decode cX3_isWord 37 = .ok (.iload_n 2, 1) := eX3_isWord_28.2.2.2.2.2.1
theorem dX3_isWord_38 : decode cX3_isWord 38 = .ok (.invokevirtual 49, 3) := eX3_isWord_28.2.2.2.2.2.2.1
theorem dX3_isWord_41 : decode cX3_isWord 41 = .ok (.if_icmp .eq 5, 3) := eX3_isWord_28.2.2.2.2.2.2.2.1
theorem eX3_isWord_44 : decode cX3_isWord 44 = .ok (.iconst 0, 1) ∧ decode cX3_isWord 45 = .ok (.ireturn, 1) ∧ decode cX3_isWord 46 = .ok (.iinc 2 1, 3) ∧ decode cX3_isWord 49 = .ok (.goto (-26), 3) ∧ decode cX3_isWord 52 = .ok (.iconst 1, 1) ∧ decode cX3_isWord 53 = .ok (.ireturn, 1) ∧ True := dkl_ok (c := cX3_isWord) [(.iconst 0, 1), (.ireturn, 1), (.iinc 2 1, 3), (.goto (-26), 3), (.iconst 1, 1), (.ireturn, 1)] 44 (by decide +kernel)
theorem dX3_isWord_44 : decode cX3_isWord 44 = .ok (.iconst 0, 1) := eX3_isWord_44.1
theorem dX3_isWord_45 : decode cX3_isWord 45 = .ok (.ireturn, 1) := eX3_isWord_44.2.1
theorem dX3_isWord_46 : decode cX3_isWord 46 = .ok (.iinc 2 1, 3) := eX3_isWord_44.2.2.1
theorem dX3_isWord_49 : decode cX3_isWord 49 = .ok (.goto (-26), 3) := eX3_isWord_44.2.2.2.1
theorem dX3_isWord_52 : decode cX3_isWord 52 = .ok (.iconst 1, 1) := eX3_isWord_44.2.2.2.2.1
theorem dX3_isWord_53 : decode cX3_isWord 53 = .ok (.ireturn, 1) := eX3_isWord_44.2.2.2.2.2.1
theorem eX3_isReserved_0 : decode cX3_isReserved 0 = .ok (.iconst 0, 1) ∧ decode cX3_isReserved 1 = .ok (.istore_n 1, 1) ∧ decode cX3_isReserved 2 = .ok (.iconst 0, 1) ∧ decode cX3_isReserved 3 = .ok (.istore_n 2, 1) ∧ decode cX3_isReserved 4 = .ok (.iload_n 2, 1) ∧ decode cX3_isReserved 5 = .ok (.ldc 68, 2) ∧ decode cX3_isReserved 7 = .ok (.invokevirtual 60, 3) ∧ decode cX3_isReserved 10 = .ok (.if_icmp .ge 58, 3) ∧ True := dkl_ok (c := cX3_isReserved) [(.iconst 0, 1), (.istore_n 1, 1), (.iconst 0, 1), (.istore_n 2, 1), (.iload_n 2, 1), (.ldc 68, 2), (.invokevirtual 60, 3), (.if_icmp .ge 58, 3)] 0 (by decide +kernel)
theorem dX3_isReserved_0 : decode cX3_isReserved 0 = .ok (.iconst 0, 1) := eX3_isReserved_0.1
theorem dX3_isReserved_1 : decode cX3_isReserved 1 = .ok (.istore_n 1, 1) := eX3_isReserved_0.2.1
theorem dX3_isReserved_2 : decode cX3_isReserved 2 = .ok (.iconst 0, 1) := eX3_isReserved_0.2.2.1
theorem dX3_isReserved_3 : decode cX3_isReserved 3 = .ok (.istore_n 2, 1) := eX3_isReserved_0.2.2.2.1
theorem dX3_isReserved_4 : decode cX3_isReserved 4 = .ok (.iload_n 2, 1) := eX3_isReserved_0.2.2.2.2.1
theorem dX3_isReserved_5 : decode cX3_isReserved 5 = .ok (.ldc 68, 2) := eX3_isReserved_0.2.2.2.2.2.1
theorem dX3_isReserved_7 : decode cX3_isReserved 7 = .ok (.invokevirtual 60, 3) := eX3_isReserved_0.2.2.2.2.2.2.1
theorem dX3_isReserved_10 : decode cX3_isReserved 10 = .ok (.if_icmp .ge 58, 3) := eX3_isReserved_0.2.2.2.2.2.2.2.1
theorem eX3_isReserved_13 : decode cX3_isReserved 13 = .ok (.ldc 68, 2) ∧ decode cX3_isReserved 15 = .ok (.iload_n 2, 1) ∧ decode cX3_isReserved 16 = .ok (.invokevirtual 64, 3) ∧ decode cX3_isReserved 19 = .ok (.istore_n 3, 1) ∧ decode cX3_isReserved 20 = .ok (.iload_n 3, 1) ∧ decode cX3_isReserved 21 = .ok (.bipush 32, 2) ∧ decode cX3_isReserved 23 = .ok (.if_icmp .ne 18, 3) ∧ decode cX3_isReserved 26 = .ok (.iload_n 1, 1) ∧ True := dkl_ok (c := cX3_isReserved) [(.ldc 68, 2), (.iload_n 2, 1), (.invokevirtual 64, 3), (.istore_n 3, 1), (.iload_n 3, 1), (.bipush 32, 2), (.if_icmp .ne 18, 3), (.iload_n 1, 1)] 13 (by decide +kernel)
theorem dX3_isReserved_13 : decode cX3_isReserved 13 = .ok (.ldc 68, 2) := eX3_isReserved_13.1
theorem dX3_isReserved_15 : decode cX3_isReserved 15 = .ok (.iload_n 2, 1) := eX3_isReserved_13.2.1
theorem dX3_isReserved_16 : decode cX3_isReserved 16 = .ok (.invokevirtual 64, 3) := eX3_isReserved_13.2.2.1
theorem dX3_isReserved_19 : decode cX3_isReserved 19 = .ok (.istore_n 3, 1) := eX3_isReserved_13.2.2.2.1
theorem dX3_isReserved_20 : decode cX3_isReserved 20 = .ok (.iload_n 3, 1) := eX3_isReserved_13.2.2.2.2.1
theorem dX3_isReserved_21 : decode cX3_isReserved 21 = .ok (.bipush 32, 2) := eX3_isReserved_13.2.2.2.2.2.1
theorem dX3_isReserved_23 : decode cX3_isReserved 23 = .ok (.if_icmp .ne 18, 3) := eX3_isReserved_13.2.2.2.2.2.2.1
theorem dX3_isReserved_26 : decode cX3_isReserved 26 = .ok (.iload_n 1, 1) := eX3_isReserved_13.2.2.2.2.2.2.2.1
theorem eX3_isReserved_27 : decode cX3_isReserved 27 = .ok (.aload_n 0, 1) ∧ decode cX3_isReserved 28 = .ok (.invokevirtual 56, 3) ∧ decode cX3_isReserved 31 = .ok (.if_icmp .ne 5, 3) ∧ decode cX3_isReserved 34 = .ok (.iconst 1, 1) ∧ decode cX3_isReserved 35 = .ok (.ireturn, 1) ∧ decode cX3_isReserved 36 = .ok (.iconst 0, 1) ∧ decode cX3_isReserved 37 = .ok (.istore_n 1, 1) ∧ decode cX3_isReserved 38 = .ok (.goto 24, 3) ∧ True := dkl_ok (c := cX3_isReserved) [(.aload_n 0, 1), (.invokevirtual 56, 3), (.if_icmp .ne 5, 3), (.iconst 1, 1), (.ireturn, 1), (.iconst 0, 1), (.istore_n 1, 1), (.goto 24, 3)] 27 (by decide +kernel)
theorem dX3_isReserved_27 : decode cX3_isReserved 27 = .ok (.aload_n 0, 1) := eX3_isReserved_27.1
theorem dX3_isReserved_28 : decode cX3_isReserved 28 = .ok (.invokevirtual 56, 3) := eX3_isReserved_27.2.1
theorem dX3_isReserved_31 : decode cX3_isReserved 31 = .ok (.if_icmp .ne 5, 3) := eX3_isReserved_27.2.2.1
theorem dX3_isReserved_34 : decode cX3_isReserved 34 = .ok (.iconst 1, 1) := eX3_isReserved_27.2.2.2.1
theorem dX3_isReserved_35 : decode cX3_isReserved 35 = .ok (.ireturn, 1) := eX3_isReserved_27.2.2.2.2.1
theorem dX3_isReserved_36 : decode cX3_isReserved 36 = .ok (.iconst 0, 1) := eX3_isReserved_27.2.2.2.2.2.1
theorem dX3_isReserved_37 : decode cX3_isReserved 37 = .ok (.istore_n 1, 1) := eX3_isReserved_27.2.2.2.2.2.2.1
theorem dX3_isReserved_38 : decode cX3_isReserved 38 = .ok (.goto 24, 3) := eX3_isReserved_27.2.2.2.2.2.2.2.1
theorem eX3_isReserved_41 : decode cX3_isReserved 41 = .ok (.iload_n 1, 1) ∧ decode cX3_isReserved 42 = .ok (.ifCond .lt 20, 3) ∧ decode cX3_isReserved 45 = .ok (.iload_n 3, 1) ∧ decode cX3_isReserved 46 = .ok (.aload_n 0, 1) ∧ decode cX3_isReserved 47 = .ok (.iload_n 1, 1) ∧ decode cX3_isReserved 48 = .ok (.invokevirtual 49, 3) ∧ decode cX3_isReserved 51 = .ok (.if_icmp .ne 9, 3) ∧ decode cX3_isReserved 54 = .ok (.iload_n 1, 1) ∧ True := dkl_ok (c := cX3_isReserved) [(.iload_n 1, 1), (.ifCond .lt 20, 3), (.iload_n 3, 1), (.aload_n 0, 1), (.iload_n 1, 1), (.invokevirtual 49, 3), (.if_icmp .ne 9, 3), (.iload_n 1, 1)] 41 (by decide +kernel)
theorem dX3_isReserved_41 : decode cX3_isReserved 41 = .ok (.iload_n 1, 1) := eX3_isReserved_41.1
theorem dX3_isReserved_42 : decode cX3_isReserved 42 = .ok (.ifCond .lt 20, 3) := eX3_isReserved_41.2.1
theorem dX3_isReserved_45 : decode cX3_isReserved 45 = .ok (.iload_n 3, 1) := eX3_isReserved_41.2.2.1
theorem dX3_isReserved_46 : decode cX3_isReserved 46 = .ok (.aload_n 0, 1) := eX3_isReserved_41.2.2.2.1
theorem dX3_isReserved_47 : decode cX3_isReserved 47 = .ok (.iload_n 1, 1) := eX3_isReserved_41.2.2.2.2.1
theorem dX3_isReserved_48 : decode cX3_isReserved 48 = .ok (.invokevirtual 49, 3) := eX3_isReserved_41.2.2.2.2.2.1
theorem dX3_isReserved_51 : decode cX3_isReserved 51 = .ok (.if_icmp .ne 9, 3) := eX3_isReserved_41.2.2.2.2.2.2.1
theorem dX3_isReserved_54 : decode cX3_isReserved 54 = .ok (.iload_n 1, 1) := eX3_isReserved_41.2.2.2.2.2.2.2.1
theorem eX3_isReserved_55 : decode cX3_isReserved 55 = .ok (.iconst 1, 1) ∧ decode cX3_isReserved 56 = .ok (.iadd, 1) ∧ decode cX3_isReserved 57 = .ok (.goto 4, 3) ∧ decode cX3_isReserved 60 = .ok (.iconst (-1), 1) ∧ decode cX3_isReserved 61 = .ok (.istore_n 1, 1) ∧ decode cX3_isReserved 62 = .ok (.iinc 2 1, 3) ∧ decode cX3_isReserved 65 = .ok (.goto (-61), 3) ∧ decode cX3_isReserved 68 = .ok (.iconst 0, 1) ∧ True := dkl_ok (c := cX3_isReserved) [(.iconst 1, 1), (.iadd, 1), (.goto 4, 3), (.iconst (-1), 1), (.istore_n 1, 1), (.iinc 2 1, 3), (.goto (-61), 3), (.iconst 0, 1)] 55 (by decide +kernel)
theorem dX3_isReserved_55 : decode cX3_isReserved 55 = .ok (.iconst 1, 1) := eX3_isReserved_55.1
theorem dX3_isReserved_56 : decode cX3_isReserved 56 = .ok (.iadd, 1) := eX3_isReserved_55.2.1
theorem dX3_isReserved_57 : decode cX3_isReserved 57 = .ok (.goto 4, 3) := eX3_isReserved_55.2.2.1
theorem dX3_isReserved_60 : decode cX3_isReserved 60 = .ok (.iconst (-1), 1) := eX3_isReserved_55.2.2.2.1
theorem dX3_isReserved_61 : decode cX3_isReserved 61 = .ok (.istore_n 1, 1) := eX3_isReserved_55.2.2.2.2.1
theorem dX3_isReserved_62 : decode cX3_isReserved 62 = .ok (.iinc 2 1, 3) := eX3_isReserved_55.2.2.2.2.2.1
theorem dX3_isReserved_65 : decode cX3_isReserved 65 = .ok (.goto (-61), 3) := eX3_isReserved_55.2.2.2.2.2.2.1
theorem dX3_isReserved_68 : decode cX3_isReserved 68 = .ok (.iconst 0, 1) := eX3_isReserved_55.2.2.2.2.2.2.2.1
theorem eX3_isReserved_69 : decode cX3_isReserved 69 = .ok (.ireturn, 1) ∧ True := dkl_ok (c := cX3_isReserved) [(.ireturn, 1)] 69 (by decide +kernel)
theorem dX3_isReserved_69 : decode cX3_isReserved 69 = .ok (.ireturn, 1) := eX3_isReserved_69.1
theorem eX3_mustBeName_0 : decode cX3_mustBeName 0 = .ok (.aload_n 0, 1) ∧ decode cX3_mustBeName 1 = .ok (.getfield 25, 3) ∧ decode cX3_mustBeName 4 = .ok (.iconst 1, 1) ∧ decode cX3_mustBeName 5 = .ok (.if_icmp .ne 19, 3) ∧ decode cX3_mustBeName 8 = .ok (.aload_n 0, 1) ∧ decode cX3_mustBeName 9 = .ok (.invokevirtual 56, 3) ∧ decode cX3_mustBeName 12 = .ok (.bipush 8, 2) ∧ decode cX3_mustBeName 14 = .ok (.if_icmp .gt 10, 3) ∧ True := dkl_ok (c := cX3_mustBeName) [(.aload_n 0, 1), (.getfield 25, 3), (.iconst 1, 1), (.if_icmp .ne 19, 3), (.aload_n 0, 1), (.invokevirtual 56, 3), (.bipush 8, 2), (.if_icmp .gt 10, 3)] 0 (by decide +kernel)
theorem dX3_mustBeName_0 : decode cX3_mustBeName 0 = .ok (.aload_n 0, 1) := eX3_mustBeName_0.1
theorem dX3_mustBeName_1 : decode cX3_mustBeName 1 = .ok (.getfield 25, 3) := eX3_mustBeName_0.2.1
theorem dX3_mustBeName_4 : decode cX3_mustBeName 4 = .ok (.iconst 1, 1) := eX3_mustBeName_0.2.2.1
theorem dX3_mustBeName_5 : decode cX3_mustBeName 5 = .ok (.if_icmp .ne 19, 3) := eX3_mustBeName_0.2.2.2.1
theorem dX3_mustBeName_8 : decode cX3_mustBeName 8 = .ok (.aload_n 0, 1) := eX3_mustBeName_0.2.2.2.2.1
theorem dX3_mustBeName_9 : decode cX3_mustBeName 9 = .ok (.invokevirtual 56, 3) := eX3_mustBeName_0.2.2.2.2.2.1
theorem dX3_mustBeName_12 : decode cX3_mustBeName 12 = .ok (.bipush 8, 2) := eX3_mustBeName_0.2.2.2.2.2.2.1
theorem dX3_mustBeName_14 : decode cX3_mustBeName 14 = .ok (.if_icmp .gt 10, 3) := eX3_mustBeName_0.2.2.2.2.2.2.2.1
theorem eX3_mustBeName_17 : decode cX3_mustBeName 17 = .ok (.aload_n 0, 1) ∧ decode cX3_mustBeName 18 = .ok (.invokevirtual 70, 3) ∧ decode cX3_mustBeName 21 = .ok (.ifCond .eq 11, 3) ∧ decode cX3_mustBeName 24 = .ok (.aload_n 0, 1) ∧ decode cX3_mustBeName 25 = .ok (.iconst 2, 1) ∧ decode cX3_mustBeName 26 = .ok (.invokevirtual 74, 3) ∧ decode cX3_mustBeName 29 = .ok (.ifCond .eq 7, 3) ∧ decode cX3_mustBeName 32 = .ok (.iconst 1, 1) ∧ True := dkl_ok (c := cX3_mustBeName) [(.aload_n 0, 1), (.invokevirtual 70, 3), (.ifCond .eq 11, 3), (.aload_n 0, 1), (.iconst 2, 1), (.invokevirtual 74, 3), (.ifCond .eq 7, 3), (.iconst 1, 1)] 17 (by decide +kernel)
theorem dX3_mustBeName_17 : decode cX3_mustBeName 17 = .ok (.aload_n 0, 1) := eX3_mustBeName_17.1
theorem dX3_mustBeName_18 : decode cX3_mustBeName 18 = .ok (.invokevirtual 70, 3) := eX3_mustBeName_17.2.1
theorem dX3_mustBeName_21 : decode cX3_mustBeName 21 = .ok (.ifCond .eq 11, 3) := eX3_mustBeName_17.2.2.1
theorem dX3_mustBeName_24 : decode cX3_mustBeName 24 = .ok (.aload_n 0, 1) := eX3_mustBeName_17.2.2.2.1
theorem dX3_mustBeName_25 : decode cX3_mustBeName 25 = .ok (.iconst 2, 1) := eX3_mustBeName_17.2.2.2.2.1
theorem dX3_mustBeName_26 : decode cX3_mustBeName 26 = .ok (.invokevirtual 74, 3) := eX3_mustBeName_17.2.2.2.2.2.1
theorem dX3_mustBeName_29 : decode cX3_mustBeName 29 = .ok (.ifCond .eq 7, 3) := eX3_mustBeName_17.2.2.2.2.2.2.1
theorem dX3_mustBeName_32 : decode cX3_mustBeName 32 = .ok (.iconst 1, 1) := eX3_mustBeName_17.2.2.2.2.2.2.2.1
theorem eX3_mustBeName_33 : decode cX3_mustBeName 33 = .ok (.goto 4, 3) ∧ decode cX3_mustBeName 36 = .ok (.iconst 0, 1) ∧ decode cX3_mustBeName 37 = .ok (.ireturn, 1) ∧ True := dkl_ok (c := cX3_mustBeName) [(.goto 4, 3), (.iconst 0, 1), (.ireturn, 1)] 33 (by decide +kernel)
theorem dX3_mustBeName_33 : decode cX3_mustBeName 33 = .ok (.goto 4, 3) := eX3_mustBeName_33.1
theorem dX3_mustBeName_36 : decode cX3_mustBeName 36 = .ok (.iconst 0, 1) := eX3_mustBeName_33.2.1
theorem dX3_mustBeName_37 : decode cX3_mustBeName 37 = .ok (.ireturn, 1) := eX3_mustBeName_33.2.2.1
theorem eX3_mustBeNumber_0 : decode cX3_mustBeNumber 0 = .ok (.aload_n 0, 1) ∧ decode cX3_mustBeNumber 1 = .ok (.getfield 25, 3) ∧ decode cX3_mustBeNumber 4 = .ok (.iconst 2, 1) ∧ decode cX3_mustBeNumber 5 = .ok (.if_icmp .eq 9, 3) ∧ decode cX3_mustBeNumber 8 = .ok (.aload_n 0, 1) ∧ decode cX3_mustBeNumber 9 = .ok (.iconst 2, 1) ∧ decode cX3_mustBeNumber 10 = .ok (.invokevirtual 74, 3) ∧ decode cX3_mustBeNumber 13 = .ok (.ireturn, 1) ∧ True := dkl_ok (c := cX3_mustBeNumber) [(.aload_n 0, 1), (.getfield 25, 3), (.iconst 2, 1), (.if_icmp .eq 9, 3), (.aload_n 0, 1), (.iconst 2, 1), (.invokevirtual 74, 3), (.ireturn, 1)] 0 (by decide +kernel)
theorem dX3_mustBeNumber_0 : decode cX3_mustBeNumber 0 = .ok (.aload_n 0, 1) := eX3_mustBeNumber_0.1
theorem dX3_mustBeNumber_1 : decode cX3_mustBeNumber 1 = .ok (.getfield 25, 3) := eX3_mustBeNumber_0.2.1
theorem dX3_mustBeNumber_4 : decode cX3_mustBeNumber 4 = .ok (.iconst 2, 1) := eX3_mustBeNumber_0.2.2.1
theorem dX3_mustBeNumber_5 : decode cX3_mustBeNumber 5 = .ok (.if_icmp .eq 9, 3) := eX3_mustBeNumber_0.2.2.2.1
theorem dX3_mustBeNumber_8 : decode cX3_mustBeNumber 8 = .ok (.aload_n 0, 1) := eX3_mustBeNumber_0.2.2.2.2.1
theorem dX3_mustBeNumber_9 : decode cX3_mustBeNumber 9 = .ok (.iconst 2, 1) := eX3_mustBeNumber_0.2.2.2.2.2.1
theorem dX3_mustBeNumber_10 : decode cX3_mustBeNumber 10 = .ok (.invokevirtual 74, 3) := eX3_mustBeNumber_0.2.2.2.2.2.2.1
theorem dX3_mustBeNumber_13 : decode cX3_mustBeNumber 13 = .ok (.ireturn, 1) := eX3_mustBeNumber_0.2.2.2.2.2.2.2.1
theorem eX3_mustBeNumber_14 : decode cX3_mustBeNumber 14 = .ok (.aload_n 0, 1) ∧ decode cX3_mustBeNumber 15 = .ok (.getfield 28, 3) ∧ decode cX3_mustBeNumber 18 = .ok (.iload_n 1, 1) ∧ decode cX3_mustBeNumber 19 = .ok (.if_icmp .lt 11, 3) ∧ decode cX3_mustBeNumber 22 = .ok (.aload_n 0, 1) ∧ decode cX3_mustBeNumber 23 = .ok (.getfield 28, 3) ∧ decode cX3_mustBeNumber 26 = .ok (.iload_n 2, 1) ∧ decode cX3_mustBeNumber 27 = .ok (.if_icmp .le 11, 3) ∧ True := dkl_ok (c := cX3_mustBeNumber) [(.aload_n 0, 1), (.getfield 28, 3), (.iload_n 1, 1), (.if_icmp .lt 11, 3), (.aload_n 0, 1), (.getfield 28, 3), (.iload_n 2, 1), (.if_icmp .le 11, 3)] 14 (by decide +kernel)
theorem dX3_mustBeNumber_14 : decode cX3_mustBeNumber 14 = .ok (.aload_n 0, 1) := eX3_mustBeNumber_14.1
theorem dX3_mustBeNumber_15 : decode cX3_mustBeNumber 15 = .ok (.getfield 28, 3) := eX3_mustBeNumber_14.2.1
theorem dX3_mustBeNumber_18 : decode cX3_mustBeNumber 18 = .ok (.iload_n 1, 1) := eX3_mustBeNumber_14.2.2.1
theorem dX3_mustBeNumber_19 : decode cX3_mustBeNumber 19 = .ok (.if_icmp .lt 11, 3) := eX3_mustBeNumber_14.2.2.2.1
theorem dX3_mustBeNumber_22 : decode cX3_mustBeNumber 22 = .ok (.aload_n 0, 1) := eX3_mustBeNumber_14.2.2.2.2.1
theorem dX3_mustBeNumber_23 : decode cX3_mustBeNumber 23 = .ok (.getfield 28, 3) := eX3_mustBeNumber_14.2.2.2.2.2.1
theorem dX3_mustBeNumber_26 : decode cX3_mustBeNumber 26 = .ok (.iload_n 2, 1) := eX3_mustBeNumber_14.2.2.2.2.2.2.1
theorem dX3_mustBeNumber_27 : decode cX3_mustBeNumber 27 = .ok (.if_icmp .le 11, 3) := eX3_mustBeNumber_14.2.2.2.2.2.2.2.1
theorem eX3_mustBeNumber_30 : decode cX3_mustBeNumber 30 = .ok (.aload_n 0, 1) ∧ decode cX3_mustBeNumber 31 = .ok (.iconst 4, 1) ∧ decode cX3_mustBeNumber 32 = .ok (.invokevirtual 74, 3) ∧ decode cX3_mustBeNumber 35 = .ok (.ifCond .eq 7, 3) ∧ decode cX3_mustBeNumber 38 = .ok (.iconst 1, 1) ∧ decode cX3_mustBeNumber 39 = .ok (.goto 4, 3) ∧ decode cX3_mustBeNumber 42 = .ok (.iconst 0, 1) ∧ decode cX3_mustBeNumber 43 = .ok (.ireturn, 1) ∧ True := dkl_ok (c := cX3_mustBeNumber) [(.aload_n 0, 1), (.iconst 4, 1), (.invokevirtual 74, 3), (.ifCond .eq 7, 3), (.iconst 1, 1), (.goto 4, 3), (.iconst 0, 1), (.ireturn, 1)] 30 (by decide +kernel)
theorem dX3_mustBeNumber_30 : decode cX3_mustBeNumber 30 = .ok (.aload_n 0, 1) := eX3_mustBeNumber_30.1
theorem dX3_mustBeNumber_31 : decode cX3_mustBeNumber 31 = .ok (.iconst 4, 1) := eX3_mustBeNumber_30.2.1
theorem dX3_mustBeNumber_32 : decode cX3_mustBeNumber 32 = .ok (.invokevirtual 74, 3) := eX3_mustBeNumber_30.2.2.1
theorem dX3_mustBeNumber_35 : decode cX3_mustBeNumber 35 = .ok (.ifCond .eq 7, 3) := eX3_mustBeNumber_30.2.2.2.1
theorem dX3_mustBeNumber_38 : decode cX3_mustBeNumber 38 = .ok (.iconst 1, 1) := eX3_mustBeNumber_30.2.2.2.2.1
theorem dX3_mustBeNumber_39 : decode cX3_mustBeNumber 39 = .ok (.goto 4, 3) := eX3_mustBeNumber_30.2.2.2.2.2.1
theorem dX3_mustBeNumber_42 : decode cX3_mustBeNumber 42 = .ok (.iconst 0, 1) := eX3_mustBeNumber_30.2.2.2.2.2.2.1
theorem dX3_mustBeNumber_43 : decode cX3_mustBeNumber 43 = .ok (.ireturn, 1) := eX3_mustBeNumber_30.2.2.2.2.2.2.2.1
theorem eX3_passPlayer_0 : decode cX3_passPlayer 0 = .ok (.aload_n 0, 1) ∧ decode cX3_passPlayer 1 = .ok (.invokevirtual 78, 3) ∧ decode cX3_passPlayer 4 = .ok (.ifCond .ne 5, 3) ∧ decode cX3_passPlayer 7 = .ok (.iconst (-1), 1) ∧ decode cX3_passPlayer 8 = .ok (.ireturn, 1) ∧ decode cX3_passPlayer 9 = .ok (.aload_n 1, 1) ∧ decode cX3_passPlayer 10 = .ok (.aload_n 0, 1) ∧ decode cX3_passPlayer 11 = .ok (.invokevirtual 81, 3) ∧ True := dkl_ok (c := cX3_passPlayer) [(.aload_n 0, 1), (.invokevirtual 78, 3), (.ifCond .ne 5, 3), (.iconst (-1), 1), (.ireturn, 1), (.aload_n 1, 1), (.aload_n 0, 1), (.invokevirtual 81, 3)] 0 (by decide +kernel)
theorem dX3_passPlayer_0 : decode cX3_passPlayer 0 = .ok (.aload_n 0, 1) := eX3_passPlayer_0.1
theorem dX3_passPlayer_1 : decode cX3_passPlayer 1 = .ok (.invokevirtual 78, 3) := eX3_passPlayer_0.2.1
theorem dX3_passPlayer_4 : decode cX3_passPlayer 4 = .ok (.ifCond .ne 5, 3) := eX3_passPlayer_0.2.2.1
theorem dX3_passPlayer_7 : decode cX3_passPlayer 7 = .ok (.iconst (-1), 1) := eX3_passPlayer_0.2.2.2.1
theorem dX3_passPlayer_8 : decode cX3_passPlayer 8 = .ok (.ireturn, 1) := eX3_passPlayer_0.2.2.2.2.1
theorem dX3_passPlayer_9 : decode cX3_passPlayer 9 = .ok (.aload_n 1, 1) := eX3_passPlayer_0.2.2.2.2.2.1
theorem dX3_passPlayer_10 : decode cX3_passPlayer 10 = .ok (.aload_n 0, 1) := eX3_passPlayer_0.2.2.2.2.2.2.1
theorem dX3_passPlayer_11 : decode cX3_passPlayer 11 = .ok (.invokevirtual 81, 3) := eX3_passPlayer_0.2.2.2.2.2.2.2.1
theorem eX3_passPlayer_14 : decode cX3_passPlayer 14 = .ok (.istore_n 2, 1) ∧ decode cX3_passPlayer 15 = .ok (.iload_n 2, 1) ∧ decode cX3_passPlayer 16 = .ok (.iconst (-1), 1) ∧ decode cX3_passPlayer 17 = .ok (.if_icmp .ne 11, 3) ∧ decode cX3_passPlayer 20 = .ok (.aload_n 0, 1) ∧ decode cX3_passPlayer 21 = .ok (.iconst 3, 1) ∧ decode cX3_passPlayer 22 = .ok (.invokevirtual 74, 3) ∧ decode cX3_passPlayer 25 = .ok (.pop, 1) ∧ True := dkl_ok (c := cX3_passPlayer) [(.istore_n 2, 1), (.iload_n 2, 1), (.iconst (-1), 1), (.if_icmp .ne 11, 3), (.aload_n 0, 1), (.iconst 3, 1), (.invokevirtual 74, 3), (.pop, 1)] 14 (by decide +kernel)
theorem dX3_passPlayer_14 : decode cX3_passPlayer 14 = .ok (.istore_n 2, 1) := eX3_passPlayer_14.1
theorem dX3_passPlayer_15 : decode cX3_passPlayer 15 = .ok (.iload_n 2, 1) := eX3_passPlayer_14.2.1
theorem dX3_passPlayer_16 : decode cX3_passPlayer 16 = .ok (.iconst (-1), 1) := eX3_passPlayer_14.2.2.1
theorem dX3_passPlayer_17 : decode cX3_passPlayer 17 = .ok (.if_icmp .ne 11, 3) := eX3_passPlayer_14.2.2.2.1
theorem dX3_passPlayer_20 : decode cX3_passPlayer 20 = .ok (.aload_n 0, 1) := eX3_passPlayer_14.2.2.2.2.1
theorem dX3_passPlayer_21 : decode cX3_passPlayer 21 = .ok (.iconst 3, 1) := eX3_passPlayer_14.2.2.2.2.2.1
theorem dX3_passPlayer_22 : decode cX3_passPlayer 22 = .ok (.invokevirtual 74, 3) := eX3_passPlayer_14.2.2.2.2.2.2.1
theorem dX3_passPlayer_25 : decode cX3_passPlayer 25 = .ok (.pop, 1) := eX3_passPlayer_14.2.2.2.2.2.2.2.1
theorem eX3_passPlayer_26 : decode cX3_passPlayer 26 = .ok (.iconst (-1), 1) ∧ decode cX3_passPlayer 27 = .ok (.ireturn, 1) ∧ decode cX3_passPlayer 28 = .ok (.aload_n 0, 1) ∧ decode cX3_passPlayer 29 = .ok (.invokevirtual 46, 3) ∧ decode cX3_passPlayer 32 = .ok (.iload_n 2, 1) ∧ decode cX3_passPlayer 33 = .ok (.ireturn, 1) ∧ True := dkl_ok (c := cX3_passPlayer) [(.iconst (-1), 1), (.ireturn, 1), (.aload_n 0, 1), (.invokevirtual 46, 3), (.iload_n 2, 1), (.ireturn, 1)] 26 (by decide +kernel)
theorem dX3_passPlayer_26 : decode cX3_passPlayer 26 = .ok (.iconst (-1), 1) := eX3_passPlayer_26.1
theorem dX3_passPlayer_27 : decode cX3_passPlayer 27 = .ok (.ireturn, 1) := eX3_passPlayer_26.2.1
theorem dX3_passPlayer_28 : decode cX3_passPlayer 28 = .ok (.aload_n 0, 1) := eX3_passPlayer_26.2.2.1
theorem dX3_passPlayer_29 : decode cX3_passPlayer 29 = .ok (.invokevirtual 46, 3) := eX3_passPlayer_26.2.2.2.1
theorem dX3_passPlayer_32 : decode cX3_passPlayer 32 = .ok (.iload_n 2, 1) := eX3_passPlayer_26.2.2.2.2.1
theorem dX3_passPlayer_33 : decode cX3_passPlayer 33 = .ok (.ireturn, 1) := eX3_passPlayer_26.2.2.2.2.2.1
theorem eX3_passNumber_0 : decode cX3_passNumber 0 = .ok (.aload_n 0, 1) ∧ decode cX3_passNumber 1 = .ok (.iload_n 1, 1) ∧ decode cX3_passNumber 2 = .ok (.iload_n 2, 1) ∧ decode cX3_passNumber 3 = .ok (.invokevirtual 87, 3) ∧ decode cX3_passNumber 6 = .ok (.ifCond .ne 5, 3) ∧ decode cX3_passNumber 9 = .ok (.iconst (-1), 1) ∧ decode cX3_passNumber 10 = .ok (.ireturn, 1) ∧ decode cX3_passNumber 11 = .ok (.aload_n 0, 1) ∧ True := dkl_ok (c := cX3_passNumber) [(.aload_n 0, 1), (.iload_n 1, 1), (.iload_n 2, 1), (.invokevirtual 87, 3), (.ifCond .ne 5, 3), (.iconst (-1), 1), (.ireturn, 1), (.aload_n 0, 1)] 0 (by decide +kernel)
theorem dX3_passNumber_0 : decode cX3_passNumber 0 = .ok (.aload_n 0, 1) := eX3_passNumber_0.1
theorem dX3_passNumber_1 : decode cX3_passNumber 1 = .ok (.iload_n 1, 1) := eX3_passNumber_0.2.1
theorem dX3_passNumber_2 : decode cX3_passNumber 2 = .ok (.iload_n 2, 1) := eX3_passNumber_0.2.2.1
theorem dX3_passNumber_3 : decode cX3_passNumber 3 = .ok (.invokevirtual 87, 3) := eX3_passNumber_0.2.2.2.1
theorem dX3_passNumber_6 : decode cX3_passNumber 6 = .ok (.ifCond .ne 5, 3) := eX3_passNumber_0.2.2.2.2.1
theorem dX3_passNumber_9 : decode cX3_passNumber 9 = .ok (.iconst (-1), 1) := eX3_passNumber_0.2.2.2.2.2.1
theorem dX3_passNumber_10 : decode cX3_passNumber 10 = .ok (.ireturn, 1) := eX3_passNumber_0.2.2.2.2.2.2.1
theorem dX3_passNumber_11 : decode cX3_passNumber 11 = .ok (.aload_n 0, 1) := eX3_passNumber_0.2.2.2.2.2.2.2.1
theorem eX3_passNumber_12 : decode cX3_passNumber 12 = .ok (.getfield 28, 3) ∧ decode cX3_passNumber 15 = .ok (.istore_n 3, 1) ∧ decode cX3_passNumber 16 = .ok (.aload_n 0, 1) ∧ decode cX3_passNumber 17 = .ok (.invokevirtual 46, 3) ∧ decode cX3_passNumber 20 = .ok (.iload_n 3, 1) ∧ decode cX3_passNumber 21 = .ok (.ireturn, 1) ∧ True := dkl_ok (c := cX3_passNumber) [(.getfield 28, 3), (.istore_n 3, 1), (.aload_n 0, 1), (.invokevirtual 46, 3), (.iload_n 3, 1), (.ireturn, 1)] 12 (by decide +kernel)
theorem dX3_passNumber_12 : decode cX3_passNumber 12 = .ok (.getfield 28, 3) := eX3_passNumber_12.1
theorem dX3_passNumber_15 : decode cX3_passNumber 15 = .ok (.istore_n 3, 1) := eX3_passNumber_12.2.1
theorem dX3_passNumber_16 : decode cX3_passNumber 16 = .ok (.aload_n 0, 1) := eX3_passNumber_12.2.2.1
theorem dX3_passNumber_17 : decode cX3_passNumber 17 = .ok (.invokevirtual 46, 3) := eX3_passNumber_12.2.2.2.1
theorem dX3_passNumber_20 : decode cX3_passNumber 20 = .ok (.iload_n 3, 1) := eX3_passNumber_12.2.2.2.2.1
theorem dX3_passNumber_21 : decode cX3_passNumber 21 = .ok (.ireturn, 1) := eX3_passNumber_12.2.2.2.2.2.1
theorem eX3_passWord_0 : decode cX3_passWord 0 = .ok (.aload_n 0, 1) ∧ decode cX3_passWord 1 = .ok (.aload_n 1, 1) ∧ decode cX3_passWord 2 = .ok (.invokevirtual 91, 3) ∧ decode cX3_passWord 5 = .ok (.ifCond .ne 9, 3) ∧ decode cX3_passWord 8 = .ok (.aload_n 0, 1) ∧ decode cX3_passWord 9 = .ok (.iconst 2, 1) ∧ decode cX3_passWord 10 = .ok (.invokevirtual 74, 3) ∧ decode cX3_passWord 13 = .ok (.ireturn, 1) ∧ True := dkl_ok (c := cX3_passWord) [(.aload_n 0, 1), (.aload_n 1, 1), (.invokevirtual 91, 3), (.ifCond .ne 9, 3), (.aload_n 0, 1), (.iconst 2, 1), (.invokevirtual 74, 3), (.ireturn, 1)] 0 (by decide +kernel)
theorem dX3_passWord_0 : decode cX3_passWord 0 = .ok (.aload_n 0, 1) := eX3_passWord_0.1
theorem dX3_passWord_1 : decode cX3_passWord 1 = .ok (.aload_n 1, 1) := eX3_passWord_0.2.1
theorem dX3_passWord_2 : decode cX3_passWord 2 = .ok (.invokevirtual 91, 3) := eX3_passWord_0.2.2.1
theorem dX3_passWord_5 : decode cX3_passWord 5 = .ok (.ifCond .ne 9, 3) := eX3_passWord_0.2.2.2.1
theorem dX3_passWord_8 : decode cX3_passWord 8 = .ok (.aload_n 0, 1) := eX3_passWord_0.2.2.2.2.1
theorem dX3_passWord_9 : decode cX3_passWord 9 = .ok (.iconst 2, 1) := eX3_passWord_0.2.2.2.2.2.1
theorem dX3_passWord_10 : decode cX3_passWord 10 = .ok (.invokevirtual 74, 3) := eX3_passWord_0.2.2.2.2.2.2.1
theorem dX3_passWord_13 : decode cX3_passWord 13 = .ok (.ireturn, 1) := eX3_passWord_0.2.2.2.2.2.2.2.1
theorem eX3_passWord_14 : decode cX3_passWord 14 = .ok (.aload_n 0, 1) ∧ decode cX3_passWord 15 = .ok (.invokevirtual 46, 3) ∧ decode cX3_passWord 18 = .ok (.iconst 1, 1) ∧ decode cX3_passWord 19 = .ok (.ireturn, 1) ∧ True := dkl_ok (c := cX3_passWord) [(.aload_n 0, 1), (.invokevirtual 46, 3), (.iconst 1, 1), (.ireturn, 1)] 14 (by decide +kernel)
theorem dX3_passWord_14 : decode cX3_passWord 14 = .ok (.aload_n 0, 1) := eX3_passWord_14.1
theorem dX3_passWord_15 : decode cX3_passWord 15 = .ok (.invokevirtual 46, 3) := eX3_passWord_14.2.1
theorem dX3_passWord_18 : decode cX3_passWord 18 = .ok (.iconst 1, 1) := eX3_passWord_14.2.2.1
theorem dX3_passWord_19 : decode cX3_passWord 19 = .ok (.ireturn, 1) := eX3_passWord_14.2.2.2.1
theorem eX3_passSemicolon_0 : decode cX3_passSemicolon 0 = .ok (.aload_n 0, 1) ∧ decode cX3_passSemicolon 1 = .ok (.getfield 25, 3) ∧ decode cX3_passSemicolon 4 = .ok (.iconst 3, 1) ∧ decode cX3_passSemicolon 5 = .ok (.if_icmp .ne 13, 3) ∧ decode cX3_passSemicolon 8 = .ok (.aload_n 0, 1) ∧ decode cX3_passSemicolon 9 = .ok (.iconst 0, 1) ∧ decode cX3_passSemicolon 10 = .ok (.invokevirtual 49, 3) ∧ decode cX3_passSemicolon 13 = .ok (.bipush 59, 2) ∧ True := dkl_ok (c := cX3_passSemicolon) [(.aload_n 0, 1), (.getfield 25, 3), (.iconst 3, 1), (.if_icmp .ne 13, 3), (.aload_n 0, 1), (.iconst 0, 1), (.invokevirtual 49, 3), (.bipush 59, 2)] 0 (by decide +kernel)
theorem dX3_passSemicolon_0 : decode cX3_passSemicolon 0 = .ok (.aload_n 0, 1) := eX3_passSemicolon_0.1
theorem dX3_passSemicolon_1 : decode cX3_passSemicolon 1 = .ok (.getfield 25, 3) := eX3_passSemicolon_0.2.1
theorem dX3_passSemicolon_4 : decode cX3_passSemicolon 4 = .ok (.iconst 3, 1) := eX3_passSemicolon_0.2.2.1
theorem dX3_passSemicolon_5 : decode cX3_passSemicolon 5 = .ok (.if_icmp .ne 13, 3) := eX3_passSemicolon_0.2.2.2.1
theorem dX3_passSemicolon_8 : decode cX3_passSemicolon 8 = .ok (.aload_n 0, 1) := eX3_passSemicolon_0.2.2.2.2.1
theorem dX3_passSemicolon_9 : decode cX3_passSemicolon 9 = .ok (.iconst 0, 1) := eX3_passSemicolon_0.2.2.2.2.2.1
theorem dX3_passSemicolon_10 : decode cX3_passSemicolon 10 = .ok (.invokevirtual 49, 3) := eX3_passSemicolon_0.2.2.2.2.2.2.1
theorem dX3_passSemicolon_13 : decode cX3_passSemicolon 13 = .ok (.bipush 59, 2) := eX3_passSemicolon_0.2.2.2.2.2.2.2.1
theorem eX3_passSemicolon_15 : decode cX3_passSemicolon 15 = .ok (.if_icmp .eq 9, 3) ∧ decode cX3_passSemicolon 18 = .ok (.aload_n 0, 1) ∧ decode cX3_passSemicolon 19 = .ok (.iconst 2, 1) ∧ decode cX3_passSemicolon 20 = .ok (.invokevirtual 74, 3) ∧ decode cX3_passSemicolon 23 = .ok (.ireturn, 1) ∧ decode cX3_passSemicolon 24 = .ok (.aload_n 0, 1) ∧ decode cX3_passSemicolon 25 = .ok (.invokevirtual 46, 3) ∧ decode cX3_passSemicolon 28 = .ok (.iconst 1, 1) ∧ True := dkl_ok (c := cX3_passSemicolon) [(.if_icmp .eq 9, 3), (.aload_n 0, 1), (.iconst 2, 1), (.invokevirtual 74, 3), (.ireturn, 1), (.aload_n 0, 1), (.invokevirtual 46, 3), (.iconst 1, 1)] 15 (by decide +kernel)
theorem dX3_passSemicolon_15 : decode cX3_passSemicolon 15 = .ok (.if_icmp .eq 9, 3) := eX3_passSemicolon_15.1
theorem dX3_passSemicolon_18 : decode cX3_passSemicolon 18 = .ok (.aload_n 0, 1) := eX3_passSemicolon_15.2.1
theorem dX3_passSemicolon_19 : decode cX3_passSemicolon 19 = .ok (.iconst 2, 1) := eX3_passSemicolon_15.2.2.1
theorem dX3_passSemicolon_20 : decode cX3_passSemicolon 20 = .ok (.invokevirtual 74, 3) := eX3_passSemicolon_15.2.2.2.1
theorem dX3_passSemicolon_23 : decode cX3_passSemicolon 23 = .ok (.ireturn, 1) := eX3_passSemicolon_15.2.2.2.2.1
theorem dX3_passSemicolon_24 : decode cX3_passSemicolon 24 = .ok (.aload_n 0, 1) := eX3_passSemicolon_15.2.2.2.2.2.1
theorem dX3_passSemicolon_25 : decode cX3_passSemicolon 25 = .ok (.invokevirtual 46, 3) := eX3_passSemicolon_15.2.2.2.2.2.2.1
theorem dX3_passSemicolon_28 : decode cX3_passSemicolon 28 = .ok (.iconst 1, 1) := eX3_passSemicolon_15.2.2.2.2.2.2.2.1
theorem eX3_passSemicolon_29 : decode cX3_passSemicolon 29 = .ok (.ireturn, 1) ∧ True := dkl_ok (c := cX3_passSemicolon) [(.ireturn, 1)] 29 (by decide +kernel)
theorem dX3_passSemicolon_29 : decode cX3_passSemicolon 29 = .ok (.ireturn, 1) := eX3_passSemicolon_29.1
theorem eX4_init_0 : decode cX4_init 0 = .ok (.aload_n 0, 1) ∧ decode cX4_init 1 = .ok (.invokespecial 3, 3) ∧ decode cX4_init 4 = .ok (.aload_n 0, 1) ∧ decode cX4_init 5 = .ok (.new 9, 3) ∧ decode cX4_init 8 = .ok (.dup, 1) ∧ decode cX4_init 9 = .ok (.invokespecial 11, 3) ∧ decode cX4_init 12 = .ok (.putfield 12, 3) ∧ decode cX4_init 15 = .ok (.aload_n 0, 1) ∧ True := dkl_ok (c := cX4_init) [(.aload_n 0, 1), (.invokespecial 3, 3), (.aload_n 0, 1), (.new 9, 3), (.dup, 1), (.invokespecial 11, 3), (.putfield 12, 3), (.aload_n 0, 1)] 0 (by decide +kernel)
theorem dX4_init_0 : decode cX4_init 0 = .ok (.aload_n 0, 1) := eX4_init_0.1
theorem dX4_init_1 : decode cX4_init 1 = .ok (.invokespecial 3, 3) := eX4_init_0.2.1
theorem dX4_init_4 : decode cX4_init 4 = .ok (.aload_n 0, 1) := eX4_init_0.2.2.1
theorem dX4_init_5 : decode cX4_init 5 = .ok (.new 9, 3) := eX4_init_0.2.2.2.1
theorem dX4_init_8 : decode cX4_init 8 = .ok (.dup, 1) := eX4_init_0.2.2.2.2.1
theorem dX4_init_9 : decode cX4_init 9 = .ok (.invokespecial 11, 3) := eX4_init_0.2.2.2.2.2.1
theorem dX4_init_12 : decode cX4_init 12 = .ok (.putfield 12, 3) := eX4_init_0.2.2.2.2.2.2.1
theorem dX4_init_15 : decode cX4_init 15 = .ok (.aload_n 0, 1) := eX4_init_0.2.2.2.2.2.2.2.1
theorem eX4_init_16 : decode cX4_init 16 = .ok (.new 18, 3) ∧ decode cX4_init 19 = .ok (.dup, 1) ∧ decode cX4_init 20 = .ok (.iconst 3, 1) ∧ decode cX4_init 21 = .ok (.invokespecial 20, 3) ∧ decode cX4_init 24 = .ok (.putfield 23, 3) ∧ decode cX4_init 27 = .ok (.aload_n 0, 1) ∧ decode cX4_init 28 = .ok (.iconst 0, 1) ∧ decode cX4_init 29 = .ok (.putfield 27, 3) ∧ True := dkl_ok (c := cX4_init) [(.new 18, 3), (.dup, 1), (.iconst 3, 1), (.invokespecial 20, 3), (.putfield 23, 3), (.aload_n 0, 1), (.iconst 0, 1), (.putfield 27, 3)] 16 (by decide +kernel)
theorem dX4_init_16 : decode cX4_init 16 = .ok (.new 18, 3) := eX4_init_16.1
theorem dX4_init_19 : decode cX4_init 19 = .ok (.dup, 1) := eX4_init_16.2.1
theorem dX4_init_20 : decode cX4_init 20 = .ok (.iconst 3, 1) := eX4_init_16.2.2.1
theorem dX4_init_21 : decode cX4_init 21 = .ok (.invokespecial 20, 3) := eX4_init_16.2.2.2.1
theorem dX4_init_24 : decode cX4_init 24 = .ok (.putfield 23, 3) := eX4_init_16.2.2.2.2.1
theorem dX4_init_27 : decode cX4_init 27 = .ok (.aload_n 0, 1) := eX4_init_16.2.2.2.2.2.1
theorem dX4_init_28 : decode cX4_init 28 = .ok (.iconst 0, 1) := eX4_init_16.2.2.2.2.2.2.1
theorem dX4_init_29 : decode cX4_init 29 = .ok (.putfield 27, 3) := eX4_init_16.2.2.2.2.2.2.2.1
theorem eX4_init_32 : decode cX4_init 32 = .ok (.return_, 1) ∧ True := dkl_ok (c := cX4_init) [(.return_, 1)] 32 (by decide +kernel)
theorem dX4_init_32 : decode cX4_init 32 = .ok (.return_, 1) := eX4_init_32.1
theorem eX4_takes_0 : decode cX4_takes 0 = .ok (.aload_n 0, 1) ∧ decode cX4_takes 1 = .ok (.getfield 12, 3) ∧ decode cX4_takes 4 = .ok (.invokevirtual 31, 3) ∧ decode cX4_takes 7 = .ok (.aload_n 0, 1) ∧ decode cX4_takes 8 = .ok (.iconst 0, 1) ∧ decode cX4_takes 9 = .ok (.putfield 27, 3) ∧ decode cX4_takes 12 = .ok (.aload_n 0, 1) ∧ decode cX4_takes 13 = .ok (.aload_n 1, 1) ∧ True := dkl_ok (c := cX4_takes) [(.aload_n 0, 1), (.getfield 12, 3), (.invokevirtual 31, 3), (.aload_n 0, 1), (.iconst 0, 1), (.putfield 27, 3), (.aload_n 0, 1), (.aload_n 1, 1)] 0 (by decide +kernel)
theorem dX4_takes_0 : decode cX4_takes 0 = .ok (.aload_n 0, 1) := eX4_takes_0.1
theorem dX4_takes_1 : decode cX4_takes 1 = .ok (.getfield 12, 3) := eX4_takes_0.2.1
theorem dX4_takes_4 : decode cX4_takes 4 = .ok (.invokevirtual 31, 3) := eX4_takes_0.2.2.1
theorem dX4_takes_7 : decode cX4_takes 7 = .ok (.aload_n 0, 1) := eX4_takes_0.2.2.2.1
theorem dX4_takes_8 : decode cX4_takes 8 = .ok (.iconst 0, 1) := eX4_takes_0.2.2.2.2.1
theorem dX4_takes_9 : decode cX4_takes 9 = .ok (.putfield 27, 3) := eX4_takes_0.2.2.2.2.2.1
theorem dX4_takes_12 : decode cX4_takes 12 = .ok (.aload_n 0, 1) := eX4_takes_0.2.2.2.2.2.2.1
theorem dX4_takes_13 : decode cX4_takes 13 = .ok (.aload_n 1, 1) := eX4_takes_0.2.2.2.2.2.2.2.1
theorem eX4_takes_14 : decode cX4_takes 14 = .ok (.iload_n 2, 1) ∧ decode cX4_takes 15 = .ok (.invokevirtual 34, 3) ∧ decode cX4_takes 18 = .ok (.iconst 0, 1) ∧ decode cX4_takes 19 = .ok (.istore 4, 2) ∧ decode cX4_takes 21 = .ok (.iload 4, 2) ∧ decode cX4_takes 23 = .ok (.sipush 300, 3) ∧ decode cX4_takes 26 = .ok (.if_icmp .ge 46, 3) ∧ decode cX4_takes 29 = .ok (.aload_n 0, 1) ∧ True := dkl_ok (c := cX4_takes) [(.iload_n 2, 1), (.invokevirtual 34, 3), (.iconst 0, 1), (.istore 4, 2), (.iload 4, 2), (.sipush 300, 3), (.if_icmp .ge 46, 3), (.aload_n 0, 1)] 14 (by decide +kernel)
theorem dX4_takes_14 : decode cX4_takes 14 = .ok (.iload_n 2, 1) := eX4_takes_14.1
theorem dX4_takes_15 : decode cX4_takes 15 = .ok (.invokevirtual 34, 3) := eX4_takes_14.2.1
theorem dX4_takes_18 : decode cX4_takes 18 = .ok (.iconst 0, 1) := eX4_takes_14.2.2.1
theorem dX4_takes_19 : decode cX4_takes 19 = .ok (.istore 4, 2) := eX4_takes_14.2.2.2.1
theorem dX4_takes_21 : decode cX4_takes 21 = .ok (.iload 4, 2) := eX4_takes_14.2.2.2.2.1
theorem dX4_takes_23 : decode cX4_takes 23 = .ok (.sipush 300, 3) := eX4_takes_14.2.2.2.2.2.1
theorem dX4_takes_26 : decode cX4_takes 26 = .ok (.if_icmp .ge 46, 3) := eX4_takes_14.2.2.2.2.2.2.1
theorem dX4_takes_29 : decode cX4_takes 29 = .ok (.aload_n 0, 1) := eX4_takes_14.2.2.2.2.2.2.2.1
theorem eX4_takes_30 : decode cX4_takes 30 = .ok (.getfield 38, 3) ∧ decode cX4_takes 33 = .ok (.ifCond .eq 39, 3) ∧ decode cX4_takes 36 = .ok (.aload_n 0, 1) ∧ decode cX4_takes 37 = .ok (.ldc 41, 2) ∧ decode cX4_takes 39 = .ok (.invokevirtual 43, 3) ∧ decode cX4_takes 42 = .ok (.ifCond .eq 10, 3) ∧ decode cX4_takes 45 = .ok (.aload_n 0, 1) ∧ decode cX4_takes 46 = .ok (.invokevirtual 47, 3) ∧ True := dkl_ok (c := cX4_takes) [(.getfield 38, 3), (.ifCond .eq 39, 3), (.aload_n 0, 1), (.ldc 41, 2), (.invokevirtual 43, 3), (.ifCond .eq 10, 3), (.aload_n 0, 1), (.invokevirtual 47, 3)] 30 (by decide +kernel)
theorem dX4_takes_30 : decode cX4_takes 30 = .ok (.getfield 38, 3) := eX4_takes_30.1
theorem dX4_takes_33 : decode cX4_takes 33 = .ok (.ifCond .eq 39, 3) := eX4_takes_30.2.1
theorem dX4_takes_36 : decode cX4_takes 36 = .ok (.aload_n 0, 1) := eX4_takes_30.2.2.1
theorem dX4_takes_37 : decode cX4_takes 37 = .ok (.ldc 41, 2) := eX4_takes_30.2.2.2.1
theorem dX4_takes_39 : decode cX4_takes 39 = .ok (.invokevirtual 43, 3) := eX4_takes_30.2.2.2.2.1
theorem dX4_takes_42 : decode cX4_takes 42 = .ok (.ifCond .eq 10, 3) := eX4_takes_30.2.2.2.2.2.1
theorem dX4_takes_45 : decode cX4_takes 45 = .ok (.aload_n 0, 1) := eX4_takes_30.2.2.2.2.2.2.1
theorem dX4_takes_46 : decode cX4_takes 46 = .ok (.invokevirtual 47, 3) := eX4_takes_30.2.2.2.2.2.2.2.1
theorem eX4_takes_49 : decode cX4_takes 49 = .ok (.goto 8, 3) ∧ decode cX4_takes 52 = .ok (.aload_n 0, 1) ∧ decode cX4_takes 53 = .ok (.aload_n 3, 1) ∧ decode cX4_takes 54 = .ok (.invokevirtual 51, 3) ∧ decode cX4_takes 57 = .ok (.istore 5, 2) ∧ decode cX4_takes 59 = .ok (.iload 5, 2) ∧ decode cX4_takes 61 = .ok (.ifCond .ne 5, 3) ∧ decode cX4_takes 64 = .ok (.iconst 0, 1) ∧ True := dkl_ok (c := cX4_takes) [(.goto 8, 3), (.aload_n 0, 1), (.aload_n 3, 1), (.invokevirtual 51, 3), (.istore 5, 2), (.iload 5, 2), (.ifCond .ne 5, 3), (.iconst 0, 1)] 49 (by decide +kernel)
theorem dX4_takes_49 : decode cX4_takes 49 = .ok (.goto 8, 3) := eX4_takes_49.1
theorem dX4_takes_52 : decode cX4_takes 52 = .ok (.aload_n 0, 1) := eX4_takes_49.2.1
theorem dX4_takes_53 : decode cX4_takes 53 = .ok (.aload_n 3, 1) := eX4_takes_49.2.2.1
theorem dX4_takes_54 : decode cX4_takes 54 = .ok (.invokevirtual 51, 3) := eX4_takes_49.2.2.2.1
theorem dX4_takes_57 : decode cX4_takes 57 = .ok (.istore 5, 2) := eX4_takes_49.2.2.2.2.1
theorem dX4_takes_59 : decode cX4_takes 59 = .ok (.iload 5, 2) := eX4_takes_49.2.2.2.2.2.1
theorem dX4_takes_61 : decode cX4_takes 61 = .ok (.ifCond .ne 5, 3) := eX4_takes_49.2.2.2.2.2.2.1
theorem dX4_takes_64 : decode cX4_takes 64 = .ok (.iconst 0, 1) := eX4_takes_49.2.2.2.2.2.2.2.1
theorem eX4_takes_65 : decode cX4_takes 65 = .ok (.ireturn, 1) ∧ decode cX4_takes 66 = .ok (.iinc 4 1, 3) ∧ decode cX4_takes 69 = .ok (.goto (-48), 3) ∧ decode cX4_takes 72 = .ok (.aload_n 0, 1) ∧ decode cX4_takes 73 = .ok (.getfield 12, 3) ∧ decode cX4_takes 76 = .ok (.iconst 1, 1) ∧ decode cX4_takes 77 = .ok (.putfield 55, 3) ∧ decode cX4_takes 80 = .ok (.aload_n 0, 1) ∧ True := dkl_ok (c := cX4_takes) [(.ireturn, 1), (.iinc 4 1, 3), (.goto (-48), 3), (.aload_n 0, 1), (.getfield 12, 3), (.iconst 1, 1), (.putfield 55, 3), (.aload_n 0, 1)] 65 (by decide +kernel)
theorem dX4_takes_65 : decode cX4_takes 65 = .ok (.ireturn, 1) := eX4_takes_65.1
theorem dX4_takes_66 : decode cX4_takes 66 = .ok (.iinc 4 1, 3) := eX4_takes_65.2.1
theorem dX4_takes_69 : decode cX4_takes 69 = .ok (.goto (-48), 3) := eX4_takes_65.2.2.1
theorem dX4_takes_72 : decode cX4_takes 72 = .ok (.aload_n 0, 1) := eX4_takes_65.2.2.2.1
theorem dX4_takes_73 : decode cX4_takes 73 = .ok (.getfield 12, 3) := eX4_takes_65.2.2.2.2.1
theorem dX4_takes_76 : decode cX4_takes 76 = .ok (.iconst 1, 1) := eX4_takes_65.2.2.2.2.2.1
theorem dX4_takes_77 : decode cX4_takes 77 = .ok (.putfield 55, 3) := eX4_takes_65.2.2.2.2.2.2.1
theorem dX4_takes_80 : decode cX4_takes 80 = .ok (.aload_n 0, 1) := eX4_takes_65.2.2.2.2.2.2.2.1
theorem eX4_takes_81 : decode cX4_takes 81 = .ok (.getfield 27, 3) ∧ decode cX4_takes 84 = .ok (.ifCond .eq 11, 3) ∧ decode cX4_takes 87 = .ok (.aload_n 0, 1) ∧ decode cX4_takes 88 = .ok (.iconst 2, 1) ∧ decode cX4_takes 89 = .ok (.invokevirtual 59, 3) ∧ decode cX4_takes 92 = .ok (.ifCond .eq 7, 3) ∧ decode cX4_takes 95 = .ok (.iconst 1, 1) ∧ decode cX4_takes 96 = .ok (.goto 4, 3) ∧ True := dkl_ok (c := cX4_takes) [(.getfield 27, 3), (.ifCond .eq 11, 3), (.aload_n 0, 1), (.iconst 2, 1), (.invokevirtual 59, 3), (.ifCond .eq 7, 3), (.iconst 1, 1), (.goto 4, 3)] 81 (by decide +kernel)
theorem dX4_takes_81 : decode cX4_takes 81 = .ok (.getfield 27, 3) := eX4_takes_81.1
theorem dX4_takes_84 : decode cX4_takes 84 = .ok (.ifCond .eq 11, 3) := eX4_takes_81.2.1
theorem dX4_takes_87 : decode cX4_takes 87 = .ok (.aload_n 0, 1) := eX4_takes_81.2.2.1
theorem dX4_takes_88 : decode cX4_takes 88 = .ok (.iconst 2, 1) := eX4_takes_81.2.2.2.1
theorem dX4_takes_89 : decode cX4_takes 89 = .ok (.invokevirtual 59, 3) := eX4_takes_81.2.2.2.2.1
theorem dX4_takes_92 : decode cX4_takes 92 = .ok (.ifCond .eq 7, 3) := eX4_takes_81.2.2.2.2.2.1
theorem dX4_takes_95 : decode cX4_takes 95 = .ok (.iconst 1, 1) := eX4_takes_81.2.2.2.2.2.2.1
theorem dX4_takes_96 : decode cX4_takes 96 = .ok (.goto 4, 3) := eX4_takes_81.2.2.2.2.2.2.2.1
theorem eX4_takes_99 : decode cX4_takes 99 = .ok (.iconst 0, 1) ∧ decode cX4_takes 100 = .ok (.ireturn, 1) ∧ True := dkl_ok (c := cX4_takes) [(.iconst 0, 1), (.ireturn, 1)] 99 (by decide +kernel)
theorem dX4_takes_99 : decode cX4_takes 99 = .ok (.iconst 0, 1) := eX4_takes_99.1
theorem dX4_takes_100 : decode cX4_takes 100 = .ok (.ireturn, 1) := eX4_takes_99.2.1
theorem eX4_readEnd_0 : decode cX4_readEnd 0 = .ok (.aload_n 0, 1) ∧ decode cX4_readEnd 1 = .ok (.getfield 27, 3) ∧ decode cX4_readEnd 4 = .ok (.ifCond .ne 9, 3) ∧ decode cX4_readEnd 7 = .ok (.aload_n 0, 1) ∧ decode cX4_readEnd 8 = .ok (.iconst 2, 1) ∧ decode cX4_readEnd 9 = .ok (.invokevirtual 59, 3) ∧ decode cX4_readEnd 12 = .ok (.ireturn, 1) ∧ decode cX4_readEnd 13 = .ok (.aload_n 0, 1) ∧ True := dkl_ok (c := cX4_readEnd) [(.aload_n 0, 1), (.getfield 27, 3), (.ifCond .ne 9, 3), (.aload_n 0, 1), (.iconst 2, 1), (.invokevirtual 59, 3), (.ireturn, 1), (.aload_n 0, 1)] 0 (by decide +kernel)
theorem dX4_readEnd_0 : decode cX4_readEnd 0 = .ok (.aload_n 0, 1) := eX4_readEnd_0.1
theorem dX4_readEnd_1 : decode cX4_readEnd 1 = .ok (.getfield 27, 3) := eX4_readEnd_0.2.1
theorem dX4_readEnd_4 : decode cX4_readEnd 4 = .ok (.ifCond .ne 9, 3) := eX4_readEnd_0.2.2.1
theorem dX4_readEnd_7 : decode cX4_readEnd 7 = .ok (.aload_n 0, 1) := eX4_readEnd_0.2.2.2.1
theorem dX4_readEnd_8 : decode cX4_readEnd 8 = .ok (.iconst 2, 1) := eX4_readEnd_0.2.2.2.2.1
theorem dX4_readEnd_9 : decode cX4_readEnd 9 = .ok (.invokevirtual 59, 3) := eX4_readEnd_0.2.2.2.2.2.1
theorem dX4_readEnd_12 : decode cX4_readEnd 12 = .ok (.ireturn, 1) := eX4_readEnd_0.2.2.2.2.2.2.1
theorem dX4_readEnd_13 : decode cX4_readEnd 13 = .ok (.aload_n 0, 1) := eX4_readEnd_0.2.2.2.2.2.2.2.1
theorem eX4_readEnd_14 : decode cX4_readEnd 14 = .ok (.dup, 1) ∧ decode cX4_readEnd 15 = .ok (.getfield 27, 3) ∧ decode cX4_readEnd 18 = .ok (.iconst 1, 1) ∧ decode cX4_readEnd 19 = .ok (.isub, 1) ∧ decode cX4_readEnd 20 = .ok (.putfield 27, 3) ∧ decode cX4_readEnd 23 = .ok (.aload_n 0, 1) ∧ decode cX4_readEnd 24 = .ok (.getfield 23, 3) ∧ decode cX4_readEnd 27 = .ok (.aload_n 0, 1) ∧ True := dkl_ok (c := cX4_readEnd) [(.dup, 1), (.getfield 27, 3), (.iconst 1, 1), (.isub, 1), (.putfield 27, 3), (.aload_n 0, 1), (.getfield 23, 3), (.aload_n 0, 1)] 14 (by decide +kernel)
theorem dX4_readEnd_14 : decode cX4_readEnd 14 = .ok (.dup, 1) := eX4_readEnd_14.1
theorem dX4_readEnd_15 : decode cX4_readEnd 15 = .ok (.getfield 27, 3) := eX4_readEnd_14.2.1
theorem dX4_readEnd_18 : decode cX4_readEnd 18 = .ok (.iconst 1, 1) := eX4_readEnd_14.2.2.1
theorem dX4_readEnd_19 : decode cX4_readEnd 19 = .ok (.isub, 1) := eX4_readEnd_14.2.2.2.1
theorem dX4_readEnd_20 : decode cX4_readEnd 20 = .ok (.putfield 27, 3) := eX4_readEnd_14.2.2.2.2.1
theorem dX4_readEnd_23 : decode cX4_readEnd 23 = .ok (.aload_n 0, 1) := eX4_readEnd_14.2.2.2.2.2.1
theorem dX4_readEnd_24 : decode cX4_readEnd 24 = .ok (.getfield 23, 3) := eX4_readEnd_14.2.2.2.2.2.2.1
theorem dX4_readEnd_27 : decode cX4_readEnd 27 = .ok (.aload_n 0, 1) := eX4_readEnd_14.2.2.2.2.2.2.2.1
theorem eX4_readEnd_28 : decode cX4_readEnd 28 = .ok (.getfield 27, 3) ∧ decode cX4_readEnd 31 = .ok (.invokevirtual 63, 3) ∧ decode cX4_readEnd 34 = .ok (.istore_n 1, 1) ∧ decode cX4_readEnd 35 = .ok (.aload_n 0, 1) ∧ decode cX4_readEnd 36 = .ok (.getfield 12, 3) ∧ decode cX4_readEnd 39 = .ok (.bipush 9, 2) ∧ decode cX4_readEnd 41 = .ok (.invokevirtual 67, 3) ∧ decode cX4_readEnd 44 = .ok (.istore_n 2, 1) ∧ True := dkl_ok (c := cX4_readEnd) [(.getfield 27, 3), (.invokevirtual 63, 3), (.istore_n 1, 1), (.aload_n 0, 1), (.getfield 12, 3), (.bipush 9, 2), (.invokevirtual 67, 3), (.istore_n 2, 1)] 28 (by decide +kernel)
theorem dX4_readEnd_28 : decode cX4_readEnd 28 = .ok (.getfield 27, 3) := eX4_readEnd_28.1
theorem dX4_readEnd_31 : decode cX4_readEnd 31 = .ok (.invokevirtual 63, 3) := eX4_readEnd_28.2.1
theorem dX4_readEnd_34 : decode cX4_readEnd 34 = .ok (.istore_n 1, 1) := eX4_readEnd_28.2.2.1
theorem dX4_readEnd_35 : decode cX4_readEnd 35 = .ok (.aload_n 0, 1) := eX4_readEnd_28.2.2.2.1
theorem dX4_readEnd_36 : decode cX4_readEnd 36 = .ok (.getfield 12, 3) := eX4_readEnd_28.2.2.2.2.1
theorem dX4_readEnd_39 : decode cX4_readEnd 39 = .ok (.bipush 9, 2) := eX4_readEnd_28.2.2.2.2.2.1
theorem dX4_readEnd_41 : decode cX4_readEnd 41 = .ok (.invokevirtual 67, 3) := eX4_readEnd_28.2.2.2.2.2.2.1
theorem dX4_readEnd_44 : decode cX4_readEnd 44 = .ok (.istore_n 2, 1) := eX4_readEnd_28.2.2.2.2.2.2.2.1
theorem eX4_readEnd_45 : decode cX4_readEnd 45 = .ok (.aload_n 0, 1) ∧ decode cX4_readEnd 46 = .ok (.getfield 12, 3) ∧ decode cX4_readEnd 49 = .ok (.getfield 70, 3) ∧ decode cX4_readEnd 52 = .ok (.iload_n 2, 1) ∧ decode cX4_readEnd 53 = .ok (.iload_n 1, 1) ∧ decode cX4_readEnd 54 = .ok (.invokevirtual 73, 3) ∧ decode cX4_readEnd 57 = .ok (.aload_n 0, 1) ∧ decode cX4_readEnd 58 = .ok (.getfield 12, 3) ∧ True := dkl_ok (c := cX4_readEnd) [(.aload_n 0, 1), (.getfield 12, 3), (.getfield 70, 3), (.iload_n 2, 1), (.iload_n 1, 1), (.invokevirtual 73, 3), (.aload_n 0, 1), (.getfield 12, 3)] 45 (by decide +kernel)
theorem dX4_readEnd_45 : decode cX4_readEnd 45 = .ok (.aload_n 0, 1) := eX4_readEnd_45.1
theorem dX4_readEnd_46 : decode cX4_readEnd 46 = .ok (.getfield 12, 3) := eX4_readEnd_45.2.1
theorem dX4_readEnd_49 : decode cX4_readEnd 49 = .ok (.getfield 70, 3) := eX4_readEnd_45.2.2.1
theorem dX4_readEnd_52 : decode cX4_readEnd 52 = .ok (.iload_n 2, 1) := eX4_readEnd_45.2.2.2.1
theorem dX4_readEnd_53 : decode cX4_readEnd 53 = .ok (.iload_n 1, 1) := eX4_readEnd_45.2.2.2.2.1
theorem dX4_readEnd_54 : decode cX4_readEnd 54 = .ok (.invokevirtual 73, 3) := eX4_readEnd_45.2.2.2.2.2.1
theorem dX4_readEnd_57 : decode cX4_readEnd 57 = .ok (.aload_n 0, 1) := eX4_readEnd_45.2.2.2.2.2.2.1
theorem dX4_readEnd_58 : decode cX4_readEnd 58 = .ok (.getfield 12, 3) := eX4_readEnd_45.2.2.2.2.2.2.2.1
theorem eX4_readEnd_61 : decode cX4_readEnd 61 = .ok (.getfield 70, 3) ∧ decode cX4_readEnd 64 = .ok (.iload_n 1, 1) ∧ decode cX4_readEnd 65 = .ok (.iload_n 2, 1) ∧ decode cX4_readEnd 66 = .ok (.invokevirtual 73, 3) ∧ decode cX4_readEnd 69 = .ok (.aload_n 0, 1) ∧ decode cX4_readEnd 70 = .ok (.invokevirtual 77, 3) ∧ decode cX4_readEnd 73 = .ok (.aload_n 0, 1) ∧ decode cX4_readEnd 74 = .ok (.invokevirtual 80, 3) ∧ True := dkl_ok (c := cX4_readEnd) [(.getfield 70, 3), (.iload_n 1, 1), (.iload_n 2, 1), (.invokevirtual 73, 3), (.aload_n 0, 1), (.invokevirtual 77, 3), (.aload_n 0, 1), (.invokevirtual 80, 3)] 61 (by decide +kernel)
theorem dX4_readEnd_61 : decode cX4_readEnd 61 = .ok (.getfield 70, 3) := eX4_readEnd_61.1
theorem dX4_readEnd_64 : decode cX4_readEnd 64 = .ok (.iload_n 1, 1) := eX4_readEnd_61.2.1
theorem dX4_readEnd_65 : decode cX4_readEnd 65 = .ok (.iload_n 2, 1) := eX4_readEnd_61.2.2.1
theorem dX4_readEnd_66 : decode cX4_readEnd 66 = .ok (.invokevirtual 73, 3) := eX4_readEnd_61.2.2.2.1
theorem dX4_readEnd_69 : decode cX4_readEnd 69 = .ok (.aload_n 0, 1) := eX4_readEnd_61.2.2.2.2.1
theorem dX4_readEnd_70 : decode cX4_readEnd 70 = .ok (.invokevirtual 77, 3) := eX4_readEnd_61.2.2.2.2.2.1
theorem dX4_readEnd_73 : decode cX4_readEnd 73 = .ok (.aload_n 0, 1) := eX4_readEnd_61.2.2.2.2.2.2.1
theorem dX4_readEnd_74 : decode cX4_readEnd 74 = .ok (.invokevirtual 80, 3) := eX4_readEnd_61.2.2.2.2.2.2.2.1
theorem eX4_readEnd_77 : decode cX4_readEnd 77 = .ok (.ireturn, 1) ∧ True := dkl_ok (c := cX4_readEnd) [(.ireturn, 1)] 77 (by decide +kernel)
theorem dX4_readEnd_77 : decode cX4_readEnd 77 = .ok (.ireturn, 1) := eX4_readEnd_77.1
theorem eX4_readStep_0 : decode cX4_readStep 0 = .ok (.aload_n 0, 1) ∧ decode cX4_readStep 1 = .ok (.invokevirtual 83, 3) ∧ decode cX4_readStep 4 = .ok (.istore_n 2, 1) ∧ decode cX4_readStep 5 = .ok (.iload_n 2, 1) ∧ decode cX4_readStep 6 = .ok (.iconst (-1), 1) ∧ decode cX4_readStep 7 = .ok (.if_icmp .ne 9, 3) ∧ decode cX4_readStep 10 = .ok (.aload_n 0, 1) ∧ decode cX4_readStep 11 = .ok (.iconst 2, 1) ∧ True := dkl_ok (c := cX4_readStep) [(.aload_n 0, 1), (.invokevirtual 83, 3), (.istore_n 2, 1), (.iload_n 2, 1), (.iconst (-1), 1), (.if_icmp .ne 9, 3), (.aload_n 0, 1), (.iconst 2, 1)] 0 (by decide +kernel)
theorem dX4_readStep_0 : decode cX4_readStep 0 = .ok (.aload_n 0, 1) := eX4_readStep_0.1
theorem dX4_readStep_1 : decode cX4_readStep 1 = .ok (.invokevirtual 83, 3) := eX4_readStep_0.2.1
theorem dX4_readStep_4 : decode cX4_readStep 4 = .ok (.istore_n 2, 1) := eX4_readStep_0.2.2.1
theorem dX4_readStep_5 : decode cX4_readStep 5 = .ok (.iload_n 2, 1) := eX4_readStep_0.2.2.2.1
theorem dX4_readStep_6 : decode cX4_readStep 6 = .ok (.iconst (-1), 1) := eX4_readStep_0.2.2.2.2.1
theorem dX4_readStep_7 : decode cX4_readStep 7 = .ok (.if_icmp .ne 9, 3) := eX4_readStep_0.2.2.2.2.2.1
theorem dX4_readStep_10 : decode cX4_readStep 10 = .ok (.aload_n 0, 1) := eX4_readStep_0.2.2.2.2.2.2.1
theorem dX4_readStep_11 : decode cX4_readStep 11 = .ok (.iconst 2, 1) := eX4_readStep_0.2.2.2.2.2.2.2.1
theorem eX4_readStep_12 : decode cX4_readStep 12 = .ok (.invokevirtual 59, 3) ∧ decode cX4_readStep 15 = .ok (.ireturn, 1) ∧ decode cX4_readStep 16 = .ok (.aload_n 0, 1) ∧ decode cX4_readStep 17 = .ok (.getfield 12, 3) ∧ decode cX4_readStep 20 = .ok (.getfield 87, 3) ∧ decode cX4_readStep 23 = .ok (.bipush 30, 2) ∧ decode cX4_readStep 25 = .ok (.if_icmp .lt 10, 3) ∧ decode cX4_readStep 28 = .ok (.aload_n 0, 1) ∧ True := dkl_ok (c := cX4_readStep) [(.invokevirtual 59, 3), (.ireturn, 1), (.aload_n 0, 1), (.getfield 12, 3), (.getfield 87, 3), (.bipush 30, 2), (.if_icmp .lt 10, 3), (.aload_n 0, 1)] 12 (by decide +kernel)
theorem dX4_readStep_12 : decode cX4_readStep 12 = .ok (.invokevirtual 59, 3) := eX4_readStep_12.1
theorem dX4_readStep_15 : decode cX4_readStep 15 = .ok (.ireturn, 1) := eX4_readStep_12.2.1
theorem dX4_readStep_16 : decode cX4_readStep 16 = .ok (.aload_n 0, 1) := eX4_readStep_12.2.2.1
theorem dX4_readStep_17 : decode cX4_readStep 17 = .ok (.getfield 12, 3) := eX4_readStep_12.2.2.2.1
theorem dX4_readStep_20 : decode cX4_readStep 20 = .ok (.getfield 87, 3) := eX4_readStep_12.2.2.2.2.1
theorem dX4_readStep_23 : decode cX4_readStep 23 = .ok (.bipush 30, 2) := eX4_readStep_12.2.2.2.2.2.1
theorem dX4_readStep_25 : decode cX4_readStep 25 = .ok (.if_icmp .lt 10, 3) := eX4_readStep_12.2.2.2.2.2.2.1
theorem dX4_readStep_28 : decode cX4_readStep 28 = .ok (.aload_n 0, 1) := eX4_readStep_12.2.2.2.2.2.2.2.1
theorem eX4_readStep_29 : decode cX4_readStep 29 = .ok (.bipush 6, 2) ∧ decode cX4_readStep 31 = .ok (.invokevirtual 59, 3) ∧ decode cX4_readStep 34 = .ok (.ireturn, 1) ∧ decode cX4_readStep 35 = .ok (.iload_n 2, 1) ∧ decode cX4_readStep 36 = .ok (.iconst 4, 1) ∧ decode cX4_readStep 37 = .ok (.if_icmp .eq 10, 3) ∧ decode cX4_readStep 40 = .ok (.iload_n 2, 1) ∧ decode cX4_readStep 41 = .ok (.invokestatic 90, 3) ∧ True := dkl_ok (c := cX4_readStep) [(.bipush 6, 2), (.invokevirtual 59, 3), (.ireturn, 1), (.iload_n 2, 1), (.iconst 4, 1), (.if_icmp .eq 10, 3), (.iload_n 2, 1), (.invokestatic 90, 3)] 29 (by decide +kernel)
theorem dX4_readStep_29 : decode cX4_readStep 29 = .ok (.bipush 6, 2) := eX4_readStep_29.1
theorem dX4_readStep_31 : decode cX4_readStep 31 = .ok (.invokevirtual 59, 3) := eX4_readStep_29.2.1
theorem dX4_readStep_34 : decode cX4_readStep 34 = .ok (.ireturn, 1) := eX4_readStep_29.2.2.1
theorem dX4_readStep_35 : decode cX4_readStep 35 = .ok (.iload_n 2, 1) := eX4_readStep_29.2.2.2.1
theorem dX4_readStep_36 : decode cX4_readStep 36 = .ok (.iconst 4, 1) := eX4_readStep_29.2.2.2.2.1
theorem dX4_readStep_37 : decode cX4_readStep 37 = .ok (.if_icmp .eq 10, 3) := eX4_readStep_29.2.2.2.2.2.1
theorem dX4_readStep_40 : decode cX4_readStep 40 = .ok (.iload_n 2, 1) := eX4_readStep_29.2.2.2.2.2.2.1
theorem dX4_readStep_41 : decode cX4_readStep 41 = .ok (.invokestatic 90, 3) := eX4_readStep_29.2.2.2.2.2.2.2.1
theorem eX4_readStep_44 : decode cX4_readStep 44 = .ok (.ifCond .eq 7, 3) ∧ decode cX4_readStep 47 = .ok (.iconst 1, 1) ∧ decode cX4_readStep 48 = .ok (.goto 4, 3) ∧ decode cX4_readStep 51 = .ok (.iconst 0, 1) ∧ decode cX4_readStep 52 = .ok (.istore_n 3, 1) ∧ decode cX4_readStep 53 = .ok (.iload_n 3, 1) ∧ decode cX4_readStep 54 = .ok (.ifCond .eq 18, 3) ∧ decode cX4_readStep 57 = .ok (.aload_n 0, 1) ∧ True := dkl_ok (c := cX4_readStep) [(.ifCond .eq 7, 3), (.iconst 1, 1), (.goto 4, 3), (.iconst 0, 1), (.istore_n 3, 1), (.iload_n 3, 1), (.ifCond .eq 18, 3), (.aload_n 0, 1)] 44 (by decide +kernel)
theorem dX4_readStep_44 : decode cX4_readStep 44 = .ok (.ifCond .eq 7, 3) := eX4_readStep_44.1
theorem dX4_readStep_47 : decode cX4_readStep 47 = .ok (.iconst 1, 1) := eX4_readStep_44.2.1
theorem dX4_readStep_48 : decode cX4_readStep 48 = .ok (.goto 4, 3) := eX4_readStep_44.2.2.1
theorem dX4_readStep_51 : decode cX4_readStep 51 = .ok (.iconst 0, 1) := eX4_readStep_44.2.2.2.1
theorem dX4_readStep_52 : decode cX4_readStep 52 = .ok (.istore_n 3, 1) := eX4_readStep_44.2.2.2.2.1
theorem dX4_readStep_53 : decode cX4_readStep 53 = .ok (.iload_n 3, 1) := eX4_readStep_44.2.2.2.2.2.1
theorem dX4_readStep_54 : decode cX4_readStep 54 = .ok (.ifCond .eq 18, 3) := eX4_readStep_44.2.2.2.2.2.2.1
theorem dX4_readStep_57 : decode cX4_readStep 57 = .ok (.aload_n 0, 1) := eX4_readStep_44.2.2.2.2.2.2.2.1
theorem eX4_readStep_58 : decode cX4_readStep 58 = .ok (.getfield 27, 3) ∧ decode cX4_readStep 61 = .ok (.iconst 3, 1) ∧ decode cX4_readStep 62 = .ok (.if_icmp .lt 10, 3) ∧ decode cX4_readStep 65 = .ok (.aload_n 0, 1) ∧ decode cX4_readStep 66 = .ok (.bipush 7, 2) ∧ decode cX4_readStep 68 = .ok (.invokevirtual 59, 3) ∧ decode cX4_readStep 71 = .ok (.ireturn, 1) ∧ decode cX4_readStep 72 = .ok (.aload_n 0, 1) ∧ True := dkl_ok (c := cX4_readStep) [(.getfield 27, 3), (.iconst 3, 1), (.if_icmp .lt 10, 3), (.aload_n 0, 1), (.bipush 7, 2), (.invokevirtual 59, 3), (.ireturn, 1), (.aload_n 0, 1)] 58 (by decide +kernel)
theorem dX4_readStep_58 : decode cX4_readStep 58 = .ok (.getfield 27, 3) := eX4_readStep_58.1
theorem dX4_readStep_61 : decode cX4_readStep 61 = .ok (.iconst 3, 1) := eX4_readStep_58.2.1
theorem dX4_readStep_62 : decode cX4_readStep 62 = .ok (.if_icmp .lt 10, 3) := eX4_readStep_58.2.2.1
theorem dX4_readStep_65 : decode cX4_readStep 65 = .ok (.aload_n 0, 1) := eX4_readStep_58.2.2.2.1
theorem dX4_readStep_66 : decode cX4_readStep 66 = .ok (.bipush 7, 2) := eX4_readStep_58.2.2.2.2.1
theorem dX4_readStep_68 : decode cX4_readStep 68 = .ok (.invokevirtual 59, 3) := eX4_readStep_58.2.2.2.2.2.1
theorem dX4_readStep_71 : decode cX4_readStep 71 = .ok (.ireturn, 1) := eX4_readStep_58.2.2.2.2.2.2.1
theorem dX4_readStep_72 : decode cX4_readStep 72 = .ok (.aload_n 0, 1) := eX4_readStep_58.2.2.2.2.2.2.2.1
theorem eX4_readStep_73 : decode cX4_readStep 73 = .ok (.getfield 12, 3) ∧ decode cX4_readStep 76 = .ok (.iload_n 2, 1) ∧ decode cX4_readStep 77 = .ok (.invokevirtual 67, 3) ∧ decode cX4_readStep 80 = .ok (.istore 4, 2) ∧ decode cX4_readStep 82 = .ok (.aload_n 0, 1) ∧ decode cX4_readStep 83 = .ok (.getfield 12, 3) ∧ decode cX4_readStep 86 = .ok (.dup, 1) ∧ decode cX4_readStep 87 = .ok (.getfield 87, 3) ∧ True := dkl_ok (c := cX4_readStep) [(.getfield 12, 3), (.iload_n 2, 1), (.invokevirtual 67, 3), (.istore 4, 2), (.aload_n 0, 1), (.getfield 12, 3), (.dup, 1), (.getfield 87, 3)] 73 (by decide +kernel)
theorem dX4_readStep_73 : decode cX4_readStep 73 = .ok (.getfield 12, 3) := eX4_readStep_73.1
theorem dX4_readStep_76 : decode cX4_readStep 76 = .ok (.iload_n 2, 1) := eX4_readStep_73.2.1
theorem dX4_readStep_77 : decode cX4_readStep 77 = .ok (.invokevirtual 67, 3) := eX4_readStep_73.2.2.1
theorem dX4_readStep_80 : decode cX4_readStep 80 = .ok (.istore 4, 2) := eX4_readStep_73.2.2.2.1
theorem dX4_readStep_82 : decode cX4_readStep 82 = .ok (.aload_n 0, 1) := eX4_readStep_73.2.2.2.2.1
theorem dX4_readStep_83 : decode cX4_readStep 83 = .ok (.getfield 12, 3) := eX4_readStep_73.2.2.2.2.2.1
theorem dX4_readStep_86 : decode cX4_readStep 86 = .ok (.dup, 1) := eX4_readStep_73.2.2.2.2.2.2.1
theorem dX4_readStep_87 : decode cX4_readStep 87 = .ok (.getfield 87, 3) := eX4_readStep_73.2.2.2.2.2.2.2.1
theorem eX4_readStep_90 : decode cX4_readStep 90 = .ok (.iconst 1, 1) ∧ decode cX4_readStep 91 = .ok (.iadd, 1) ∧ decode cX4_readStep 92 = .ok (.putfield 87, 3) ∧ decode cX4_readStep 95 = .ok (.iload_n 3, 1) ∧ decode cX4_readStep 96 = .ok (.ifCond .eq 26, 3) ∧ decode cX4_readStep 99 = .ok (.aload_n 0, 1) ∧ decode cX4_readStep 100 = .ok (.getfield 23, 3) ∧ decode cX4_readStep 103 = .ok (.aload_n 0, 1) ∧ True := dkl_ok (c := cX4_readStep) [(.iconst 1, 1), (.iadd, 1), (.putfield 87, 3), (.iload_n 3, 1), (.ifCond .eq 26, 3), (.aload_n 0, 1), (.getfield 23, 3), (.aload_n 0, 1)] 90 (by decide +kernel)
theorem dX4_readStep_90 : decode cX4_readStep 90 = .ok (.iconst 1, 1) := eX4_readStep_90.1
theorem dX4_readStep_91 : decode cX4_readStep 91 = .ok (.iadd, 1) := eX4_readStep_90.2.1
theorem dX4_readStep_92 : decode cX4_readStep 92 = .ok (.putfield 87, 3) := eX4_readStep_90.2.2.1
theorem dX4_readStep_95 : decode cX4_readStep 95 = .ok (.iload_n 3, 1) := eX4_readStep_90.2.2.2.1
theorem dX4_readStep_96 : decode cX4_readStep 96 = .ok (.ifCond .eq 26, 3) := eX4_readStep_90.2.2.2.2.1
theorem dX4_readStep_99 : decode cX4_readStep 99 = .ok (.aload_n 0, 1) := eX4_readStep_90.2.2.2.2.2.1
theorem dX4_readStep_100 : decode cX4_readStep 100 = .ok (.getfield 23, 3) := eX4_readStep_90.2.2.2.2.2.2.1
theorem dX4_readStep_103 : decode cX4_readStep 103 = .ok (.aload_n 0, 1) := eX4_readStep_90.2.2.2.2.2.2.2.1
theorem eX4_readStep_104 : decode cX4_readStep 104 = .ok (.getfield 27, 3) ∧ decode cX4_readStep 107 = .ok (.iload 4, 2) ∧ decode cX4_readStep 109 = .ok (.invokevirtual 73, 3) ∧ decode cX4_readStep 112 = .ok (.aload_n 0, 1) ∧ decode cX4_readStep 113 = .ok (.dup, 1) ∧ decode cX4_readStep 114 = .ok (.getfield 27, 3) ∧ decode cX4_readStep 117 = .ok (.iconst 1, 1) ∧ decode cX4_readStep 118 = .ok (.iadd, 1) ∧ True := dkl_ok (c := cX4_readStep) [(.getfield 27, 3), (.iload 4, 2), (.invokevirtual 73, 3), (.aload_n 0, 1), (.dup, 1), (.getfield 27, 3), (.iconst 1, 1), (.iadd, 1)] 104 (by decide +kernel)
theorem dX4_readStep_104 : decode cX4_readStep 104 = .ok (.getfield 27, 3) := eX4_readStep_104.1
theorem dX4_readStep_107 : decode cX4_readStep 107 = .ok (.iload 4, 2) := eX4_readStep_104.2.1
theorem dX4_readStep_109 : decode cX4_readStep 109 = .ok (.invokevirtual 73, 3) := eX4_readStep_104.2.2.1
theorem dX4_readStep_112 : decode cX4_readStep 112 = .ok (.aload_n 0, 1) := eX4_readStep_104.2.2.2.1
theorem dX4_readStep_113 : decode cX4_readStep 113 = .ok (.dup, 1) := eX4_readStep_104.2.2.2.2.1
theorem dX4_readStep_114 : decode cX4_readStep 114 = .ok (.getfield 27, 3) := eX4_readStep_104.2.2.2.2.2.1
theorem dX4_readStep_117 : decode cX4_readStep 117 = .ok (.iconst 1, 1) := eX4_readStep_104.2.2.2.2.2.2.1
theorem dX4_readStep_118 : decode cX4_readStep 118 = .ok (.iadd, 1) := eX4_readStep_104.2.2.2.2.2.2.2.1
theorem eX4_readStep_119 : decode cX4_readStep 119 = .ok (.putfield 27, 3) ∧ decode cX4_readStep 122 = .ok (.aload_n 0, 1) ∧ decode cX4_readStep 123 = .ok (.invokevirtual 77, 3) ∧ decode cX4_readStep 126 = .ok (.iload_n 2, 1) ∧ decode cX4_readStep 127 = .ok (.invokestatic 90, 3) ∧ decode cX4_readStep 130 = .ok (.ifCond .eq 14, 3) ∧ decode cX4_readStep 133 = .ok (.aload_n 0, 1) ∧ decode cX4_readStep 134 = .ok (.iload 4, 2) ∧ True := dkl_ok (c := cX4_readStep) [(.putfield 27, 3), (.aload_n 0, 1), (.invokevirtual 77, 3), (.iload_n 2, 1), (.invokestatic 90, 3), (.ifCond .eq 14, 3), (.aload_n 0, 1), (.iload 4, 2)] 119 (by decide +kernel)
theorem dX4_readStep_119 : decode cX4_readStep 119 = .ok (.putfield 27, 3) := eX4_readStep_119.1
theorem dX4_readStep_122 : decode cX4_readStep 122 = .ok (.aload_n 0, 1) := eX4_readStep_119.2.1
theorem dX4_readStep_123 : decode cX4_readStep 123 = .ok (.invokevirtual 77, 3) := eX4_readStep_119.2.2.1
theorem dX4_readStep_126 : decode cX4_readStep 126 = .ok (.iload_n 2, 1) := eX4_readStep_119.2.2.2.1
theorem dX4_readStep_127 : decode cX4_readStep 127 = .ok (.invokestatic 90, 3) := eX4_readStep_119.2.2.2.2.1
theorem dX4_readStep_130 : decode cX4_readStep 130 = .ok (.ifCond .eq 14, 3) := eX4_readStep_119.2.2.2.2.2.1
theorem dX4_readStep_133 : decode cX4_readStep 133 = .ok (.aload_n 0, 1) := eX4_readStep_119.2.2.2.2.2.2.1
theorem dX4_readStep_134 : decode cX4_readStep 134 = .ok (.iload 4, 2) := eX4_readStep_119.2.2.2.2.2.2.2.1
theorem eX4_readStep_136 : decode cX4_readStep 136 = .ok (.invokevirtual 93, 3) ∧ decode cX4_readStep 139 = .ok (.ifCond .ne 5, 3) ∧ decode cX4_readStep 142 = .ok (.iconst 0, 1) ∧ decode cX4_readStep 143 = .ok (.ireturn, 1) ∧ decode cX4_readStep 144 = .ok (.aload_n 0, 1) ∧ decode cX4_readStep 145 = .ok (.iload 4, 2) ∧ decode cX4_readStep 147 = .ok (.aload_n 1, 1) ∧ decode cX4_readStep 148 = .ok (.invokevirtual 96, 3) ∧ True := dkl_ok (c := cX4_readStep) [(.invokevirtual 93, 3), (.ifCond .ne 5, 3), (.iconst 0, 1), (.ireturn, 1), (.aload_n 0, 1), (.iload 4, 2), (.aload_n 1, 1), (.invokevirtual 96, 3)] 136 (by decide +kernel)
theorem dX4_readStep_136 : decode cX4_readStep 136 = .ok (.invokevirtual 93, 3) := eX4_readStep_136.1
theorem dX4_readStep_139 : decode cX4_readStep 139 = .ok (.ifCond .ne 5, 3) := eX4_readStep_136.2.1
theorem dX4_readStep_142 : decode cX4_readStep 142 = .ok (.iconst 0, 1) := eX4_readStep_136.2.2.1
theorem dX4_readStep_143 : decode cX4_readStep 143 = .ok (.ireturn, 1) := eX4_readStep_136.2.2.2.1
theorem dX4_readStep_144 : decode cX4_readStep 144 = .ok (.aload_n 0, 1) := eX4_readStep_136.2.2.2.2.1
theorem dX4_readStep_145 : decode cX4_readStep 145 = .ok (.iload 4, 2) := eX4_readStep_136.2.2.2.2.2.1
theorem dX4_readStep_147 : decode cX4_readStep 147 = .ok (.aload_n 1, 1) := eX4_readStep_136.2.2.2.2.2.2.1
theorem dX4_readStep_148 : decode cX4_readStep 148 = .ok (.invokevirtual 96, 3) := eX4_readStep_136.2.2.2.2.2.2.2.1
theorem eX4_readStep_151 : decode cX4_readStep 151 = .ok (.ifCond .eq 14, 3) ∧ decode cX4_readStep 154 = .ok (.aload_n 0, 1) ∧ decode cX4_readStep 155 = .ok (.invokevirtual 80, 3) ∧ decode cX4_readStep 158 = .ok (.ifCond .eq 7, 3) ∧ decode cX4_readStep 161 = .ok (.iconst 1, 1) ∧ decode cX4_readStep 162 = .ok (.goto 4, 3) ∧ decode cX4_readStep 165 = .ok (.iconst 0, 1) ∧ decode cX4_readStep 166 = .ok (.ireturn, 1) ∧ True := dkl_ok (c := cX4_readStep) [(.ifCond .eq 14, 3), (.aload_n 0, 1), (.invokevirtual 80, 3), (.ifCond .eq 7, 3), (.iconst 1, 1), (.goto 4, 3), (.iconst 0, 1), (.ireturn, 1)] 151 (by decide +kernel)
theorem dX4_readStep_151 : decode cX4_readStep 151 = .ok (.ifCond .eq 14, 3) := eX4_readStep_151.1
theorem dX4_readStep_154 : decode cX4_readStep 154 = .ok (.aload_n 0, 1) := eX4_readStep_151.2.1
theorem dX4_readStep_155 : decode cX4_readStep 155 = .ok (.invokevirtual 80, 3) := eX4_readStep_151.2.2.1
theorem dX4_readStep_158 : decode cX4_readStep 158 = .ok (.ifCond .eq 7, 3) := eX4_readStep_151.2.2.2.1
theorem dX4_readStep_161 : decode cX4_readStep 161 = .ok (.iconst 1, 1) := eX4_readStep_151.2.2.2.2.1
theorem dX4_readStep_162 : decode cX4_readStep 162 = .ok (.goto 4, 3) := eX4_readStep_151.2.2.2.2.2.1
theorem dX4_readStep_165 : decode cX4_readStep 165 = .ok (.iconst 0, 1) := eX4_readStep_151.2.2.2.2.2.2.1
theorem dX4_readStep_166 : decode cX4_readStep 166 = .ok (.ireturn, 1) := eX4_readStep_151.2.2.2.2.2.2.2.1
theorem eX4_actionHere_0 : decode cX4_actionHere 0 = .ok (.aload_n 0, 1) ∧ decode cX4_actionHere 1 = .ok (.ldc 100, 2) ∧ decode cX4_actionHere 3 = .ok (.invokevirtual 43, 3) ∧ decode cX4_actionHere 6 = .ok (.ifCond .eq 5, 3) ∧ decode cX4_actionHere 9 = .ok (.iconst 0, 1) ∧ decode cX4_actionHere 10 = .ok (.ireturn, 1) ∧ decode cX4_actionHere 11 = .ok (.aload_n 0, 1) ∧ decode cX4_actionHere 12 = .ok (.ldc 102, 2) ∧ True := dkl_ok (c := cX4_actionHere) [(.aload_n 0, 1), (.ldc 100, 2), (.invokevirtual 43, 3), (.ifCond .eq 5, 3), (.iconst 0, 1), (.ireturn, 1), (.aload_n 0, 1), (.ldc 102, 2)] 0 (by decide +kernel)
theorem dX4_actionHere_0 : decode cX4_actionHere 0 = .ok (.aload_n 0, 1) := eX4_actionHere_0.1
theorem dX4_actionHere_1 : decode cX4_actionHere 1 = .ok (.ldc 100, 2) := eX4_actionHere_0.2.1
theorem dX4_actionHere_3 : decode cX4_actionHere 3 = .ok (.invokevirtual 43, 3) := eX4_actionHere_0.2.2.1
theorem dX4_actionHere_6 : decode cX4_actionHere 6 = .ok (.ifCond .eq 5, 3) := eX4_actionHere_0.2.2.2.1
theorem dX4_actionHere_9 : decode cX4_actionHere 9 = .ok (.iconst 0, 1) := eX4_actionHere_0.2.2.2.2.1
theorem dX4_actionHere_10 : decode cX4_actionHere 10 = .ok (.ireturn, 1) := eX4_actionHere_0.2.2.2.2.2.1
theorem dX4_actionHere_11 : decode cX4_actionHere 11 = .ok (.aload_n 0, 1) := eX4_actionHere_0.2.2.2.2.2.2.1
theorem dX4_actionHere_12 : decode cX4_actionHere 12 = .ok (.ldc 102, 2) := eX4_actionHere_0.2.2.2.2.2.2.2.1
theorem eX4_actionHere_14 : decode cX4_actionHere 14 = .ok (.invokevirtual 43, 3) ∧ decode cX4_actionHere 17 = .ok (.ifCond .eq 5, 3) ∧ decode cX4_actionHere 20 = .ok (.iconst 1, 1) ∧ decode cX4_actionHere 21 = .ok (.ireturn, 1) ∧ decode cX4_actionHere 22 = .ok (.aload_n 0, 1) ∧ decode cX4_actionHere 23 = .ok (.ldc 104, 2) ∧ decode cX4_actionHere 25 = .ok (.invokevirtual 43, 3) ∧ decode cX4_actionHere 28 = .ok (.ifCond .eq 5, 3) ∧ True := dkl_ok (c := cX4_actionHere) [(.invokevirtual 43, 3), (.ifCond .eq 5, 3), (.iconst 1, 1), (.ireturn, 1), (.aload_n 0, 1), (.ldc 104, 2), (.invokevirtual 43, 3), (.ifCond .eq 5, 3)] 14 (by decide +kernel)
theorem dX4_actionHere_14 : decode cX4_actionHere 14 = .ok (.invokevirtual 43, 3) := eX4_actionHere_14.1
theorem dX4_actionHere_17 : decode cX4_actionHere 17 = .ok (.ifCond .eq 5, 3) := eX4_actionHere_14.2.1
theorem dX4_actionHere_20 : decode cX4_actionHere 20 = .ok (.iconst 1, 1) := eX4_actionHere_14.2.2.1
theorem dX4_actionHere_21 : decode cX4_actionHere 21 = .ok (.ireturn, 1) := eX4_actionHere_14.2.2.2.1
theorem dX4_actionHere_22 : decode cX4_actionHere 22 = .ok (.aload_n 0, 1) := eX4_actionHere_14.2.2.2.2.1
theorem dX4_actionHere_23 : decode cX4_actionHere 23 = .ok (.ldc 104, 2) := eX4_actionHere_14.2.2.2.2.2.1
theorem dX4_actionHere_25 : decode cX4_actionHere 25 = .ok (.invokevirtual 43, 3) := eX4_actionHere_14.2.2.2.2.2.2.1
theorem dX4_actionHere_28 : decode cX4_actionHere 28 = .ok (.ifCond .eq 5, 3) := eX4_actionHere_14.2.2.2.2.2.2.2.1
theorem eX4_actionHere_31 : decode cX4_actionHere 31 = .ok (.iconst 2, 1) ∧ decode cX4_actionHere 32 = .ok (.ireturn, 1) ∧ decode cX4_actionHere 33 = .ok (.aload_n 0, 1) ∧ decode cX4_actionHere 34 = .ok (.ldc 106, 2) ∧ decode cX4_actionHere 36 = .ok (.invokevirtual 43, 3) ∧ decode cX4_actionHere 39 = .ok (.ifCond .eq 5, 3) ∧ decode cX4_actionHere 42 = .ok (.iconst 3, 1) ∧ decode cX4_actionHere 43 = .ok (.ireturn, 1) ∧ True := dkl_ok (c := cX4_actionHere) [(.iconst 2, 1), (.ireturn, 1), (.aload_n 0, 1), (.ldc 106, 2), (.invokevirtual 43, 3), (.ifCond .eq 5, 3), (.iconst 3, 1), (.ireturn, 1)] 31 (by decide +kernel)
theorem dX4_actionHere_31 : decode cX4_actionHere 31 = .ok (.iconst 2, 1) := eX4_actionHere_31.1
theorem dX4_actionHere_32 : decode cX4_actionHere 32 = .ok (.ireturn, 1) := eX4_actionHere_31.2.1
theorem dX4_actionHere_33 : decode cX4_actionHere 33 = .ok (.aload_n 0, 1) := eX4_actionHere_31.2.2.1
theorem dX4_actionHere_34 : decode cX4_actionHere 34 = .ok (.ldc 106, 2) := eX4_actionHere_31.2.2.2.1
theorem dX4_actionHere_36 : decode cX4_actionHere 36 = .ok (.invokevirtual 43, 3) := eX4_actionHere_31.2.2.2.2.1
theorem dX4_actionHere_39 : decode cX4_actionHere 39 = .ok (.ifCond .eq 5, 3) := eX4_actionHere_31.2.2.2.2.2.1
theorem dX4_actionHere_42 : decode cX4_actionHere 42 = .ok (.iconst 3, 1) := eX4_actionHere_31.2.2.2.2.2.2.1
theorem dX4_actionHere_43 : decode cX4_actionHere 43 = .ok (.ireturn, 1) := eX4_actionHere_31.2.2.2.2.2.2.2.1
theorem eX4_actionHere_44 : decode cX4_actionHere 44 = .ok (.aload_n 0, 1) ∧ decode cX4_actionHere 45 = .ok (.ldc 108, 2) ∧ decode cX4_actionHere 47 = .ok (.invokevirtual 43, 3) ∧ decode cX4_actionHere 50 = .ok (.ifCond .eq 5, 3) ∧ decode cX4_actionHere 53 = .ok (.iconst 4, 1) ∧ decode cX4_actionHere 54 = .ok (.ireturn, 1) ∧ decode cX4_actionHere 55 = .ok (.aload_n 0, 1) ∧ decode cX4_actionHere 56 = .ok (.ldc 110, 2) ∧ True := dkl_ok (c := cX4_actionHere) [(.aload_n 0, 1), (.ldc 108, 2), (.invokevirtual 43, 3), (.ifCond .eq 5, 3), (.iconst 4, 1), (.ireturn, 1), (.aload_n 0, 1), (.ldc 110, 2)] 44 (by decide +kernel)
theorem dX4_actionHere_44 : decode cX4_actionHere 44 = .ok (.aload_n 0, 1) := eX4_actionHere_44.1
theorem dX4_actionHere_45 : decode cX4_actionHere 45 = .ok (.ldc 108, 2) := eX4_actionHere_44.2.1
theorem dX4_actionHere_47 : decode cX4_actionHere 47 = .ok (.invokevirtual 43, 3) := eX4_actionHere_44.2.2.1
theorem dX4_actionHere_50 : decode cX4_actionHere 50 = .ok (.ifCond .eq 5, 3) := eX4_actionHere_44.2.2.2.1
theorem dX4_actionHere_53 : decode cX4_actionHere 53 = .ok (.iconst 4, 1) := eX4_actionHere_44.2.2.2.2.1
theorem dX4_actionHere_54 : decode cX4_actionHere 54 = .ok (.ireturn, 1) := eX4_actionHere_44.2.2.2.2.2.1
theorem dX4_actionHere_55 : decode cX4_actionHere 55 = .ok (.aload_n 0, 1) := eX4_actionHere_44.2.2.2.2.2.2.1
theorem dX4_actionHere_56 : decode cX4_actionHere 56 = .ok (.ldc 110, 2) := eX4_actionHere_44.2.2.2.2.2.2.2.1
theorem eX4_actionHere_58 : decode cX4_actionHere 58 = .ok (.invokevirtual 43, 3) ∧ decode cX4_actionHere 61 = .ok (.ifCond .eq 8, 3) ∧ decode cX4_actionHere 64 = .ok (.bipush 8, 2) ∧ decode cX4_actionHere 66 = .ok (.goto 4, 3) ∧ decode cX4_actionHere 69 = .ok (.iconst (-1), 1) ∧ decode cX4_actionHere 70 = .ok (.ireturn, 1) ∧ True := dkl_ok (c := cX4_actionHere) [(.invokevirtual 43, 3), (.ifCond .eq 8, 3), (.bipush 8, 2), (.goto 4, 3), (.iconst (-1), 1), (.ireturn, 1)] 58 (by decide +kernel)
theorem dX4_actionHere_58 : decode cX4_actionHere 58 = .ok (.invokevirtual 43, 3) := eX4_actionHere_58.1
theorem dX4_actionHere_61 : decode cX4_actionHere 61 = .ok (.ifCond .eq 8, 3) := eX4_actionHere_58.2.1
theorem dX4_actionHere_64 : decode cX4_actionHere 64 = .ok (.bipush 8, 2) := eX4_actionHere_58.2.2.1
theorem dX4_actionHere_66 : decode cX4_actionHere 66 = .ok (.goto 4, 3) := eX4_actionHere_58.2.2.2.1
theorem dX4_actionHere_69 : decode cX4_actionHere 69 = .ok (.iconst (-1), 1) := eX4_actionHere_58.2.2.2.2.1
theorem dX4_actionHere_70 : decode cX4_actionHere 70 = .ok (.ireturn, 1) := eX4_actionHere_58.2.2.2.2.2.1
theorem eX4_readTest_0 : decode cX4_readTest 0 = .ok (.aload_n 0, 1) ∧ decode cX4_readTest 1 = .ok (.ldc 112, 2) ∧ decode cX4_readTest 3 = .ok (.invokevirtual 43, 3) ∧ decode cX4_readTest 6 = .ok (.ifCond .eq 18, 3) ∧ decode cX4_readTest 9 = .ok (.aload_n 0, 1) ∧ decode cX4_readTest 10 = .ok (.getfield 12, 3) ∧ decode cX4_readTest 13 = .ok (.getfield 114, 3) ∧ decode cX4_readTest 16 = .ok (.iload_n 1, 1) ∧ True := dkl_ok (c := cX4_readTest) [(.aload_n 0, 1), (.ldc 112, 2), (.invokevirtual 43, 3), (.ifCond .eq 18, 3), (.aload_n 0, 1), (.getfield 12, 3), (.getfield 114, 3), (.iload_n 1, 1)] 0 (by decide +kernel)
theorem dX4_readTest_0 : decode cX4_readTest 0 = .ok (.aload_n 0, 1) := eX4_readTest_0.1
theorem dX4_readTest_1 : decode cX4_readTest 1 = .ok (.ldc 112, 2) := eX4_readTest_0.2.1
theorem dX4_readTest_3 : decode cX4_readTest 3 = .ok (.invokevirtual 43, 3) := eX4_readTest_0.2.2.1
theorem dX4_readTest_6 : decode cX4_readTest 6 = .ok (.ifCond .eq 18, 3) := eX4_readTest_0.2.2.2.1
theorem dX4_readTest_9 : decode cX4_readTest 9 = .ok (.aload_n 0, 1) := eX4_readTest_0.2.2.2.2.1
theorem dX4_readTest_10 : decode cX4_readTest 10 = .ok (.getfield 12, 3) := eX4_readTest_0.2.2.2.2.2.1
theorem dX4_readTest_13 : decode cX4_readTest 13 = .ok (.getfield 114, 3) := eX4_readTest_0.2.2.2.2.2.2.1
theorem dX4_readTest_16 : decode cX4_readTest 16 = .ok (.iload_n 1, 1) := eX4_readTest_0.2.2.2.2.2.2.2.1
theorem eX4_readTest_17 : decode cX4_readTest 17 = .ok (.iconst 5, 1) ∧ decode cX4_readTest 18 = .ok (.invokevirtual 73, 3) ∧ decode cX4_readTest 21 = .ok (.goto 68, 3) ∧ decode cX4_readTest 24 = .ok (.aload_n 0, 1) ∧ decode cX4_readTest 25 = .ok (.ldc 117, 2) ∧ decode cX4_readTest 27 = .ok (.invokevirtual 43, 3) ∧ decode cX4_readTest 30 = .ok (.ifCond .eq 19, 3) ∧ decode cX4_readTest 33 = .ok (.aload_n 0, 1) ∧ True := dkl_ok (c := cX4_readTest) [(.iconst 5, 1), (.invokevirtual 73, 3), (.goto 68, 3), (.aload_n 0, 1), (.ldc 117, 2), (.invokevirtual 43, 3), (.ifCond .eq 19, 3), (.aload_n 0, 1)] 17 (by decide +kernel)
theorem dX4_readTest_17 : decode cX4_readTest 17 = .ok (.iconst 5, 1) := eX4_readTest_17.1
theorem dX4_readTest_18 : decode cX4_readTest 18 = .ok (.invokevirtual 73, 3) := eX4_readTest_17.2.1
theorem dX4_readTest_21 : decode cX4_readTest 21 = .ok (.goto 68, 3) := eX4_readTest_17.2.2.1
theorem dX4_readTest_24 : decode cX4_readTest 24 = .ok (.aload_n 0, 1) := eX4_readTest_17.2.2.2.1
theorem dX4_readTest_25 : decode cX4_readTest 25 = .ok (.ldc 117, 2) := eX4_readTest_17.2.2.2.2.1
theorem dX4_readTest_27 : decode cX4_readTest 27 = .ok (.invokevirtual 43, 3) := eX4_readTest_17.2.2.2.2.2.1
theorem dX4_readTest_30 : decode cX4_readTest 30 = .ok (.ifCond .eq 19, 3) := eX4_readTest_17.2.2.2.2.2.2.1
theorem dX4_readTest_33 : decode cX4_readTest 33 = .ok (.aload_n 0, 1) := eX4_readTest_17.2.2.2.2.2.2.2.1
theorem eX4_readTest_34 : decode cX4_readTest 34 = .ok (.getfield 12, 3) ∧ decode cX4_readTest 37 = .ok (.getfield 114, 3) ∧ decode cX4_readTest 40 = .ok (.iload_n 1, 1) ∧ decode cX4_readTest 41 = .ok (.bipush 6, 2) ∧ decode cX4_readTest 43 = .ok (.invokevirtual 73, 3) ∧ decode cX4_readTest 46 = .ok (.goto 43, 3) ∧ decode cX4_readTest 49 = .ok (.aload_n 0, 1) ∧ decode cX4_readTest 50 = .ok (.ldc 119, 2) ∧ True := dkl_ok (c := cX4_readTest) [(.getfield 12, 3), (.getfield 114, 3), (.iload_n 1, 1), (.bipush 6, 2), (.invokevirtual 73, 3), (.goto 43, 3), (.aload_n 0, 1), (.ldc 119, 2)] 34 (by decide +kernel)
theorem dX4_readTest_34 : decode cX4_readTest 34 = .ok (.getfield 12, 3) := eX4_readTest_34.1
theorem dX4_readTest_37 : decode cX4_readTest 37 = .ok (.getfield 114, 3) := eX4_readTest_34.2.1
theorem dX4_readTest_40 : decode cX4_readTest 40 = .ok (.iload_n 1, 1) := eX4_readTest_34.2.2.1
theorem dX4_readTest_41 : decode cX4_readTest 41 = .ok (.bipush 6, 2) := eX4_readTest_34.2.2.2.1
theorem dX4_readTest_43 : decode cX4_readTest 43 = .ok (.invokevirtual 73, 3) := eX4_readTest_34.2.2.2.2.1
theorem dX4_readTest_46 : decode cX4_readTest 46 = .ok (.goto 43, 3) := eX4_readTest_34.2.2.2.2.2.1
theorem dX4_readTest_49 : decode cX4_readTest 49 = .ok (.aload_n 0, 1) := eX4_readTest_34.2.2.2.2.2.2.1
theorem dX4_readTest_50 : decode cX4_readTest 50 = .ok (.ldc 119, 2) := eX4_readTest_34.2.2.2.2.2.2.2.1
theorem eX4_readTest_52 : decode cX4_readTest 52 = .ok (.invokevirtual 43, 3) ∧ decode cX4_readTest 55 = .ok (.ifCond .eq 19, 3) ∧ decode cX4_readTest 58 = .ok (.aload_n 0, 1) ∧ decode cX4_readTest 59 = .ok (.getfield 12, 3) ∧ decode cX4_readTest 62 = .ok (.getfield 114, 3) ∧ decode cX4_readTest 65 = .ok (.iload_n 1, 1) ∧ decode cX4_readTest 66 = .ok (.bipush 7, 2) ∧ decode cX4_readTest 68 = .ok (.invokevirtual 73, 3) ∧ True := dkl_ok (c := cX4_readTest) [(.invokevirtual 43, 3), (.ifCond .eq 19, 3), (.aload_n 0, 1), (.getfield 12, 3), (.getfield 114, 3), (.iload_n 1, 1), (.bipush 7, 2), (.invokevirtual 73, 3)] 52 (by decide +kernel)
theorem dX4_readTest_52 : decode cX4_readTest 52 = .ok (.invokevirtual 43, 3) := eX4_readTest_52.1
theorem dX4_readTest_55 : decode cX4_readTest 55 = .ok (.ifCond .eq 19, 3) := eX4_readTest_52.2.1
theorem dX4_readTest_58 : decode cX4_readTest 58 = .ok (.aload_n 0, 1) := eX4_readTest_52.2.2.1
theorem dX4_readTest_59 : decode cX4_readTest 59 = .ok (.getfield 12, 3) := eX4_readTest_52.2.2.2.1
theorem dX4_readTest_62 : decode cX4_readTest 62 = .ok (.getfield 114, 3) := eX4_readTest_52.2.2.2.2.1
theorem dX4_readTest_65 : decode cX4_readTest 65 = .ok (.iload_n 1, 1) := eX4_readTest_52.2.2.2.2.2.1
theorem dX4_readTest_66 : decode cX4_readTest 66 = .ok (.bipush 7, 2) := eX4_readTest_52.2.2.2.2.2.2.1
theorem dX4_readTest_68 : decode cX4_readTest 68 = .ok (.invokevirtual 73, 3) := eX4_readTest_52.2.2.2.2.2.2.2.1
theorem eX4_readTest_71 : decode cX4_readTest 71 = .ok (.goto 18, 3) ∧ decode cX4_readTest 74 = .ok (.aload_n 0, 1) ∧ decode cX4_readTest 75 = .ok (.ldc 121, 2) ∧ decode cX4_readTest 77 = .ok (.invokevirtual 43, 3) ∧ decode cX4_readTest 80 = .ok (.ifCond .ne 9, 3) ∧ decode cX4_readTest 83 = .ok (.aload_n 0, 1) ∧ decode cX4_readTest 84 = .ok (.iconst 2, 1) ∧ decode cX4_readTest 85 = .ok (.invokevirtual 59, 3) ∧ True := dkl_ok (c := cX4_readTest) [(.goto 18, 3), (.aload_n 0, 1), (.ldc 121, 2), (.invokevirtual 43, 3), (.ifCond .ne 9, 3), (.aload_n 0, 1), (.iconst 2, 1), (.invokevirtual 59, 3)] 71 (by decide +kernel)
theorem dX4_readTest_71 : decode cX4_readTest 71 = .ok (.goto 18, 3) := eX4_readTest_71.1
theorem dX4_readTest_74 : decode cX4_readTest 74 = .ok (.aload_n 0, 1) := eX4_readTest_71.2.1
theorem dX4_readTest_75 : decode cX4_readTest 75 = .ok (.ldc 121, 2) := eX4_readTest_71.2.2.1
theorem dX4_readTest_77 : decode cX4_readTest 77 = .ok (.invokevirtual 43, 3) := eX4_readTest_71.2.2.2.1
theorem dX4_readTest_80 : decode cX4_readTest 80 = .ok (.ifCond .ne 9, 3) := eX4_readTest_71.2.2.2.2.1
theorem dX4_readTest_83 : decode cX4_readTest 83 = .ok (.aload_n 0, 1) := eX4_readTest_71.2.2.2.2.2.1
theorem dX4_readTest_84 : decode cX4_readTest 84 = .ok (.iconst 2, 1) := eX4_readTest_71.2.2.2.2.2.2.1
theorem dX4_readTest_85 : decode cX4_readTest 85 = .ok (.invokevirtual 59, 3) := eX4_readTest_71.2.2.2.2.2.2.2.1
theorem eX4_readTest_88 : decode cX4_readTest 88 = .ok (.ireturn, 1) ∧ decode cX4_readTest 89 = .ok (.aload_n 0, 1) ∧ decode cX4_readTest 90 = .ok (.invokevirtual 77, 3) ∧ decode cX4_readTest 93 = .ok (.iconst 1, 1) ∧ decode cX4_readTest 94 = .ok (.ireturn, 1) ∧ True := dkl_ok (c := cX4_readTest) [(.ireturn, 1), (.aload_n 0, 1), (.invokevirtual 77, 3), (.iconst 1, 1), (.ireturn, 1)] 88 (by decide +kernel)
theorem dX4_readTest_88 : decode cX4_readTest 88 = .ok (.ireturn, 1) := eX4_readTest_88.1
theorem dX4_readTest_89 : decode cX4_readTest 89 = .ok (.aload_n 0, 1) := eX4_readTest_88.2.1
theorem dX4_readTest_90 : decode cX4_readTest 90 = .ok (.invokevirtual 77, 3) := eX4_readTest_88.2.2.1
theorem dX4_readTest_93 : decode cX4_readTest 93 = .ok (.iconst 1, 1) := eX4_readTest_88.2.2.2.1
theorem dX4_readTest_94 : decode cX4_readTest 94 = .ok (.ireturn, 1) := eX4_readTest_88.2.2.2.2.1
theorem eX4_readOperands_0 : decode cX4_readOperands 0 = .ok (.aload_n 0, 1) ∧ decode cX4_readOperands 1 = .ok (.getfield 12, 3) ∧ decode cX4_readOperands 4 = .ok (.getfield 114, 3) ∧ decode cX4_readOperands 7 = .ok (.iload_n 1, 1) ∧ decode cX4_readOperands 8 = .ok (.invokevirtual 63, 3) ∧ decode cX4_readOperands 11 = .ok (.istore_n 3, 1) ∧ decode cX4_readOperands 12 = .ok (.iload_n 3, 1) ∧ decode cX4_readOperands 13 = .ok (.invokestatic 123, 3) ∧ True := dkl_ok (c := cX4_readOperands) [(.aload_n 0, 1), (.getfield 12, 3), (.getfield 114, 3), (.iload_n 1, 1), (.invokevirtual 63, 3), (.istore_n 3, 1), (.iload_n 3, 1), (.invokestatic 123, 3)] 0 (by decide +kernel)
theorem dX4_readOperands_0 : decode cX4_readOperands 0 = .ok (.aload_n 0, 1) := eX4_readOperands_0.1
theorem dX4_readOperands_1 : decode cX4_readOperands 1 = .ok (.getfield 12, 3) := eX4_readOperands_0.2.1
theorem dX4_readOperands_4 : decode cX4_readOperands 4 = .ok (.getfield 114, 3) := eX4_readOperands_0.2.2.1
theorem dX4_readOperands_7 : decode cX4_readOperands 7 = .ok (.iload_n 1, 1) := eX4_readOperands_0.2.2.2.1
theorem dX4_readOperands_8 : decode cX4_readOperands 8 = .ok (.invokevirtual 63, 3) := eX4_readOperands_0.2.2.2.2.1
theorem dX4_readOperands_11 : decode cX4_readOperands 11 = .ok (.istore_n 3, 1) := eX4_readOperands_0.2.2.2.2.2.1
theorem dX4_readOperands_12 : decode cX4_readOperands 12 = .ok (.iload_n 3, 1) := eX4_readOperands_0.2.2.2.2.2.2.1
theorem dX4_readOperands_13 : decode cX4_readOperands 13 = .ok (.invokestatic 123, 3) := eX4_readOperands_0.2.2.2.2.2.2.2.1
theorem eX4_readOperands_16 : decode cX4_readOperands 16 = .ok (.ifCond .eq 31, 3) ∧ decode cX4_readOperands 19 = .ok (.aload_n 0, 1) ∧ decode cX4_readOperands 20 = .ok (.aload_n 2, 1) ∧ decode cX4_readOperands 21 = .ok (.invokevirtual 126, 3) ∧ decode cX4_readOperands 24 = .ok (.istore 4, 2) ∧ decode cX4_readOperands 26 = .ok (.iload 4, 2) ∧ decode cX4_readOperands 28 = .ok (.iconst (-1), 1) ∧ decode cX4_readOperands 29 = .ok (.if_icmp .ne 5, 3) ∧ True := dkl_ok (c := cX4_readOperands) [(.ifCond .eq 31, 3), (.aload_n 0, 1), (.aload_n 2, 1), (.invokevirtual 126, 3), (.istore 4, 2), (.iload 4, 2), (.iconst (-1), 1), (.if_icmp .ne 5, 3)] 16 (by decide +kernel)
theorem dX4_readOperands_16 : decode cX4_readOperands 16 = .ok (.ifCond .eq 31, 3) := eX4_readOperands_16.1
theorem dX4_readOperands_19 : decode cX4_readOperands 19 = .ok (.aload_n 0, 1) := eX4_readOperands_16.2.1
theorem dX4_readOperands_20 : decode cX4_readOperands 20 = .ok (.aload_n 2, 1) := eX4_readOperands_16.2.2.1
theorem dX4_readOperands_21 : decode cX4_readOperands 21 = .ok (.invokevirtual 126, 3) := eX4_readOperands_16.2.2.2.1
theorem dX4_readOperands_24 : decode cX4_readOperands 24 = .ok (.istore 4, 2) := eX4_readOperands_16.2.2.2.2.1
theorem dX4_readOperands_26 : decode cX4_readOperands 26 = .ok (.iload 4, 2) := eX4_readOperands_16.2.2.2.2.2.1
theorem dX4_readOperands_28 : decode cX4_readOperands 28 = .ok (.iconst (-1), 1) := eX4_readOperands_16.2.2.2.2.2.2.1
theorem dX4_readOperands_29 : decode cX4_readOperands 29 = .ok (.if_icmp .ne 5, 3) := eX4_readOperands_16.2.2.2.2.2.2.2.1
theorem eX4_readOperands_32 : decode cX4_readOperands 32 = .ok (.iconst 0, 1) ∧ decode cX4_readOperands 33 = .ok (.ireturn, 1) ∧ decode cX4_readOperands 34 = .ok (.aload_n 0, 1) ∧ decode cX4_readOperands 35 = .ok (.getfield 12, 3) ∧ decode cX4_readOperands 38 = .ok (.getfield 130, 3) ∧ decode cX4_readOperands 41 = .ok (.iload_n 1, 1) ∧ decode cX4_readOperands 42 = .ok (.iload 4, 2) ∧ decode cX4_readOperands 44 = .ok (.invokevirtual 73, 3) ∧ True := dkl_ok (c := cX4_readOperands) [(.iconst 0, 1), (.ireturn, 1), (.aload_n 0, 1), (.getfield 12, 3), (.getfield 130, 3), (.iload_n 1, 1), (.iload 4, 2), (.invokevirtual 73, 3)] 32 (by decide +kernel)
theorem dX4_readOperands_32 : decode cX4_readOperands 32 = .ok (.iconst 0, 1) := eX4_readOperands_32.1
theorem dX4_readOperands_33 : decode cX4_readOperands 33 = .ok (.ireturn, 1) := eX4_readOperands_32.2.1
theorem dX4_readOperands_34 : decode cX4_readOperands 34 = .ok (.aload_n 0, 1) := eX4_readOperands_32.2.2.1
theorem dX4_readOperands_35 : decode cX4_readOperands 35 = .ok (.getfield 12, 3) := eX4_readOperands_32.2.2.2.1
theorem dX4_readOperands_38 : decode cX4_readOperands 38 = .ok (.getfield 130, 3) := eX4_readOperands_32.2.2.2.2.1
theorem dX4_readOperands_41 : decode cX4_readOperands 41 = .ok (.iload_n 1, 1) := eX4_readOperands_32.2.2.2.2.2.1
theorem dX4_readOperands_42 : decode cX4_readOperands 42 = .ok (.iload 4, 2) := eX4_readOperands_32.2.2.2.2.2.2.1
theorem dX4_readOperands_44 : decode cX4_readOperands 44 = .ok (.invokevirtual 73, 3) := eX4_readOperands_32.2.2.2.2.2.2.2.1
theorem eX4_readOperands_47 : decode cX4_readOperands 47 = .ok (.iload_n 3, 1) ∧ decode cX4_readOperands 48 = .ok (.invokestatic 133, 3) ∧ decode cX4_readOperands 51 = .ok (.ifCond .eq 48, 3) ∧ decode cX4_readOperands 54 = .ok (.aload_n 0, 1) ∧ decode cX4_readOperands 55 = .ok (.iconst 0, 1) ∧ decode cX4_readOperands 56 = .ok (.invokevirtual 136, 3) ∧ decode cX4_readOperands 59 = .ok (.istore 4, 2) ∧ decode cX4_readOperands 61 = .ok (.aload_n 0, 1) ∧ True := dkl_ok (c := cX4_readOperands) [(.iload_n 3, 1), (.invokestatic 133, 3), (.ifCond .eq 48, 3), (.aload_n 0, 1), (.iconst 0, 1), (.invokevirtual 136, 3), (.istore 4, 2), (.aload_n 0, 1)] 47 (by decide +kernel)
theorem dX4_readOperands_47 : decode cX4_readOperands 47 = .ok (.iload_n 3, 1) := eX4_readOperands_47.1
theorem dX4_readOperands_48 : decode cX4_readOperands 48 = .ok (.invokestatic 133, 3) := eX4_readOperands_47.2.1
theorem dX4_readOperands_51 : decode cX4_readOperands 51 = .ok (.ifCond .eq 48, 3) := eX4_readOperands_47.2.2.1
theorem dX4_readOperands_54 : decode cX4_readOperands 54 = .ok (.aload_n 0, 1) := eX4_readOperands_47.2.2.2.1
theorem dX4_readOperands_55 : decode cX4_readOperands 55 = .ok (.iconst 0, 1) := eX4_readOperands_47.2.2.2.2.1
theorem dX4_readOperands_56 : decode cX4_readOperands 56 = .ok (.invokevirtual 136, 3) := eX4_readOperands_47.2.2.2.2.2.1
theorem dX4_readOperands_59 : decode cX4_readOperands 59 = .ok (.istore 4, 2) := eX4_readOperands_47.2.2.2.2.2.2.1
theorem dX4_readOperands_61 : decode cX4_readOperands 61 = .ok (.aload_n 0, 1) := eX4_readOperands_47.2.2.2.2.2.2.2.1
theorem eX4_readOperands_62 : decode cX4_readOperands 62 = .ok (.getfield 38, 3) ∧ decode cX4_readOperands 65 = .ok (.iconst 3, 1) ∧ decode cX4_readOperands 66 = .ok (.if_icmp .ne 10, 3) ∧ decode cX4_readOperands 69 = .ok (.iload 4, 2) ∧ decode cX4_readOperands 71 = .ok (.bipush 59, 2) ∧ decode cX4_readOperands 73 = .ok (.if_icmp .ne 9, 3) ∧ decode cX4_readOperands 76 = .ok (.aload_n 0, 1) ∧ decode cX4_readOperands 77 = .ok (.iconst 2, 1) ∧ True := dkl_ok (c := cX4_readOperands) [(.getfield 38, 3), (.iconst 3, 1), (.if_icmp .ne 10, 3), (.iload 4, 2), (.bipush 59, 2), (.if_icmp .ne 9, 3), (.aload_n 0, 1), (.iconst 2, 1)] 62 (by decide +kernel)
theorem dX4_readOperands_62 : decode cX4_readOperands 62 = .ok (.getfield 38, 3) := eX4_readOperands_62.1
theorem dX4_readOperands_65 : decode cX4_readOperands 65 = .ok (.iconst 3, 1) := eX4_readOperands_62.2.1
theorem dX4_readOperands_66 : decode cX4_readOperands 66 = .ok (.if_icmp .ne 10, 3) := eX4_readOperands_62.2.2.1
theorem dX4_readOperands_69 : decode cX4_readOperands 69 = .ok (.iload 4, 2) := eX4_readOperands_62.2.2.2.1
theorem dX4_readOperands_71 : decode cX4_readOperands 71 = .ok (.bipush 59, 2) := eX4_readOperands_62.2.2.2.2.1
theorem dX4_readOperands_73 : decode cX4_readOperands 73 = .ok (.if_icmp .ne 9, 3) := eX4_readOperands_62.2.2.2.2.2.1
theorem dX4_readOperands_76 : decode cX4_readOperands 76 = .ok (.aload_n 0, 1) := eX4_readOperands_62.2.2.2.2.2.2.1
theorem dX4_readOperands_77 : decode cX4_readOperands 77 = .ok (.iconst 2, 1) := eX4_readOperands_62.2.2.2.2.2.2.2.1
theorem eX4_readOperands_78 : decode cX4_readOperands 78 = .ok (.invokevirtual 59, 3) ∧ decode cX4_readOperands 81 = .ok (.ireturn, 1) ∧ decode cX4_readOperands 82 = .ok (.aload_n 0, 1) ∧ decode cX4_readOperands 83 = .ok (.getfield 12, 3) ∧ decode cX4_readOperands 86 = .ok (.getfield 139, 3) ∧ decode cX4_readOperands 89 = .ok (.iload_n 1, 1) ∧ decode cX4_readOperands 90 = .ok (.iload 4, 2) ∧ decode cX4_readOperands 92 = .ok (.invokevirtual 73, 3) ∧ True := dkl_ok (c := cX4_readOperands) [(.invokevirtual 59, 3), (.ireturn, 1), (.aload_n 0, 1), (.getfield 12, 3), (.getfield 139, 3), (.iload_n 1, 1), (.iload 4, 2), (.invokevirtual 73, 3)] 78 (by decide +kernel)
theorem dX4_readOperands_78 : decode cX4_readOperands 78 = .ok (.invokevirtual 59, 3) := eX4_readOperands_78.1
theorem dX4_readOperands_81 : decode cX4_readOperands 81 = .ok (.ireturn, 1) := eX4_readOperands_78.2.1
theorem dX4_readOperands_82 : decode cX4_readOperands 82 = .ok (.aload_n 0, 1) := eX4_readOperands_78.2.2.1
theorem dX4_readOperands_83 : decode cX4_readOperands 83 = .ok (.getfield 12, 3) := eX4_readOperands_78.2.2.2.1
theorem dX4_readOperands_86 : decode cX4_readOperands 86 = .ok (.getfield 139, 3) := eX4_readOperands_78.2.2.2.2.1
theorem dX4_readOperands_89 : decode cX4_readOperands 89 = .ok (.iload_n 1, 1) := eX4_readOperands_78.2.2.2.2.2.1
theorem dX4_readOperands_90 : decode cX4_readOperands 90 = .ok (.iload 4, 2) := eX4_readOperands_78.2.2.2.2.2.2.1
theorem dX4_readOperands_92 : decode cX4_readOperands 92 = .ok (.invokevirtual 73, 3) := eX4_readOperands_78.2.2.2.2.2.2.2.1
theorem eX4_readOperands_95 : decode cX4_readOperands 95 = .ok (.aload_n 0, 1) ∧ decode cX4_readOperands 96 = .ok (.invokevirtual 77, 3) ∧ decode cX4_readOperands 99 = .ok (.iload_n 3, 1) ∧ decode cX4_readOperands 100 = .ok (.invokestatic 142, 3) ∧ decode cX4_readOperands 103 = .ok (.istore 4, 2) ∧ decode cX4_readOperands 105 = .ok (.iload 4, 2) ∧ decode cX4_readOperands 107 = .ok (.iconst (-1), 1) ∧ decode cX4_readOperands 108 = .ok (.if_icmp .ne 5, 3) ∧ True := dkl_ok (c := cX4_readOperands) [(.aload_n 0, 1), (.invokevirtual 77, 3), (.iload_n 3, 1), (.invokestatic 142, 3), (.istore 4, 2), (.iload 4, 2), (.iconst (-1), 1), (.if_icmp .ne 5, 3)] 95 (by decide +kernel)
theorem dX4_readOperands_95 : decode cX4_readOperands 95 = .ok (.aload_n 0, 1) := eX4_readOperands_95.1
theorem dX4_readOperands_96 : decode cX4_readOperands 96 = .ok (.invokevirtual 77, 3) := eX4_readOperands_95.2.1
theorem dX4_readOperands_99 : decode cX4_readOperands 99 = .ok (.iload_n 3, 1) := eX4_readOperands_95.2.2.1
theorem dX4_readOperands_100 : decode cX4_readOperands 100 = .ok (.invokestatic 142, 3) := eX4_readOperands_95.2.2.2.1
theorem dX4_readOperands_103 : decode cX4_readOperands 103 = .ok (.istore 4, 2) := eX4_readOperands_95.2.2.2.2.1
theorem dX4_readOperands_105 : decode cX4_readOperands 105 = .ok (.iload 4, 2) := eX4_readOperands_95.2.2.2.2.2.1
theorem dX4_readOperands_107 : decode cX4_readOperands 107 = .ok (.iconst (-1), 1) := eX4_readOperands_95.2.2.2.2.2.2.1
theorem dX4_readOperands_108 : decode cX4_readOperands 108 = .ok (.if_icmp .ne 5, 3) := eX4_readOperands_95.2.2.2.2.2.2.2.1
theorem eX4_readOperands_111 : decode cX4_readOperands 111 = .ok (.iconst 1, 1) ∧ decode cX4_readOperands 112 = .ok (.ireturn, 1) ∧ decode cX4_readOperands 113 = .ok (.aload_n 0, 1) ∧ decode cX4_readOperands 114 = .ok (.iload_n 3, 1) ∧ decode cX4_readOperands 115 = .ok (.iconst 4, 1) ∧ decode cX4_readOperands 116 = .ok (.if_icmp .ne 7, 3) ∧ decode cX4_readOperands 119 = .ok (.iconst 1, 1) ∧ decode cX4_readOperands 120 = .ok (.goto 4, 3) ∧ True := dkl_ok (c := cX4_readOperands) [(.iconst 1, 1), (.ireturn, 1), (.aload_n 0, 1), (.iload_n 3, 1), (.iconst 4, 1), (.if_icmp .ne 7, 3), (.iconst 1, 1), (.goto 4, 3)] 111 (by decide +kernel)
theorem dX4_readOperands_111 : decode cX4_readOperands 111 = .ok (.iconst 1, 1) := eX4_readOperands_111.1
theorem dX4_readOperands_112 : decode cX4_readOperands 112 = .ok (.ireturn, 1) := eX4_readOperands_111.2.1
theorem dX4_readOperands_113 : decode cX4_readOperands 113 = .ok (.aload_n 0, 1) := eX4_readOperands_111.2.2.1
theorem dX4_readOperands_114 : decode cX4_readOperands 114 = .ok (.iload_n 3, 1) := eX4_readOperands_111.2.2.2.1
theorem dX4_readOperands_115 : decode cX4_readOperands 115 = .ok (.iconst 4, 1) := eX4_readOperands_111.2.2.2.2.1
theorem dX4_readOperands_116 : decode cX4_readOperands 116 = .ok (.if_icmp .ne 7, 3) := eX4_readOperands_111.2.2.2.2.2.1
theorem dX4_readOperands_119 : decode cX4_readOperands 119 = .ok (.iconst 1, 1) := eX4_readOperands_111.2.2.2.2.2.2.1
theorem dX4_readOperands_120 : decode cX4_readOperands 120 = .ok (.goto 4, 3) := eX4_readOperands_111.2.2.2.2.2.2.2.1
theorem eX4_readOperands_123 : decode cX4_readOperands 123 = .ok (.iconst 0, 1) ∧ decode cX4_readOperands 124 = .ok (.iload 4, 2) ∧ decode cX4_readOperands 126 = .ok (.invokevirtual 145, 3) ∧ decode cX4_readOperands 129 = .ok (.istore 5, 2) ∧ decode cX4_readOperands 131 = .ok (.aload_n 0, 1) ∧ decode cX4_readOperands 132 = .ok (.getfield 12, 3) ∧ decode cX4_readOperands 135 = .ok (.getfield 149, 3) ∧ decode cX4_readOperands 138 = .ok (.iload_n 1, 1) ∧ True := dkl_ok (c := cX4_readOperands) [(.iconst 0, 1), (.iload 4, 2), (.invokevirtual 145, 3), (.istore 5, 2), (.aload_n 0, 1), (.getfield 12, 3), (.getfield 149, 3), (.iload_n 1, 1)] 123 (by decide +kernel)
theorem dX4_readOperands_123 : decode cX4_readOperands 123 = .ok (.iconst 0, 1) := eX4_readOperands_123.1
theorem dX4_readOperands_124 : decode cX4_readOperands 124 = .ok (.iload 4, 2) := eX4_readOperands_123.2.1
theorem dX4_readOperands_126 : decode cX4_readOperands 126 = .ok (.invokevirtual 145, 3) := eX4_readOperands_123.2.2.1
theorem dX4_readOperands_129 : decode cX4_readOperands 129 = .ok (.istore 5, 2) := eX4_readOperands_123.2.2.2.1
theorem dX4_readOperands_131 : decode cX4_readOperands 131 = .ok (.aload_n 0, 1) := eX4_readOperands_123.2.2.2.2.1
theorem dX4_readOperands_132 : decode cX4_readOperands 132 = .ok (.getfield 12, 3) := eX4_readOperands_123.2.2.2.2.2.1
theorem dX4_readOperands_135 : decode cX4_readOperands 135 = .ok (.getfield 149, 3) := eX4_readOperands_123.2.2.2.2.2.2.1
theorem dX4_readOperands_138 : decode cX4_readOperands 138 = .ok (.iload_n 1, 1) := eX4_readOperands_123.2.2.2.2.2.2.2.1
theorem eX4_readOperands_139 : decode cX4_readOperands 139 = .ok (.iload 5, 2) ∧ decode cX4_readOperands 141 = .ok (.invokevirtual 73, 3) ∧ decode cX4_readOperands 144 = .ok (.iload 5, 2) ∧ decode cX4_readOperands 146 = .ok (.iconst (-1), 1) ∧ decode cX4_readOperands 147 = .ok (.if_icmp .eq 7, 3) ∧ decode cX4_readOperands 150 = .ok (.iconst 1, 1) ∧ decode cX4_readOperands 151 = .ok (.goto 4, 3) ∧ decode cX4_readOperands 154 = .ok (.iconst 0, 1) ∧ True := dkl_ok (c := cX4_readOperands) [(.iload 5, 2), (.invokevirtual 73, 3), (.iload 5, 2), (.iconst (-1), 1), (.if_icmp .eq 7, 3), (.iconst 1, 1), (.goto 4, 3), (.iconst 0, 1)] 139 (by decide +kernel)
theorem dX4_readOperands_139 : decode cX4_readOperands 139 = .ok (.iload 5, 2) := eX4_readOperands_139.1
theorem dX4_readOperands_141 : decode cX4_readOperands 141 = .ok (.invokevirtual 73, 3) := eX4_readOperands_139.2.1
theorem dX4_readOperands_144 : decode cX4_readOperands 144 = .ok (.iload 5, 2) := eX4_readOperands_139.2.2.1
theorem dX4_readOperands_146 : decode cX4_readOperands 146 = .ok (.iconst (-1), 1) := eX4_readOperands_139.2.2.2.1
theorem dX4_readOperands_147 : decode cX4_readOperands 147 = .ok (.if_icmp .eq 7, 3) := eX4_readOperands_139.2.2.2.2.1
theorem dX4_readOperands_150 : decode cX4_readOperands 150 = .ok (.iconst 1, 1) := eX4_readOperands_139.2.2.2.2.2.1
theorem dX4_readOperands_151 : decode cX4_readOperands 151 = .ok (.goto 4, 3) := eX4_readOperands_139.2.2.2.2.2.2.1
theorem dX4_readOperands_154 : decode cX4_readOperands 154 = .ok (.iconst 0, 1) := eX4_readOperands_139.2.2.2.2.2.2.2.1
theorem eX4_readOperands_155 : decode cX4_readOperands 155 = .ok (.ireturn, 1) ∧ True := dkl_ok (c := cX4_readOperands) [(.ireturn, 1)] 155 (by decide +kernel)
theorem dX4_readOperands_155 : decode cX4_readOperands 155 = .ok (.ireturn, 1) := eX4_readOperands_155.1
theorem eX5_init_0 : decode cX5_init 0 = .ok (.aload_n 0, 1) ∧ decode cX5_init 1 = .ok (.invokespecial 1, 3) ∧ decode cX5_init 4 = .ok (.aload_n 0, 1) ∧ decode cX5_init 5 = .ok (.iconst 0, 1) ∧ decode cX5_init 6 = .ok (.iload_n 1, 1) ∧ decode cX5_init 7 = .ok (.invokestatic 7, 3) ∧ True := dkl_ok (c := cX5_init) [(.aload_n 0, 1), (.invokespecial 1, 3), (.aload_n 0, 1), (.iconst 0, 1), (.iload_n 1, 1), (.invokestatic 7, 3)] 0 (by decide +kernel)
theorem dX5_init_0 : decode cX5_init 0 = .ok (.aload_n 0, 1) := eX5_init_0.1
theorem dX5_init_1 : decode cX5_init 1 = .ok (.invokespecial 1, 3) := eX5_init_0.2.1
theorem dX5_init_4 : decode cX5_init 4 = .ok (.aload_n 0, 1) := eX5_init_0.2.2.1
theorem dX5_init_5 : decode cX5_init 5 = .ok (.iconst 0, 1) := eX5_init_0.2.2.2.1
theorem dX5_init_6 : decode cX5_init 6 = .ok (.iload_n 1, 1) := eX5_init_0.2.2.2.2.1
theorem dX5_init_7 : decode cX5_init 7 = .ok (.invokestatic 7, 3) := eX5_init_0.2.2.2.2.2.1
theorem dX5_init_10 : decode cX5_init 10 = .ok (.newarray .int, 2) := d_of (by decide +kernel)
theorem eX5_init_12 : decode cX5_init 12 = .ok (.putfield 13, 3) ∧ decode cX5_init 15 = .ok (.return_, 1) ∧ True := dkl_ok (c := cX5_init) [(.putfield 13, 3), (.return_, 1)] 12 (by decide +kernel)
theorem dX5_init_12 : decode cX5_init 12 = .ok (.putfield 13, 3) := eX5_init_12.1
theorem dX5_init_15 : decode cX5_init 15 = .ok (.return_, 1) := eX5_init_12.2.1
theorem eX5_get_0 : decode cX5_get 0 = .ok (.iload_n 1, 1) ∧ decode cX5_get 1 = .ok (.ifCond .lt 21, 3) ∧ decode cX5_get 4 = .ok (.iload_n 1, 1) ∧ decode cX5_get 5 = .ok (.aload_n 0, 1) ∧ decode cX5_get 6 = .ok (.getfield 13, 3) ∧ decode cX5_get 9 = .ok (.arraylength, 1) ∧ decode cX5_get 10 = .ok (.if_icmp .ge 12, 3) ∧ decode cX5_get 13 = .ok (.aload_n 0, 1) ∧ True := dkl_ok (c := cX5_get) [(.iload_n 1, 1), (.ifCond .lt 21, 3), (.iload_n 1, 1), (.aload_n 0, 1), (.getfield 13, 3), (.arraylength, 1), (.if_icmp .ge 12, 3), (.aload_n 0, 1)] 0 (by decide +kernel)
theorem dX5_get_0 : decode cX5_get 0 = .ok (.iload_n 1, 1) := eX5_get_0.1
theorem dX5_get_1 : decode cX5_get 1 = .ok (.ifCond .lt 21, 3) := eX5_get_0.2.1
theorem dX5_get_4 : decode cX5_get 4 = .ok (.iload_n 1, 1) := eX5_get_0.2.2.1
theorem dX5_get_5 : decode cX5_get 5 = .ok (.aload_n 0, 1) := eX5_get_0.2.2.2.1
theorem dX5_get_6 : decode cX5_get 6 = .ok (.getfield 13, 3) := eX5_get_0.2.2.2.2.1
theorem dX5_get_9 : decode cX5_get 9 = .ok (.arraylength, 1) := eX5_get_0.2.2.2.2.2.1
theorem dX5_get_10 : decode cX5_get 10 = .ok (.if_icmp .ge 12, 3) := eX5_get_0.2.2.2.2.2.2.1
theorem dX5_get_13 : decode cX5_get 13 = .ok (.aload_n 0, 1) := eX5_get_0.2.2.2.2.2.2.2.1
theorem eX5_get_14 : decode cX5_get 14 = .ok (.getfield 13, 3) ∧ decode cX5_get 17 = .ok (.iload_n 1, 1) ∧ decode cX5_get 18 = .ok (.iaload, 1) ∧ decode cX5_get 19 = .ok (.goto 4, 3) ∧ decode cX5_get 22 = .ok (.iconst 0, 1) ∧ decode cX5_get 23 = .ok (.ireturn, 1) ∧ True := dkl_ok (c := cX5_get) [(.getfield 13, 3), (.iload_n 1, 1), (.iaload, 1), (.goto 4, 3), (.iconst 0, 1), (.ireturn, 1)] 14 (by decide +kernel)
theorem dX5_get_14 : decode cX5_get 14 = .ok (.getfield 13, 3) := eX5_get_14.1
theorem dX5_get_17 : decode cX5_get 17 = .ok (.iload_n 1, 1) := eX5_get_14.2.1
theorem dX5_get_18 : decode cX5_get 18 = .ok (.iaload, 1) := eX5_get_14.2.2.1
theorem dX5_get_19 : decode cX5_get 19 = .ok (.goto 4, 3) := eX5_get_14.2.2.2.1
theorem dX5_get_22 : decode cX5_get 22 = .ok (.iconst 0, 1) := eX5_get_14.2.2.2.2.1
theorem dX5_get_23 : decode cX5_get 23 = .ok (.ireturn, 1) := eX5_get_14.2.2.2.2.2.1
theorem eX5_set_0 : decode cX5_set 0 = .ok (.iload_n 1, 1) ∧ decode cX5_set 1 = .ok (.ifCond .lt 19, 3) ∧ decode cX5_set 4 = .ok (.iload_n 1, 1) ∧ decode cX5_set 5 = .ok (.aload_n 0, 1) ∧ decode cX5_set 6 = .ok (.getfield 13, 3) ∧ decode cX5_set 9 = .ok (.arraylength, 1) ∧ decode cX5_set 10 = .ok (.if_icmp .ge 10, 3) ∧ decode cX5_set 13 = .ok (.aload_n 0, 1) ∧ True := dkl_ok (c := cX5_set) [(.iload_n 1, 1), (.ifCond .lt 19, 3), (.iload_n 1, 1), (.aload_n 0, 1), (.getfield 13, 3), (.arraylength, 1), (.if_icmp .ge 10, 3), (.aload_n 0, 1)] 0 (by decide +kernel)
theorem dX5_set_0 : decode cX5_set 0 = .ok (.iload_n 1, 1) := eX5_set_0.1
theorem dX5_set_1 : decode cX5_set 1 = .ok (.ifCond .lt 19, 3) := eX5_set_0.2.1
theorem dX5_set_4 : decode cX5_set 4 = .ok (.iload_n 1, 1) := eX5_set_0.2.2.1
theorem dX5_set_5 : decode cX5_set 5 = .ok (.aload_n 0, 1) := eX5_set_0.2.2.2.1
theorem dX5_set_6 : decode cX5_set 6 = .ok (.getfield 13, 3) := eX5_set_0.2.2.2.2.1
theorem dX5_set_9 : decode cX5_set 9 = .ok (.arraylength, 1) := eX5_set_0.2.2.2.2.2.1
theorem dX5_set_10 : decode cX5_set 10 = .ok (.if_icmp .ge 10, 3) := eX5_set_0.2.2.2.2.2.2.1
theorem dX5_set_13 : decode cX5_set 13 = .ok (.aload_n 0, 1) := eX5_set_0.2.2.2.2.2.2.2.1
theorem eX5_set_14 : decode cX5_set 14 = .ok (.getfield 13, 3) ∧ decode cX5_set 17 = .ok (.iload_n 1, 1) ∧ decode cX5_set 18 = .ok (.iload_n 2, 1) ∧ decode cX5_set 19 = .ok (.iastore, 1) ∧ decode cX5_set 20 = .ok (.return_, 1) ∧ True := dkl_ok (c := cX5_set) [(.getfield 13, 3), (.iload_n 1, 1), (.iload_n 2, 1), (.iastore, 1), (.return_, 1)] 14 (by decide +kernel)
theorem dX5_set_14 : decode cX5_set 14 = .ok (.getfield 13, 3) := eX5_set_14.1
theorem dX5_set_17 : decode cX5_set 17 = .ok (.iload_n 1, 1) := eX5_set_14.2.1
theorem dX5_set_18 : decode cX5_set 18 = .ok (.iload_n 2, 1) := eX5_set_14.2.2.1
theorem dX5_set_19 : decode cX5_set 19 = .ok (.iastore, 1) := eX5_set_14.2.2.2.1
theorem dX5_set_20 : decode cX5_set 20 = .ok (.return_, 1) := eX5_set_14.2.2.2.2.1
theorem eX5_add_0 : decode cX5_add 0 = .ok (.iload_n 1, 1) ∧ decode cX5_add 1 = .ok (.ifCond .lt 22, 3) ∧ decode cX5_add 4 = .ok (.iload_n 1, 1) ∧ decode cX5_add 5 = .ok (.aload_n 0, 1) ∧ decode cX5_add 6 = .ok (.getfield 13, 3) ∧ decode cX5_add 9 = .ok (.arraylength, 1) ∧ decode cX5_add 10 = .ok (.if_icmp .ge 13, 3) ∧ decode cX5_add 13 = .ok (.aload_n 0, 1) ∧ True := dkl_ok (c := cX5_add) [(.iload_n 1, 1), (.ifCond .lt 22, 3), (.iload_n 1, 1), (.aload_n 0, 1), (.getfield 13, 3), (.arraylength, 1), (.if_icmp .ge 13, 3), (.aload_n 0, 1)] 0 (by decide +kernel)
theorem dX5_add_0 : decode cX5_add 0 = .ok (.iload_n 1, 1) := eX5_add_0.1
theorem dX5_add_1 : decode cX5_add 1 = .ok (.ifCond .lt 22, 3) := eX5_add_0.2.1
theorem dX5_add_4 : decode cX5_add 4 = .ok (.iload_n 1, 1) := eX5_add_0.2.2.1
theorem dX5_add_5 : decode cX5_add 5 = .ok (.aload_n 0, 1) := eX5_add_0.2.2.2.1
theorem dX5_add_6 : decode cX5_add 6 = .ok (.getfield 13, 3) := eX5_add_0.2.2.2.2.1
theorem dX5_add_9 : decode cX5_add 9 = .ok (.arraylength, 1) := eX5_add_0.2.2.2.2.2.1
theorem dX5_add_10 : decode cX5_add 10 = .ok (.if_icmp .ge 13, 3) := eX5_add_0.2.2.2.2.2.2.1
theorem dX5_add_13 : decode cX5_add 13 = .ok (.aload_n 0, 1) := eX5_add_0.2.2.2.2.2.2.2.1
theorem eX5_add_14 : decode cX5_add 14 = .ok (.getfield 13, 3) ∧ decode cX5_add 17 = .ok (.iload_n 1, 1) ∧ decode cX5_add 18 = .ok (.dup2, 1) ∧ decode cX5_add 19 = .ok (.iaload, 1) ∧ decode cX5_add 20 = .ok (.iload_n 2, 1) ∧ decode cX5_add 21 = .ok (.iadd, 1) ∧ decode cX5_add 22 = .ok (.iastore, 1) ∧ decode cX5_add 23 = .ok (.return_, 1) ∧ True := dkl_ok (c := cX5_add) [(.getfield 13, 3), (.iload_n 1, 1), (.dup2, 1), (.iaload, 1), (.iload_n 2, 1), (.iadd, 1), (.iastore, 1), (.return_, 1)] 14 (by decide +kernel)
theorem dX5_add_14 : decode cX5_add 14 = .ok (.getfield 13, 3) := eX5_add_14.1
theorem dX5_add_17 : decode cX5_add 17 = .ok (.iload_n 1, 1) := eX5_add_14.2.1
theorem dX5_add_18 : decode cX5_add 18 = .ok (.dup2, 1) := eX5_add_14.2.2.1
theorem dX5_add_19 : decode cX5_add 19 = .ok (.iaload, 1) := eX5_add_14.2.2.2.1
theorem dX5_add_20 : decode cX5_add 20 = .ok (.iload_n 2, 1) := eX5_add_14.2.2.2.2.1
theorem dX5_add_21 : decode cX5_add 21 = .ok (.iadd, 1) := eX5_add_14.2.2.2.2.2.1
theorem dX5_add_22 : decode cX5_add 22 = .ok (.iastore, 1) := eX5_add_14.2.2.2.2.2.2.1
theorem dX5_add_23 : decode cX5_add 23 = .ok (.return_, 1) := eX5_add_14.2.2.2.2.2.2.2.1
theorem eX5_sum_0 : decode cX5_sum 0 = .ok (.iconst 0, 1) ∧ decode cX5_sum 1 = .ok (.istore_n 3, 1) ∧ decode cX5_sum 2 = .ok (.iload_n 1, 1) ∧ decode cX5_sum 3 = .ok (.istore 4, 2) ∧ decode cX5_sum 5 = .ok (.iload 4, 2) ∧ decode cX5_sum 7 = .ok (.iload_n 1, 1) ∧ decode cX5_sum 8 = .ok (.iload_n 2, 1) ∧ decode cX5_sum 9 = .ok (.iadd, 1) ∧ True := dkl_ok (c := cX5_sum) [(.iconst 0, 1), (.istore_n 3, 1), (.iload_n 1, 1), (.istore 4, 2), (.iload 4, 2), (.iload_n 1, 1), (.iload_n 2, 1), (.iadd, 1)] 0 (by decide +kernel)
theorem dX5_sum_0 : decode cX5_sum 0 = .ok (.iconst 0, 1) := eX5_sum_0.1
theorem dX5_sum_1 : decode cX5_sum 1 = .ok (.istore_n 3, 1) := eX5_sum_0.2.1
theorem dX5_sum_2 : decode cX5_sum 2 = .ok (.iload_n 1, 1) := eX5_sum_0.2.2.1
theorem dX5_sum_3 : decode cX5_sum 3 = .ok (.istore 4, 2) := eX5_sum_0.2.2.2.1
theorem dX5_sum_5 : decode cX5_sum 5 = .ok (.iload 4, 2) := eX5_sum_0.2.2.2.2.1
theorem dX5_sum_7 : decode cX5_sum 7 = .ok (.iload_n 1, 1) := eX5_sum_0.2.2.2.2.2.1
theorem dX5_sum_8 : decode cX5_sum 8 = .ok (.iload_n 2, 1) := eX5_sum_0.2.2.2.2.2.2.1
theorem dX5_sum_9 : decode cX5_sum 9 = .ok (.iadd, 1) := eX5_sum_0.2.2.2.2.2.2.2.1
theorem eX5_sum_10 : decode cX5_sum 10 = .ok (.if_icmp .ge 18, 3) ∧ decode cX5_sum 13 = .ok (.iload_n 3, 1) ∧ decode cX5_sum 14 = .ok (.aload_n 0, 1) ∧ decode cX5_sum 15 = .ok (.iload 4, 2) ∧ decode cX5_sum 17 = .ok (.invokevirtual 19, 3) ∧ decode cX5_sum 20 = .ok (.iadd, 1) ∧ decode cX5_sum 21 = .ok (.istore_n 3, 1) ∧ decode cX5_sum 22 = .ok (.iinc 4 1, 3) ∧ True := dkl_ok (c := cX5_sum) [(.if_icmp .ge 18, 3), (.iload_n 3, 1), (.aload_n 0, 1), (.iload 4, 2), (.invokevirtual 19, 3), (.iadd, 1), (.istore_n 3, 1), (.iinc 4 1, 3)] 10 (by decide +kernel)
theorem dX5_sum_10 : decode cX5_sum 10 = .ok (.if_icmp .ge 18, 3) := eX5_sum_10.1
theorem dX5_sum_13 : decode cX5_sum 13 = .ok (.iload_n 3, 1) := eX5_sum_10.2.1
theorem dX5_sum_14 : decode cX5_sum 14 = .ok (.aload_n 0, 1) := eX5_sum_10.2.2.1
theorem dX5_sum_15 : decode cX5_sum 15 = .ok (.iload 4, 2) := eX5_sum_10.2.2.2.1
theorem dX5_sum_17 : decode cX5_sum 17 = .ok (.invokevirtual 19, 3) := eX5_sum_10.2.2.2.2.1
theorem dX5_sum_20 : decode cX5_sum 20 = .ok (.iadd, 1) := eX5_sum_10.2.2.2.2.2.1
theorem dX5_sum_21 : decode cX5_sum 21 = .ok (.istore_n 3, 1) := eX5_sum_10.2.2.2.2.2.2.1
theorem dX5_sum_22 : decode cX5_sum 22 = .ok (.iinc 4 1, 3) := eX5_sum_10.2.2.2.2.2.2.2.1
theorem eX5_sum_25 : decode cX5_sum 25 = .ok (.goto (-20), 3) ∧ decode cX5_sum 28 = .ok (.iload_n 3, 1) ∧ decode cX5_sum 29 = .ok (.ireturn, 1) ∧ True := dkl_ok (c := cX5_sum) [(.goto (-20), 3), (.iload_n 3, 1), (.ireturn, 1)] 25 (by decide +kernel)
theorem dX5_sum_25 : decode cX5_sum 25 = .ok (.goto (-20), 3) := eX5_sum_25.1
theorem dX5_sum_28 : decode cX5_sum 28 = .ok (.iload_n 3, 1) := eX5_sum_25.2.1
theorem dX5_sum_29 : decode cX5_sum 29 = .ok (.ireturn, 1) := eX5_sum_25.2.2.1
theorem eX5_clear_0 : decode cX5_clear 0 = .ok (.iconst 0, 1) ∧ decode cX5_clear 1 = .ok (.istore_n 1, 1) ∧ decode cX5_clear 2 = .ok (.iload_n 1, 1) ∧ decode cX5_clear 3 = .ok (.aload_n 0, 1) ∧ decode cX5_clear 4 = .ok (.getfield 13, 3) ∧ decode cX5_clear 7 = .ok (.arraylength, 1) ∧ decode cX5_clear 8 = .ok (.if_icmp .ge 16, 3) ∧ decode cX5_clear 11 = .ok (.aload_n 0, 1) ∧ True := dkl_ok (c := cX5_clear) [(.iconst 0, 1), (.istore_n 1, 1), (.iload_n 1, 1), (.aload_n 0, 1), (.getfield 13, 3), (.arraylength, 1), (.if_icmp .ge 16, 3), (.aload_n 0, 1)] 0 (by decide +kernel)
theorem dX5_clear_0 : decode cX5_clear 0 = .ok (.iconst 0, 1) := eX5_clear_0.1
theorem dX5_clear_1 : decode cX5_clear 1 = .ok (.istore_n 1, 1) := eX5_clear_0.2.1
theorem dX5_clear_2 : decode cX5_clear 2 = .ok (.iload_n 1, 1) := eX5_clear_0.2.2.1
theorem dX5_clear_3 : decode cX5_clear 3 = .ok (.aload_n 0, 1) := eX5_clear_0.2.2.2.1
theorem dX5_clear_4 : decode cX5_clear 4 = .ok (.getfield 13, 3) := eX5_clear_0.2.2.2.2.1
theorem dX5_clear_7 : decode cX5_clear 7 = .ok (.arraylength, 1) := eX5_clear_0.2.2.2.2.2.1
theorem dX5_clear_8 : decode cX5_clear 8 = .ok (.if_icmp .ge 16, 3) := eX5_clear_0.2.2.2.2.2.2.1
theorem dX5_clear_11 : decode cX5_clear 11 = .ok (.aload_n 0, 1) := eX5_clear_0.2.2.2.2.2.2.2.1
theorem eX5_clear_12 : decode cX5_clear 12 = .ok (.getfield 13, 3) ∧ decode cX5_clear 15 = .ok (.iload_n 1, 1) ∧ decode cX5_clear 16 = .ok (.iconst 0, 1) ∧ decode cX5_clear 17 = .ok (.iastore, 1) ∧ decode cX5_clear 18 = .ok (.iinc 1 1, 3) ∧ decode cX5_clear 21 = .ok (.goto (-19), 3) ∧ decode cX5_clear 24 = .ok (.return_, 1) ∧ True := dkl_ok (c := cX5_clear) [(.getfield 13, 3), (.iload_n 1, 1), (.iconst 0, 1), (.iastore, 1), (.iinc 1 1, 3), (.goto (-19), 3), (.return_, 1)] 12 (by decide +kernel)
theorem dX5_clear_12 : decode cX5_clear 12 = .ok (.getfield 13, 3) := eX5_clear_12.1
theorem dX5_clear_15 : decode cX5_clear 15 = .ok (.iload_n 1, 1) := eX5_clear_12.2.1
theorem dX5_clear_16 : decode cX5_clear 16 = .ok (.iconst 0, 1) := eX5_clear_12.2.2.1
theorem dX5_clear_17 : decode cX5_clear 17 = .ok (.iastore, 1) := eX5_clear_12.2.2.2.1
theorem dX5_clear_18 : decode cX5_clear 18 = .ok (.iinc 1 1, 3) := eX5_clear_12.2.2.2.2.1
theorem dX5_clear_21 : decode cX5_clear 21 = .ok (.goto (-19), 3) := eX5_clear_12.2.2.2.2.2.1
theorem dX5_clear_24 : decode cX5_clear 24 = .ok (.return_, 1) := eX5_clear_12.2.2.2.2.2.2.1
theorem eX5_copyFrom_0 : decode cX5_copyFrom 0 = .ok (.iconst 0, 1) ∧ decode cX5_copyFrom 1 = .ok (.istore_n 2, 1) ∧ decode cX5_copyFrom 2 = .ok (.iload_n 2, 1) ∧ decode cX5_copyFrom 3 = .ok (.aload_n 0, 1) ∧ decode cX5_copyFrom 4 = .ok (.getfield 13, 3) ∧ decode cX5_copyFrom 7 = .ok (.arraylength, 1) ∧ decode cX5_copyFrom 8 = .ok (.if_icmp .ge 30, 3) ∧ decode cX5_copyFrom 11 = .ok (.iload_n 2, 1) ∧ True := dkl_ok (c := cX5_copyFrom) [(.iconst 0, 1), (.istore_n 2, 1), (.iload_n 2, 1), (.aload_n 0, 1), (.getfield 13, 3), (.arraylength, 1), (.if_icmp .ge 30, 3), (.iload_n 2, 1)] 0 (by decide +kernel)
theorem dX5_copyFrom_0 : decode cX5_copyFrom 0 = .ok (.iconst 0, 1) := eX5_copyFrom_0.1
theorem dX5_copyFrom_1 : decode cX5_copyFrom 1 = .ok (.istore_n 2, 1) := eX5_copyFrom_0.2.1
theorem dX5_copyFrom_2 : decode cX5_copyFrom 2 = .ok (.iload_n 2, 1) := eX5_copyFrom_0.2.2.1
theorem dX5_copyFrom_3 : decode cX5_copyFrom 3 = .ok (.aload_n 0, 1) := eX5_copyFrom_0.2.2.2.1
theorem dX5_copyFrom_4 : decode cX5_copyFrom 4 = .ok (.getfield 13, 3) := eX5_copyFrom_0.2.2.2.2.1
theorem dX5_copyFrom_7 : decode cX5_copyFrom 7 = .ok (.arraylength, 1) := eX5_copyFrom_0.2.2.2.2.2.1
theorem dX5_copyFrom_8 : decode cX5_copyFrom 8 = .ok (.if_icmp .ge 30, 3) := eX5_copyFrom_0.2.2.2.2.2.2.1
theorem dX5_copyFrom_11 : decode cX5_copyFrom 11 = .ok (.iload_n 2, 1) := eX5_copyFrom_0.2.2.2.2.2.2.2.1
theorem eX5_copyFrom_12 : decode cX5_copyFrom 12 = .ok (.aload_n 1, 1) ∧ decode cX5_copyFrom 13 = .ok (.getfield 13, 3) ∧ decode cX5_copyFrom 16 = .ok (.arraylength, 1) ∧ decode cX5_copyFrom 17 = .ok (.if_icmp .ge 21, 3) ∧ decode cX5_copyFrom 20 = .ok (.aload_n 0, 1) ∧ decode cX5_copyFrom 21 = .ok (.getfield 13, 3) ∧ decode cX5_copyFrom 24 = .ok (.iload_n 2, 1) ∧ decode cX5_copyFrom 25 = .ok (.aload_n 1, 1) ∧ True := dkl_ok (c := cX5_copyFrom) [(.aload_n 1, 1), (.getfield 13, 3), (.arraylength, 1), (.if_icmp .ge 21, 3), (.aload_n 0, 1), (.getfield 13, 3), (.iload_n 2, 1), (.aload_n 1, 1)] 12 (by decide +kernel)
theorem dX5_copyFrom_12 : decode cX5_copyFrom 12 = .ok (.aload_n 1, 1) := eX5_copyFrom_12.1
theorem dX5_copyFrom_13 : decode cX5_copyFrom 13 = .ok (.getfield 13, 3) := eX5_copyFrom_12.2.1
theorem dX5_copyFrom_16 : decode cX5_copyFrom 16 = .ok (.arraylength, 1) := eX5_copyFrom_12.2.2.1
theorem dX5_copyFrom_17 : decode cX5_copyFrom 17 = .ok (.if_icmp .ge 21, 3) := eX5_copyFrom_12.2.2.2.1
theorem dX5_copyFrom_20 : decode cX5_copyFrom 20 = .ok (.aload_n 0, 1) := eX5_copyFrom_12.2.2.2.2.1
theorem dX5_copyFrom_21 : decode cX5_copyFrom 21 = .ok (.getfield 13, 3) := eX5_copyFrom_12.2.2.2.2.2.1
theorem dX5_copyFrom_24 : decode cX5_copyFrom 24 = .ok (.iload_n 2, 1) := eX5_copyFrom_12.2.2.2.2.2.2.1
theorem dX5_copyFrom_25 : decode cX5_copyFrom 25 = .ok (.aload_n 1, 1) := eX5_copyFrom_12.2.2.2.2.2.2.2.1
theorem eX5_copyFrom_26 : decode cX5_copyFrom 26 = .ok (.getfield 13, 3) ∧ decode cX5_copyFrom 29 = .ok (.iload_n 2, 1) ∧ decode cX5_copyFrom 30 = .ok (.iaload, 1) ∧ decode cX5_copyFrom 31 = .ok (.iastore, 1) ∧ decode cX5_copyFrom 32 = .ok (.iinc 2 1, 3) ∧ decode cX5_copyFrom 35 = .ok (.goto (-33), 3) ∧ decode cX5_copyFrom 38 = .ok (.return_, 1) ∧ True := dkl_ok (c := cX5_copyFrom) [(.getfield 13, 3), (.iload_n 2, 1), (.iaload, 1), (.iastore, 1), (.iinc 2 1, 3), (.goto (-33), 3), (.return_, 1)] 26 (by decide +kernel)
theorem dX5_copyFrom_26 : decode cX5_copyFrom 26 = .ok (.getfield 13, 3) := eX5_copyFrom_26.1
theorem dX5_copyFrom_29 : decode cX5_copyFrom 29 = .ok (.iload_n 2, 1) := eX5_copyFrom_26.2.1
theorem dX5_copyFrom_30 : decode cX5_copyFrom 30 = .ok (.iaload, 1) := eX5_copyFrom_26.2.2.1
theorem dX5_copyFrom_31 : decode cX5_copyFrom 31 = .ok (.iastore, 1) := eX5_copyFrom_26.2.2.2.1
theorem dX5_copyFrom_32 : decode cX5_copyFrom 32 = .ok (.iinc 2 1, 3) := eX5_copyFrom_26.2.2.2.2.1
theorem dX5_copyFrom_35 : decode cX5_copyFrom 35 = .ok (.goto (-33), 3) := eX5_copyFrom_26.2.2.2.2.2.1
theorem dX5_copyFrom_38 : decode cX5_copyFrom 38 = .ok (.return_, 1) := eX5_copyFrom_26.2.2.2.2.2.2.1
theorem eX6_init_0 : decode cX6_init 0 = .ok (.aload_n 0, 1) ∧ decode cX6_init 1 = .ok (.invokespecial 3, 3) ∧ decode cX6_init 4 = .ok (.aload_n 0, 1) ∧ decode cX6_init 5 = .ok (.iconst 2, 1) ∧ decode cX6_init 6 = .ok (.putfield 9, 3) ∧ decode cX6_init 9 = .ok (.aload_n 0, 1) ∧ decode cX6_init 10 = .ok (.iconst 1, 1) ∧ decode cX6_init 11 = .ok (.putfield 15, 3) ∧ True := dkl_ok (c := cX6_init) [(.aload_n 0, 1), (.invokespecial 3, 3), (.aload_n 0, 1), (.iconst 2, 1), (.putfield 9, 3), (.aload_n 0, 1), (.iconst 1, 1), (.putfield 15, 3)] 0 (by decide +kernel)
theorem dX6_init_0 : decode cX6_init 0 = .ok (.aload_n 0, 1) := eX6_init_0.1
theorem dX6_init_1 : decode cX6_init 1 = .ok (.invokespecial 3, 3) := eX6_init_0.2.1
theorem dX6_init_4 : decode cX6_init 4 = .ok (.aload_n 0, 1) := eX6_init_0.2.2.1
theorem dX6_init_5 : decode cX6_init 5 = .ok (.iconst 2, 1) := eX6_init_0.2.2.2.1
theorem dX6_init_6 : decode cX6_init 6 = .ok (.putfield 9, 3) := eX6_init_0.2.2.2.2.1
theorem dX6_init_9 : decode cX6_init 9 = .ok (.aload_n 0, 1) := eX6_init_0.2.2.2.2.2.1
theorem dX6_init_10 : decode cX6_init 10 = .ok (.iconst 1, 1) := eX6_init_0.2.2.2.2.2.2.1
theorem dX6_init_11 : decode cX6_init 11 = .ok (.putfield 15, 3) := eX6_init_0.2.2.2.2.2.2.2.1
theorem eX6_init_14 : decode cX6_init 14 = .ok (.aload_n 0, 1) ∧ decode cX6_init 15 = .ok (.iconst 0, 1) ∧ decode cX6_init 16 = .ok (.putfield 18, 3) ∧ decode cX6_init 19 = .ok (.aload_n 0, 1) ∧ decode cX6_init 20 = .ok (.iconst 4, 1) ∧ decode cX6_init 21 = .ok (.putfield 21, 3) ∧ decode cX6_init 24 = .ok (.aload_n 0, 1) ∧ decode cX6_init 25 = .ok (.iconst 0, 1) ∧ True := dkl_ok (c := cX6_init) [(.aload_n 0, 1), (.iconst 0, 1), (.putfield 18, 3), (.aload_n 0, 1), (.iconst 4, 1), (.putfield 21, 3), (.aload_n 0, 1), (.iconst 0, 1)] 14 (by decide +kernel)
theorem dX6_init_14 : decode cX6_init 14 = .ok (.aload_n 0, 1) := eX6_init_14.1
theorem dX6_init_15 : decode cX6_init 15 = .ok (.iconst 0, 1) := eX6_init_14.2.1
theorem dX6_init_16 : decode cX6_init 16 = .ok (.putfield 18, 3) := eX6_init_14.2.2.1
theorem dX6_init_19 : decode cX6_init 19 = .ok (.aload_n 0, 1) := eX6_init_14.2.2.2.1
theorem dX6_init_20 : decode cX6_init 20 = .ok (.iconst 4, 1) := eX6_init_14.2.2.2.2.1
theorem dX6_init_21 : decode cX6_init 21 = .ok (.putfield 21, 3) := eX6_init_14.2.2.2.2.2.1
theorem dX6_init_24 : decode cX6_init 24 = .ok (.aload_n 0, 1) := eX6_init_14.2.2.2.2.2.2.1
theorem dX6_init_25 : decode cX6_init 25 = .ok (.iconst 0, 1) := eX6_init_14.2.2.2.2.2.2.2.1
theorem eX6_init_26 : decode cX6_init 26 = .ok (.putfield 24, 3) ∧ decode cX6_init 29 = .ok (.aload_n 0, 1) ∧ decode cX6_init 30 = .ok (.new 27, 3) ∧ decode cX6_init 33 = .ok (.dup, 1) ∧ decode cX6_init 34 = .ok (.bipush 10, 2) ∧ decode cX6_init 36 = .ok (.invokespecial 29, 3) ∧ decode cX6_init 39 = .ok (.putfield 32, 3) ∧ decode cX6_init 42 = .ok (.aload_n 0, 1) ∧ True := dkl_ok (c := cX6_init) [(.putfield 24, 3), (.aload_n 0, 1), (.new 27, 3), (.dup, 1), (.bipush 10, 2), (.invokespecial 29, 3), (.putfield 32, 3), (.aload_n 0, 1)] 26 (by decide +kernel)
theorem dX6_init_26 : decode cX6_init 26 = .ok (.putfield 24, 3) := eX6_init_26.1
theorem dX6_init_29 : decode cX6_init 29 = .ok (.aload_n 0, 1) := eX6_init_26.2.1
theorem dX6_init_30 : decode cX6_init 30 = .ok (.new 27, 3) := eX6_init_26.2.2.1
theorem dX6_init_33 : decode cX6_init 33 = .ok (.dup, 1) := eX6_init_26.2.2.2.1
theorem dX6_init_34 : decode cX6_init 34 = .ok (.bipush 10, 2) := eX6_init_26.2.2.2.2.1
theorem dX6_init_36 : decode cX6_init 36 = .ok (.invokespecial 29, 3) := eX6_init_26.2.2.2.2.2.1
theorem dX6_init_39 : decode cX6_init 39 = .ok (.putfield 32, 3) := eX6_init_26.2.2.2.2.2.2.1
theorem dX6_init_42 : decode cX6_init 42 = .ok (.aload_n 0, 1) := eX6_init_26.2.2.2.2.2.2.2.1
theorem eX6_init_43 : decode cX6_init 43 = .ok (.new 27, 3) ∧ decode cX6_init 46 = .ok (.dup, 1) ∧ decode cX6_init 47 = .ok (.bipush 48, 2) ∧ decode cX6_init 49 = .ok (.invokespecial 29, 3) ∧ decode cX6_init 52 = .ok (.putfield 36, 3) ∧ decode cX6_init 55 = .ok (.aload_n 0, 1) ∧ decode cX6_init 56 = .ok (.new 27, 3) ∧ decode cX6_init 59 = .ok (.dup, 1) ∧ True := dkl_ok (c := cX6_init) [(.new 27, 3), (.dup, 1), (.bipush 48, 2), (.invokespecial 29, 3), (.putfield 36, 3), (.aload_n 0, 1), (.new 27, 3), (.dup, 1)] 43 (by decide +kernel)
theorem dX6_init_43 : decode cX6_init 43 = .ok (.new 27, 3) := eX6_init_43.1
theorem dX6_init_46 : decode cX6_init 46 = .ok (.dup, 1) := eX6_init_43.2.1
theorem dX6_init_47 : decode cX6_init 47 = .ok (.bipush 48, 2) := eX6_init_43.2.2.1
theorem dX6_init_49 : decode cX6_init 49 = .ok (.invokespecial 29, 3) := eX6_init_43.2.2.2.1
theorem dX6_init_52 : decode cX6_init 52 = .ok (.putfield 36, 3) := eX6_init_43.2.2.2.2.1
theorem dX6_init_55 : decode cX6_init 55 = .ok (.aload_n 0, 1) := eX6_init_43.2.2.2.2.2.1
theorem dX6_init_56 : decode cX6_init 56 = .ok (.new 27, 3) := eX6_init_43.2.2.2.2.2.2.1
theorem dX6_init_59 : decode cX6_init 59 = .ok (.dup, 1) := eX6_init_43.2.2.2.2.2.2.2.1
theorem eX6_init_60 : decode cX6_init 60 = .ok (.bipush 6, 2) ∧ decode cX6_init 62 = .ok (.invokespecial 29, 3) ∧ decode cX6_init 65 = .ok (.putfield 39, 3) ∧ decode cX6_init 68 = .ok (.return_, 1) ∧ True := dkl_ok (c := cX6_init) [(.bipush 6, 2), (.invokespecial 29, 3), (.putfield 39, 3), (.return_, 1)] 60 (by decide +kernel)
theorem dX6_init_60 : decode cX6_init 60 = .ok (.bipush 6, 2) := eX6_init_60.1
theorem dX6_init_62 : decode cX6_init 62 = .ok (.invokespecial 29, 3) := eX6_init_60.2.1
theorem dX6_init_65 : decode cX6_init 65 = .ok (.putfield 39, 3) := eX6_init_60.2.2.1
theorem dX6_init_68 : decode cX6_init 68 = .ok (.return_, 1) := eX6_init_60.2.2.2.1
theorem eX6_reset_0 : decode cX6_reset 0 = .ok (.aload_n 0, 1) ∧ decode cX6_reset 1 = .ok (.iconst 2, 1) ∧ decode cX6_reset 2 = .ok (.putfield 9, 3) ∧ decode cX6_reset 5 = .ok (.aload_n 0, 1) ∧ decode cX6_reset 6 = .ok (.iconst 1, 1) ∧ decode cX6_reset 7 = .ok (.putfield 15, 3) ∧ decode cX6_reset 10 = .ok (.aload_n 0, 1) ∧ decode cX6_reset 11 = .ok (.iconst 0, 1) ∧ True := dkl_ok (c := cX6_reset) [(.aload_n 0, 1), (.iconst 2, 1), (.putfield 9, 3), (.aload_n 0, 1), (.iconst 1, 1), (.putfield 15, 3), (.aload_n 0, 1), (.iconst 0, 1)] 0 (by decide +kernel)
theorem dX6_reset_0 : decode cX6_reset 0 = .ok (.aload_n 0, 1) := eX6_reset_0.1
theorem dX6_reset_1 : decode cX6_reset 1 = .ok (.iconst 2, 1) := eX6_reset_0.2.1
theorem dX6_reset_2 : decode cX6_reset 2 = .ok (.putfield 9, 3) := eX6_reset_0.2.2.1
theorem dX6_reset_5 : decode cX6_reset 5 = .ok (.aload_n 0, 1) := eX6_reset_0.2.2.2.1
theorem dX6_reset_6 : decode cX6_reset 6 = .ok (.iconst 1, 1) := eX6_reset_0.2.2.2.2.1
theorem dX6_reset_7 : decode cX6_reset 7 = .ok (.putfield 15, 3) := eX6_reset_0.2.2.2.2.2.1
theorem dX6_reset_10 : decode cX6_reset 10 = .ok (.aload_n 0, 1) := eX6_reset_0.2.2.2.2.2.2.1
theorem dX6_reset_11 : decode cX6_reset 11 = .ok (.iconst 0, 1) := eX6_reset_0.2.2.2.2.2.2.2.1
theorem eX6_reset_12 : decode cX6_reset 12 = .ok (.putfield 18, 3) ∧ decode cX6_reset 15 = .ok (.aload_n 0, 1) ∧ decode cX6_reset 16 = .ok (.iconst 4, 1) ∧ decode cX6_reset 17 = .ok (.putfield 21, 3) ∧ decode cX6_reset 20 = .ok (.aload_n 0, 1) ∧ decode cX6_reset 21 = .ok (.iconst 0, 1) ∧ decode cX6_reset 22 = .ok (.putfield 24, 3) ∧ decode cX6_reset 25 = .ok (.aload_n 0, 1) ∧ True := dkl_ok (c := cX6_reset) [(.putfield 18, 3), (.aload_n 0, 1), (.iconst 4, 1), (.putfield 21, 3), (.aload_n 0, 1), (.iconst 0, 1), (.putfield 24, 3), (.aload_n 0, 1)] 12 (by decide +kernel)
theorem dX6_reset_12 : decode cX6_reset 12 = .ok (.putfield 18, 3) := eX6_reset_12.1
theorem dX6_reset_15 : decode cX6_reset 15 = .ok (.aload_n 0, 1) := eX6_reset_12.2.1
theorem dX6_reset_16 : decode cX6_reset 16 = .ok (.iconst 4, 1) := eX6_reset_12.2.2.1
theorem dX6_reset_17 : decode cX6_reset 17 = .ok (.putfield 21, 3) := eX6_reset_12.2.2.2.1
theorem dX6_reset_20 : decode cX6_reset 20 = .ok (.aload_n 0, 1) := eX6_reset_12.2.2.2.2.1
theorem dX6_reset_21 : decode cX6_reset 21 = .ok (.iconst 0, 1) := eX6_reset_12.2.2.2.2.2.1
theorem dX6_reset_22 : decode cX6_reset 22 = .ok (.putfield 24, 3) := eX6_reset_12.2.2.2.2.2.2.1
theorem dX6_reset_25 : decode cX6_reset 25 = .ok (.aload_n 0, 1) := eX6_reset_12.2.2.2.2.2.2.2.1
theorem eX6_reset_26 : decode cX6_reset 26 = .ok (.getfield 32, 3) ∧ decode cX6_reset 29 = .ok (.invokevirtual 42, 3) ∧ decode cX6_reset 32 = .ok (.return_, 1) ∧ True := dkl_ok (c := cX6_reset) [(.getfield 32, 3), (.invokevirtual 42, 3), (.return_, 1)] 26 (by decide +kernel)
theorem dX6_reset_26 : decode cX6_reset 26 = .ok (.getfield 32, 3) := eX6_reset_26.1
theorem dX6_reset_29 : decode cX6_reset 29 = .ok (.invokevirtual 42, 3) := eX6_reset_26.2.1
theorem dX6_reset_32 : decode cX6_reset 32 = .ok (.return_, 1) := eX6_reset_26.2.2.1
theorem eX6_copyFrom_0 : decode cX6_copyFrom 0 = .ok (.aload_n 0, 1) ∧ decode cX6_copyFrom 1 = .ok (.aload_n 1, 1) ∧ decode cX6_copyFrom 2 = .ok (.getfield 9, 3) ∧ decode cX6_copyFrom 5 = .ok (.putfield 9, 3) ∧ decode cX6_copyFrom 8 = .ok (.aload_n 0, 1) ∧ decode cX6_copyFrom 9 = .ok (.aload_n 1, 1) ∧ decode cX6_copyFrom 10 = .ok (.getfield 15, 3) ∧ decode cX6_copyFrom 13 = .ok (.putfield 15, 3) ∧ True := dkl_ok (c := cX6_copyFrom) [(.aload_n 0, 1), (.aload_n 1, 1), (.getfield 9, 3), (.putfield 9, 3), (.aload_n 0, 1), (.aload_n 1, 1), (.getfield 15, 3), (.putfield 15, 3)] 0 (by decide +kernel)
theorem dX6_copyFrom_0 : decode cX6_copyFrom 0 = .ok (.aload_n 0, 1) := eX6_copyFrom_0.1
theorem dX6_copyFrom_1 : decode cX6_copyFrom 1 = .ok (.aload_n 1, 1) := eX6_copyFrom_0.2.1
theorem dX6_copyFrom_2 : decode cX6_copyFrom 2 = .ok (.getfield 9, 3) := eX6_copyFrom_0.2.2.1
theorem dX6_copyFrom_5 : decode cX6_copyFrom 5 = .ok (.putfield 9, 3) := eX6_copyFrom_0.2.2.2.1
theorem dX6_copyFrom_8 : decode cX6_copyFrom 8 = .ok (.aload_n 0, 1) := eX6_copyFrom_0.2.2.2.2.1
theorem dX6_copyFrom_9 : decode cX6_copyFrom 9 = .ok (.aload_n 1, 1) := eX6_copyFrom_0.2.2.2.2.2.1
theorem dX6_copyFrom_10 : decode cX6_copyFrom 10 = .ok (.getfield 15, 3) := eX6_copyFrom_0.2.2.2.2.2.2.1
theorem dX6_copyFrom_13 : decode cX6_copyFrom 13 = .ok (.putfield 15, 3) := eX6_copyFrom_0.2.2.2.2.2.2.2.1
theorem eX6_copyFrom_16 : decode cX6_copyFrom 16 = .ok (.aload_n 0, 1) ∧ decode cX6_copyFrom 17 = .ok (.aload_n 1, 1) ∧ decode cX6_copyFrom 18 = .ok (.getfield 18, 3) ∧ decode cX6_copyFrom 21 = .ok (.putfield 18, 3) ∧ decode cX6_copyFrom 24 = .ok (.aload_n 0, 1) ∧ decode cX6_copyFrom 25 = .ok (.aload_n 1, 1) ∧ decode cX6_copyFrom 26 = .ok (.getfield 21, 3) ∧ decode cX6_copyFrom 29 = .ok (.putfield 21, 3) ∧ True := dkl_ok (c := cX6_copyFrom) [(.aload_n 0, 1), (.aload_n 1, 1), (.getfield 18, 3), (.putfield 18, 3), (.aload_n 0, 1), (.aload_n 1, 1), (.getfield 21, 3), (.putfield 21, 3)] 16 (by decide +kernel)
theorem dX6_copyFrom_16 : decode cX6_copyFrom 16 = .ok (.aload_n 0, 1) := eX6_copyFrom_16.1
theorem dX6_copyFrom_17 : decode cX6_copyFrom 17 = .ok (.aload_n 1, 1) := eX6_copyFrom_16.2.1
theorem dX6_copyFrom_18 : decode cX6_copyFrom 18 = .ok (.getfield 18, 3) := eX6_copyFrom_16.2.2.1
theorem dX6_copyFrom_21 : decode cX6_copyFrom 21 = .ok (.putfield 18, 3) := eX6_copyFrom_16.2.2.2.1
theorem dX6_copyFrom_24 : decode cX6_copyFrom 24 = .ok (.aload_n 0, 1) := eX6_copyFrom_16.2.2.2.2.1
theorem dX6_copyFrom_25 : decode cX6_copyFrom 25 = .ok (.aload_n 1, 1) := eX6_copyFrom_16.2.2.2.2.2.1
theorem dX6_copyFrom_26 : decode cX6_copyFrom 26 = .ok (.getfield 21, 3) := eX6_copyFrom_16.2.2.2.2.2.2.1
theorem dX6_copyFrom_29 : decode cX6_copyFrom 29 = .ok (.putfield 21, 3) := eX6_copyFrom_16.2.2.2.2.2.2.2.1
theorem eX6_copyFrom_32 : decode cX6_copyFrom 32 = .ok (.aload_n 0, 1) ∧ decode cX6_copyFrom 33 = .ok (.aload_n 1, 1) ∧ decode cX6_copyFrom 34 = .ok (.getfield 24, 3) ∧ decode cX6_copyFrom 37 = .ok (.putfield 24, 3) ∧ decode cX6_copyFrom 40 = .ok (.aload_n 0, 1) ∧ decode cX6_copyFrom 41 = .ok (.getfield 32, 3) ∧ decode cX6_copyFrom 44 = .ok (.aload_n 1, 1) ∧ decode cX6_copyFrom 45 = .ok (.getfield 32, 3) ∧ True := dkl_ok (c := cX6_copyFrom) [(.aload_n 0, 1), (.aload_n 1, 1), (.getfield 24, 3), (.putfield 24, 3), (.aload_n 0, 1), (.getfield 32, 3), (.aload_n 1, 1), (.getfield 32, 3)] 32 (by decide +kernel)
theorem dX6_copyFrom_32 : decode cX6_copyFrom 32 = .ok (.aload_n 0, 1) := eX6_copyFrom_32.1
theorem dX6_copyFrom_33 : decode cX6_copyFrom 33 = .ok (.aload_n 1, 1) := eX6_copyFrom_32.2.1
theorem dX6_copyFrom_34 : decode cX6_copyFrom 34 = .ok (.getfield 24, 3) := eX6_copyFrom_32.2.2.1
theorem dX6_copyFrom_37 : decode cX6_copyFrom 37 = .ok (.putfield 24, 3) := eX6_copyFrom_32.2.2.2.1
theorem dX6_copyFrom_40 : decode cX6_copyFrom 40 = .ok (.aload_n 0, 1) := eX6_copyFrom_32.2.2.2.2.1
theorem dX6_copyFrom_41 : decode cX6_copyFrom 41 = .ok (.getfield 32, 3) := eX6_copyFrom_32.2.2.2.2.2.1
theorem dX6_copyFrom_44 : decode cX6_copyFrom 44 = .ok (.aload_n 1, 1) := eX6_copyFrom_32.2.2.2.2.2.2.1
theorem dX6_copyFrom_45 : decode cX6_copyFrom 45 = .ok (.getfield 32, 3) := eX6_copyFrom_32.2.2.2.2.2.2.2.1
theorem eX6_copyFrom_48 : decode cX6_copyFrom 48 = .ok (.invokevirtual 45, 3) ∧ decode cX6_copyFrom 51 = .ok (.aload_n 0, 1) ∧ decode cX6_copyFrom 52 = .ok (.getfield 36, 3) ∧ decode cX6_copyFrom 55 = .ok (.aload_n 1, 1) ∧ decode cX6_copyFrom 56 = .ok (.getfield 36, 3) ∧ decode cX6_copyFrom 59 = .ok (.invokevirtual 45, 3) ∧ decode cX6_copyFrom 62 = .ok (.aload_n 0, 1) ∧ decode cX6_copyFrom 63 = .ok (.getfield 39, 3) ∧ True := dkl_ok (c := cX6_copyFrom) [(.invokevirtual 45, 3), (.aload_n 0, 1), (.getfield 36, 3), (.aload_n 1, 1), (.getfield 36, 3), (.invokevirtual 45, 3), (.aload_n 0, 1), (.getfield 39, 3)] 48 (by decide +kernel)
theorem dX6_copyFrom_48 : decode cX6_copyFrom 48 = .ok (.invokevirtual 45, 3) := eX6_copyFrom_48.1
theorem dX6_copyFrom_51 : decode cX6_copyFrom 51 = .ok (.aload_n 0, 1) := eX6_copyFrom_48.2.1
theorem dX6_copyFrom_52 : decode cX6_copyFrom 52 = .ok (.getfield 36, 3) := eX6_copyFrom_48.2.2.1
theorem dX6_copyFrom_55 : decode cX6_copyFrom 55 = .ok (.aload_n 1, 1) := eX6_copyFrom_48.2.2.2.1
theorem dX6_copyFrom_56 : decode cX6_copyFrom 56 = .ok (.getfield 36, 3) := eX6_copyFrom_48.2.2.2.2.1
theorem dX6_copyFrom_59 : decode cX6_copyFrom 59 = .ok (.invokevirtual 45, 3) := eX6_copyFrom_48.2.2.2.2.2.1
theorem dX6_copyFrom_62 : decode cX6_copyFrom 62 = .ok (.aload_n 0, 1) := eX6_copyFrom_48.2.2.2.2.2.2.1
theorem dX6_copyFrom_63 : decode cX6_copyFrom 63 = .ok (.getfield 39, 3) := eX6_copyFrom_48.2.2.2.2.2.2.2.1
theorem eX6_copyFrom_66 : decode cX6_copyFrom 66 = .ok (.aload_n 1, 1) ∧ decode cX6_copyFrom 67 = .ok (.getfield 39, 3) ∧ decode cX6_copyFrom 70 = .ok (.invokevirtual 45, 3) ∧ decode cX6_copyFrom 73 = .ok (.return_, 1) ∧ True := dkl_ok (c := cX6_copyFrom) [(.aload_n 1, 1), (.getfield 39, 3), (.invokevirtual 45, 3), (.return_, 1)] 66 (by decide +kernel)
theorem dX6_copyFrom_66 : decode cX6_copyFrom 66 = .ok (.aload_n 1, 1) := eX6_copyFrom_66.1
theorem dX6_copyFrom_67 : decode cX6_copyFrom 67 = .ok (.getfield 39, 3) := eX6_copyFrom_66.2.1
theorem dX6_copyFrom_70 : decode cX6_copyFrom 70 = .ok (.invokevirtual 45, 3) := eX6_copyFrom_66.2.2.1
theorem dX6_copyFrom_73 : decode cX6_copyFrom 73 = .ok (.return_, 1) := eX6_copyFrom_66.2.2.2.1
theorem eX6_playerAfter_0 : decode cX6_playerAfter 0 = .ok (.aload_n 0, 1) ∧ decode cX6_playerAfter 1 = .ok (.getfield 24, 3) ∧ decode cX6_playerAfter 4 = .ok (.ifCond .gt 7, 3) ∧ decode cX6_playerAfter 7 = .ok (.iconst 0, 1) ∧ decode cX6_playerAfter 8 = .ok (.goto 13, 3) ∧ decode cX6_playerAfter 11 = .ok (.iload_n 1, 1) ∧ decode cX6_playerAfter 12 = .ok (.iload_n 2, 1) ∧ decode cX6_playerAfter 13 = .ok (.iadd, 1) ∧ True := dkl_ok (c := cX6_playerAfter) [(.aload_n 0, 1), (.getfield 24, 3), (.ifCond .gt 7, 3), (.iconst 0, 1), (.goto 13, 3), (.iload_n 1, 1), (.iload_n 2, 1), (.iadd, 1)] 0 (by decide +kernel)
theorem dX6_playerAfter_0 : decode cX6_playerAfter 0 = .ok (.aload_n 0, 1) := eX6_playerAfter_0.1
theorem dX6_playerAfter_1 : decode cX6_playerAfter 1 = .ok (.getfield 24, 3) := eX6_playerAfter_0.2.1
theorem dX6_playerAfter_4 : decode cX6_playerAfter 4 = .ok (.ifCond .gt 7, 3) := eX6_playerAfter_0.2.2.1
theorem dX6_playerAfter_7 : decode cX6_playerAfter 7 = .ok (.iconst 0, 1) := eX6_playerAfter_0.2.2.2.1
theorem dX6_playerAfter_8 : decode cX6_playerAfter 8 = .ok (.goto 13, 3) := eX6_playerAfter_0.2.2.2.2.1
theorem dX6_playerAfter_11 : decode cX6_playerAfter 11 = .ok (.iload_n 1, 1) := eX6_playerAfter_0.2.2.2.2.2.1
theorem dX6_playerAfter_12 : decode cX6_playerAfter 12 = .ok (.iload_n 2, 1) := eX6_playerAfter_0.2.2.2.2.2.2.1
theorem dX6_playerAfter_13 : decode cX6_playerAfter 13 = .ok (.iadd, 1) := eX6_playerAfter_0.2.2.2.2.2.2.2.1
theorem eX6_playerAfter_14 : decode cX6_playerAfter 14 = .ok (.aload_n 0, 1) ∧ decode cX6_playerAfter 15 = .ok (.getfield 24, 3) ∧ decode cX6_playerAfter 18 = .ok (.invokestatic 49, 3) ∧ decode cX6_playerAfter 21 = .ok (.ireturn, 1) ∧ True := dkl_ok (c := cX6_playerAfter) [(.aload_n 0, 1), (.getfield 24, 3), (.invokestatic 49, 3), (.ireturn, 1)] 14 (by decide +kernel)
theorem dX6_playerAfter_14 : decode cX6_playerAfter 14 = .ok (.aload_n 0, 1) := eX6_playerAfter_14.1
theorem dX6_playerAfter_15 : decode cX6_playerAfter 15 = .ok (.getfield 24, 3) := eX6_playerAfter_14.2.1
theorem dX6_playerAfter_18 : decode cX6_playerAfter 18 = .ok (.invokestatic 49, 3) := eX6_playerAfter_14.2.2.1
theorem dX6_playerAfter_21 : decode cX6_playerAfter 21 = .ok (.ireturn, 1) := eX6_playerAfter_14.2.2.2.1
theorem eX6_kindAfter_0 : decode cX6_kindAfter 0 = .ok (.aload_n 0, 1) ∧ decode cX6_kindAfter 1 = .ok (.getfield 18, 3) ∧ decode cX6_kindAfter 4 = .ok (.iconst 2, 1) ∧ decode cX6_kindAfter 5 = .ok (.if_icmp .eq 10, 3) ∧ decode cX6_kindAfter 8 = .ok (.aload_n 0, 1) ∧ decode cX6_kindAfter 9 = .ok (.getfield 9, 3) ∧ decode cX6_kindAfter 12 = .ok (.ifCond .gt 5, 3) ∧ decode cX6_kindAfter 15 = .ok (.iload_n 1, 1) ∧ True := dkl_ok (c := cX6_kindAfter) [(.aload_n 0, 1), (.getfield 18, 3), (.iconst 2, 1), (.if_icmp .eq 10, 3), (.aload_n 0, 1), (.getfield 9, 3), (.ifCond .gt 5, 3), (.iload_n 1, 1)] 0 (by decide +kernel)
theorem dX6_kindAfter_0 : decode cX6_kindAfter 0 = .ok (.aload_n 0, 1) := eX6_kindAfter_0.1
theorem dX6_kindAfter_1 : decode cX6_kindAfter 1 = .ok (.getfield 18, 3) := eX6_kindAfter_0.2.1
theorem dX6_kindAfter_4 : decode cX6_kindAfter 4 = .ok (.iconst 2, 1) := eX6_kindAfter_0.2.2.1
theorem dX6_kindAfter_5 : decode cX6_kindAfter 5 = .ok (.if_icmp .eq 10, 3) := eX6_kindAfter_0.2.2.2.1
theorem dX6_kindAfter_8 : decode cX6_kindAfter 8 = .ok (.aload_n 0, 1) := eX6_kindAfter_0.2.2.2.2.1
theorem dX6_kindAfter_9 : decode cX6_kindAfter 9 = .ok (.getfield 9, 3) := eX6_kindAfter_0.2.2.2.2.2.1
theorem dX6_kindAfter_12 : decode cX6_kindAfter 12 = .ok (.ifCond .gt 5, 3) := eX6_kindAfter_0.2.2.2.2.2.2.1
theorem dX6_kindAfter_15 : decode cX6_kindAfter 15 = .ok (.iload_n 1, 1) := eX6_kindAfter_0.2.2.2.2.2.2.2.1
theorem eX6_kindAfter_16 : decode cX6_kindAfter 16 = .ok (.ireturn, 1) ∧ decode cX6_kindAfter 17 = .ok (.aload_n 0, 1) ∧ decode cX6_kindAfter 18 = .ok (.getfield 18, 3) ∧ decode cX6_kindAfter 21 = .ok (.ifCond .ne 9, 3) ∧ decode cX6_kindAfter 24 = .ok (.iload_n 1, 1) ∧ decode cX6_kindAfter 25 = .ok (.iload_n 2, 1) ∧ decode cX6_kindAfter 26 = .ok (.iadd, 1) ∧ decode cX6_kindAfter 27 = .ok (.goto 6, 3) ∧ True := dkl_ok (c := cX6_kindAfter) [(.ireturn, 1), (.aload_n 0, 1), (.getfield 18, 3), (.ifCond .ne 9, 3), (.iload_n 1, 1), (.iload_n 2, 1), (.iadd, 1), (.goto 6, 3)] 16 (by decide +kernel)
theorem dX6_kindAfter_16 : decode cX6_kindAfter 16 = .ok (.ireturn, 1) := eX6_kindAfter_16.1
theorem dX6_kindAfter_17 : decode cX6_kindAfter 17 = .ok (.aload_n 0, 1) := eX6_kindAfter_16.2.1
theorem dX6_kindAfter_18 : decode cX6_kindAfter 18 = .ok (.getfield 18, 3) := eX6_kindAfter_16.2.2.1
theorem dX6_kindAfter_21 : decode cX6_kindAfter 21 = .ok (.ifCond .ne 9, 3) := eX6_kindAfter_16.2.2.2.1
theorem dX6_kindAfter_24 : decode cX6_kindAfter 24 = .ok (.iload_n 1, 1) := eX6_kindAfter_16.2.2.2.2.1
theorem dX6_kindAfter_25 : decode cX6_kindAfter 25 = .ok (.iload_n 2, 1) := eX6_kindAfter_16.2.2.2.2.2.1
theorem dX6_kindAfter_26 : decode cX6_kindAfter 26 = .ok (.iadd, 1) := eX6_kindAfter_16.2.2.2.2.2.2.1
theorem dX6_kindAfter_27 : decode cX6_kindAfter 27 = .ok (.goto 6, 3) := eX6_kindAfter_16.2.2.2.2.2.2.2.1
theorem eX6_kindAfter_30 : decode cX6_kindAfter 30 = .ok (.iload_n 1, 1) ∧ decode cX6_kindAfter 31 = .ok (.iload_n 2, 1) ∧ decode cX6_kindAfter 32 = .ok (.isub, 1) ∧ decode cX6_kindAfter 33 = .ok (.aload_n 0, 1) ∧ decode cX6_kindAfter 34 = .ok (.getfield 9, 3) ∧ decode cX6_kindAfter 37 = .ok (.invokestatic 49, 3) ∧ decode cX6_kindAfter 40 = .ok (.ireturn, 1) ∧ True := dkl_ok (c := cX6_kindAfter) [(.iload_n 1, 1), (.iload_n 2, 1), (.isub, 1), (.aload_n 0, 1), (.getfield 9, 3), (.invokestatic 49, 3), (.ireturn, 1)] 30 (by decide +kernel)
theorem dX6_kindAfter_30 : decode cX6_kindAfter 30 = .ok (.iload_n 1, 1) := eX6_kindAfter_30.1
theorem dX6_kindAfter_31 : decode cX6_kindAfter 31 = .ok (.iload_n 2, 1) := eX6_kindAfter_30.2.1
theorem dX6_kindAfter_32 : decode cX6_kindAfter 32 = .ok (.isub, 1) := eX6_kindAfter_30.2.2.1
theorem dX6_kindAfter_33 : decode cX6_kindAfter 33 = .ok (.aload_n 0, 1) := eX6_kindAfter_30.2.2.2.1
theorem dX6_kindAfter_34 : decode cX6_kindAfter 34 = .ok (.getfield 9, 3) := eX6_kindAfter_30.2.2.2.2.1
theorem dX6_kindAfter_37 : decode cX6_kindAfter 37 = .ok (.invokestatic 49, 3) := eX6_kindAfter_30.2.2.2.2.2.1
theorem dX6_kindAfter_40 : decode cX6_kindAfter 40 = .ok (.ireturn, 1) := eX6_kindAfter_30.2.2.2.2.2.2.1
theorem eX6_kindAfterDoubt_0 : decode cX6_kindAfterDoubt 0 = .ok (.aload_n 0, 1) ∧ decode cX6_kindAfterDoubt 1 = .ok (.getfield 9, 3) ∧ decode cX6_kindAfterDoubt 4 = .ok (.ifCond .gt 7, 3) ∧ decode cX6_kindAfterDoubt 7 = .ok (.iload_n 1, 1) ∧ decode cX6_kindAfterDoubt 8 = .ok (.goto 27, 3) ∧ decode cX6_kindAfterDoubt 11 = .ok (.aload_n 0, 1) ∧ decode cX6_kindAfterDoubt 12 = .ok (.getfield 18, 3) ∧ decode cX6_kindAfterDoubt 15 = .ok (.iconst 1, 1) ∧ True := dkl_ok (c := cX6_kindAfterDoubt) [(.aload_n 0, 1), (.getfield 9, 3), (.ifCond .gt 7, 3), (.iload_n 1, 1), (.goto 27, 3), (.aload_n 0, 1), (.getfield 18, 3), (.iconst 1, 1)] 0 (by decide +kernel)
theorem dX6_kindAfterDoubt_0 : decode cX6_kindAfterDoubt 0 = .ok (.aload_n 0, 1) := eX6_kindAfterDoubt_0.1
theorem dX6_kindAfterDoubt_1 : decode cX6_kindAfterDoubt 1 = .ok (.getfield 9, 3) := eX6_kindAfterDoubt_0.2.1
theorem dX6_kindAfterDoubt_4 : decode cX6_kindAfterDoubt 4 = .ok (.ifCond .gt 7, 3) := eX6_kindAfterDoubt_0.2.2.1
theorem dX6_kindAfterDoubt_7 : decode cX6_kindAfterDoubt 7 = .ok (.iload_n 1, 1) := eX6_kindAfterDoubt_0.2.2.2.1
theorem dX6_kindAfterDoubt_8 : decode cX6_kindAfterDoubt 8 = .ok (.goto 27, 3) := eX6_kindAfterDoubt_0.2.2.2.2.1
theorem dX6_kindAfterDoubt_11 : decode cX6_kindAfterDoubt 11 = .ok (.aload_n 0, 1) := eX6_kindAfterDoubt_0.2.2.2.2.2.1
theorem dX6_kindAfterDoubt_12 : decode cX6_kindAfterDoubt 12 = .ok (.getfield 18, 3) := eX6_kindAfterDoubt_0.2.2.2.2.2.2.1
theorem dX6_kindAfterDoubt_15 : decode cX6_kindAfterDoubt 15 = .ok (.iconst 1, 1) := eX6_kindAfterDoubt_0.2.2.2.2.2.2.2.1
theorem eX6_kindAfterDoubt_16 : decode cX6_kindAfterDoubt 16 = .ok (.if_icmp .ne 9, 3) ∧ decode cX6_kindAfterDoubt 19 = .ok (.iload_n 1, 1) ∧ decode cX6_kindAfterDoubt 20 = .ok (.iconst 1, 1) ∧ decode cX6_kindAfterDoubt 21 = .ok (.isub, 1) ∧ decode cX6_kindAfterDoubt 22 = .ok (.goto 6, 3) ∧ decode cX6_kindAfterDoubt 25 = .ok (.iload_n 1, 1) ∧ decode cX6_kindAfterDoubt 26 = .ok (.iconst 1, 1) ∧ decode cX6_kindAfterDoubt 27 = .ok (.iadd, 1) ∧ True := dkl_ok (c := cX6_kindAfterDoubt) [(.if_icmp .ne 9, 3), (.iload_n 1, 1), (.iconst 1, 1), (.isub, 1), (.goto 6, 3), (.iload_n 1, 1), (.iconst 1, 1), (.iadd, 1)] 16 (by decide +kernel)
theorem dX6_kindAfterDoubt_16 : decode cX6_kindAfterDoubt 16 = .ok (.if_icmp .ne 9, 3) := eX6_kindAfterDoubt_16.1
theorem dX6_kindAfterDoubt_19 : decode cX6_kindAfterDoubt 19 = .ok (.iload_n 1, 1) := eX6_kindAfterDoubt_16.2.1
theorem dX6_kindAfterDoubt_20 : decode cX6_kindAfterDoubt 20 = .ok (.iconst 1, 1) := eX6_kindAfterDoubt_16.2.2.1
theorem dX6_kindAfterDoubt_21 : decode cX6_kindAfterDoubt 21 = .ok (.isub, 1) := eX6_kindAfterDoubt_16.2.2.2.1
theorem dX6_kindAfterDoubt_22 : decode cX6_kindAfterDoubt 22 = .ok (.goto 6, 3) := eX6_kindAfterDoubt_16.2.2.2.2.1
theorem dX6_kindAfterDoubt_25 : decode cX6_kindAfterDoubt 25 = .ok (.iload_n 1, 1) := eX6_kindAfterDoubt_16.2.2.2.2.2.1
theorem dX6_kindAfterDoubt_26 : decode cX6_kindAfterDoubt 26 = .ok (.iconst 1, 1) := eX6_kindAfterDoubt_16.2.2.2.2.2.2.1
theorem dX6_kindAfterDoubt_27 : decode cX6_kindAfterDoubt 27 = .ok (.iadd, 1) := eX6_kindAfterDoubt_16.2.2.2.2.2.2.2.1
theorem eX6_kindAfterDoubt_28 : decode cX6_kindAfterDoubt 28 = .ok (.aload_n 0, 1) ∧ decode cX6_kindAfterDoubt 29 = .ok (.getfield 9, 3) ∧ decode cX6_kindAfterDoubt 32 = .ok (.invokestatic 49, 3) ∧ decode cX6_kindAfterDoubt 35 = .ok (.ireturn, 1) ∧ True := dkl_ok (c := cX6_kindAfterDoubt) [(.aload_n 0, 1), (.getfield 9, 3), (.invokestatic 49, 3), (.ireturn, 1)] 28 (by decide +kernel)
theorem dX6_kindAfterDoubt_28 : decode cX6_kindAfterDoubt 28 = .ok (.aload_n 0, 1) := eX6_kindAfterDoubt_28.1
theorem dX6_kindAfterDoubt_29 : decode cX6_kindAfterDoubt 29 = .ok (.getfield 9, 3) := eX6_kindAfterDoubt_28.2.1
theorem dX6_kindAfterDoubt_32 : decode cX6_kindAfterDoubt 32 = .ok (.invokestatic 49, 3) := eX6_kindAfterDoubt_28.2.2.1
theorem dX6_kindAfterDoubt_35 : decode cX6_kindAfterDoubt 35 = .ok (.ireturn, 1) := eX6_kindAfterDoubt_28.2.2.2.1
theorem eX6_addPlayer_0 : decode cX6_addPlayer 0 = .ok (.aload_n 0, 1) ∧ decode cX6_addPlayer 1 = .ok (.getfield 24, 3) ∧ decode cX6_addPlayer 4 = .ok (.bipush 6, 2) ∧ decode cX6_addPlayer 6 = .ok (.if_icmp .ge 12, 3) ∧ decode cX6_addPlayer 9 = .ok (.aload_n 1, 1) ∧ decode cX6_addPlayer 10 = .ok (.invokevirtual 55, 3) ∧ decode cX6_addPlayer 13 = .ok (.bipush 8, 2) ∧ decode cX6_addPlayer 15 = .ok (.if_icmp .le 4, 3) ∧ True := dkl_ok (c := cX6_addPlayer) [(.aload_n 0, 1), (.getfield 24, 3), (.bipush 6, 2), (.if_icmp .ge 12, 3), (.aload_n 1, 1), (.invokevirtual 55, 3), (.bipush 8, 2), (.if_icmp .le 4, 3)] 0 (by decide +kernel)
theorem dX6_addPlayer_0 : decode cX6_addPlayer 0 = .ok (.aload_n 0, 1) := eX6_addPlayer_0.1
theorem dX6_addPlayer_1 : decode cX6_addPlayer 1 = .ok (.getfield 24, 3) := eX6_addPlayer_0.2.1
theorem dX6_addPlayer_4 : decode cX6_addPlayer 4 = .ok (.bipush 6, 2) := eX6_addPlayer_0.2.2.1
theorem dX6_addPlayer_6 : decode cX6_addPlayer 6 = .ok (.if_icmp .ge 12, 3) := eX6_addPlayer_0.2.2.2.1
theorem dX6_addPlayer_9 : decode cX6_addPlayer 9 = .ok (.aload_n 1, 1) := eX6_addPlayer_0.2.2.2.2.1
theorem dX6_addPlayer_10 : decode cX6_addPlayer 10 = .ok (.invokevirtual 55, 3) := eX6_addPlayer_0.2.2.2.2.2.1
theorem dX6_addPlayer_13 : decode cX6_addPlayer 13 = .ok (.bipush 8, 2) := eX6_addPlayer_0.2.2.2.2.2.2.1
theorem dX6_addPlayer_15 : decode cX6_addPlayer 15 = .ok (.if_icmp .le 4, 3) := eX6_addPlayer_0.2.2.2.2.2.2.2.1
theorem eX6_addPlayer_18 : decode cX6_addPlayer 18 = .ok (.return_, 1) ∧ decode cX6_addPlayer 19 = .ok (.iconst 0, 1) ∧ decode cX6_addPlayer 20 = .ok (.istore_n 2, 1) ∧ decode cX6_addPlayer 21 = .ok (.iload_n 2, 1) ∧ decode cX6_addPlayer 22 = .ok (.aload_n 1, 1) ∧ decode cX6_addPlayer 23 = .ok (.invokevirtual 55, 3) ∧ decode cX6_addPlayer 26 = .ok (.if_icmp .ge 30, 3) ∧ decode cX6_addPlayer 29 = .ok (.aload_n 0, 1) ∧ True := dkl_ok (c := cX6_addPlayer) [(.return_, 1), (.iconst 0, 1), (.istore_n 2, 1), (.iload_n 2, 1), (.aload_n 1, 1), (.invokevirtual 55, 3), (.if_icmp .ge 30, 3), (.aload_n 0, 1)] 18 (by decide +kernel)
theorem dX6_addPlayer_18 : decode cX6_addPlayer 18 = .ok (.return_, 1) := eX6_addPlayer_18.1
theorem dX6_addPlayer_19 : decode cX6_addPlayer 19 = .ok (.iconst 0, 1) := eX6_addPlayer_18.2.1
theorem dX6_addPlayer_20 : decode cX6_addPlayer 20 = .ok (.istore_n 2, 1) := eX6_addPlayer_18.2.2.1
theorem dX6_addPlayer_21 : decode cX6_addPlayer 21 = .ok (.iload_n 2, 1) := eX6_addPlayer_18.2.2.2.1
theorem dX6_addPlayer_22 : decode cX6_addPlayer 22 = .ok (.aload_n 1, 1) := eX6_addPlayer_18.2.2.2.2.1
theorem dX6_addPlayer_23 : decode cX6_addPlayer 23 = .ok (.invokevirtual 55, 3) := eX6_addPlayer_18.2.2.2.2.2.1
theorem dX6_addPlayer_26 : decode cX6_addPlayer 26 = .ok (.if_icmp .ge 30, 3) := eX6_addPlayer_18.2.2.2.2.2.2.1
theorem dX6_addPlayer_29 : decode cX6_addPlayer 29 = .ok (.aload_n 0, 1) := eX6_addPlayer_18.2.2.2.2.2.2.2.1
theorem eX6_addPlayer_30 : decode cX6_addPlayer 30 = .ok (.getfield 36, 3) ∧ decode cX6_addPlayer 33 = .ok (.aload_n 0, 1) ∧ decode cX6_addPlayer 34 = .ok (.getfield 24, 3) ∧ decode cX6_addPlayer 37 = .ok (.bipush 8, 2) ∧ decode cX6_addPlayer 39 = .ok (.imul, 1) ∧ decode cX6_addPlayer 40 = .ok (.iload_n 2, 1) ∧ decode cX6_addPlayer 41 = .ok (.iadd, 1) ∧ decode cX6_addPlayer 42 = .ok (.aload_n 1, 1) ∧ True := dkl_ok (c := cX6_addPlayer) [(.getfield 36, 3), (.aload_n 0, 1), (.getfield 24, 3), (.bipush 8, 2), (.imul, 1), (.iload_n 2, 1), (.iadd, 1), (.aload_n 1, 1)] 30 (by decide +kernel)
theorem dX6_addPlayer_30 : decode cX6_addPlayer 30 = .ok (.getfield 36, 3) := eX6_addPlayer_30.1
theorem dX6_addPlayer_33 : decode cX6_addPlayer 33 = .ok (.aload_n 0, 1) := eX6_addPlayer_30.2.1
theorem dX6_addPlayer_34 : decode cX6_addPlayer 34 = .ok (.getfield 24, 3) := eX6_addPlayer_30.2.2.1
theorem dX6_addPlayer_37 : decode cX6_addPlayer 37 = .ok (.bipush 8, 2) := eX6_addPlayer_30.2.2.2.1
theorem dX6_addPlayer_39 : decode cX6_addPlayer 39 = .ok (.imul, 1) := eX6_addPlayer_30.2.2.2.2.1
theorem dX6_addPlayer_40 : decode cX6_addPlayer 40 = .ok (.iload_n 2, 1) := eX6_addPlayer_30.2.2.2.2.2.1
theorem dX6_addPlayer_41 : decode cX6_addPlayer 41 = .ok (.iadd, 1) := eX6_addPlayer_30.2.2.2.2.2.2.1
theorem dX6_addPlayer_42 : decode cX6_addPlayer 42 = .ok (.aload_n 1, 1) := eX6_addPlayer_30.2.2.2.2.2.2.2.1
theorem eX6_addPlayer_43 : decode cX6_addPlayer 43 = .ok (.iload_n 2, 1) ∧ decode cX6_addPlayer 44 = .ok (.invokevirtual 61, 3) ∧ decode cX6_addPlayer 47 = .ok (.invokevirtual 65, 3) ∧ decode cX6_addPlayer 50 = .ok (.iinc 2 1, 3) ∧ decode cX6_addPlayer 53 = .ok (.goto (-32), 3) ∧ decode cX6_addPlayer 56 = .ok (.aload_n 0, 1) ∧ decode cX6_addPlayer 57 = .ok (.getfield 39, 3) ∧ decode cX6_addPlayer 60 = .ok (.aload_n 0, 1) ∧ True := dkl_ok (c := cX6_addPlayer) [(.iload_n 2, 1), (.invokevirtual 61, 3), (.invokevirtual 65, 3), (.iinc 2 1, 3), (.goto (-32), 3), (.aload_n 0, 1), (.getfield 39, 3), (.aload_n 0, 1)] 43 (by decide +kernel)
theorem dX6_addPlayer_43 : decode cX6_addPlayer 43 = .ok (.iload_n 2, 1) := eX6_addPlayer_43.1
theorem dX6_addPlayer_44 : decode cX6_addPlayer 44 = .ok (.invokevirtual 61, 3) := eX6_addPlayer_43.2.1
theorem dX6_addPlayer_47 : decode cX6_addPlayer 47 = .ok (.invokevirtual 65, 3) := eX6_addPlayer_43.2.2.1
theorem dX6_addPlayer_50 : decode cX6_addPlayer 50 = .ok (.iinc 2 1, 3) := eX6_addPlayer_43.2.2.2.1
theorem dX6_addPlayer_53 : decode cX6_addPlayer 53 = .ok (.goto (-32), 3) := eX6_addPlayer_43.2.2.2.2.1
theorem dX6_addPlayer_56 : decode cX6_addPlayer 56 = .ok (.aload_n 0, 1) := eX6_addPlayer_43.2.2.2.2.2.1
theorem dX6_addPlayer_57 : decode cX6_addPlayer 57 = .ok (.getfield 39, 3) := eX6_addPlayer_43.2.2.2.2.2.2.1
theorem dX6_addPlayer_60 : decode cX6_addPlayer 60 = .ok (.aload_n 0, 1) := eX6_addPlayer_43.2.2.2.2.2.2.2.1
theorem eX6_addPlayer_61 : decode cX6_addPlayer 61 = .ok (.getfield 24, 3) ∧ decode cX6_addPlayer 64 = .ok (.aload_n 1, 1) ∧ decode cX6_addPlayer 65 = .ok (.invokevirtual 55, 3) ∧ decode cX6_addPlayer 68 = .ok (.invokevirtual 65, 3) ∧ decode cX6_addPlayer 71 = .ok (.aload_n 0, 1) ∧ decode cX6_addPlayer 72 = .ok (.dup, 1) ∧ decode cX6_addPlayer 73 = .ok (.getfield 24, 3) ∧ decode cX6_addPlayer 76 = .ok (.iconst 1, 1) ∧ True := dkl_ok (c := cX6_addPlayer) [(.getfield 24, 3), (.aload_n 1, 1), (.invokevirtual 55, 3), (.invokevirtual 65, 3), (.aload_n 0, 1), (.dup, 1), (.getfield 24, 3), (.iconst 1, 1)] 61 (by decide +kernel)
theorem dX6_addPlayer_61 : decode cX6_addPlayer 61 = .ok (.getfield 24, 3) := eX6_addPlayer_61.1
theorem dX6_addPlayer_64 : decode cX6_addPlayer 64 = .ok (.aload_n 1, 1) := eX6_addPlayer_61.2.1
theorem dX6_addPlayer_65 : decode cX6_addPlayer 65 = .ok (.invokevirtual 55, 3) := eX6_addPlayer_61.2.2.1
theorem dX6_addPlayer_68 : decode cX6_addPlayer 68 = .ok (.invokevirtual 65, 3) := eX6_addPlayer_61.2.2.2.1
theorem dX6_addPlayer_71 : decode cX6_addPlayer 71 = .ok (.aload_n 0, 1) := eX6_addPlayer_61.2.2.2.2.1
theorem dX6_addPlayer_72 : decode cX6_addPlayer 72 = .ok (.dup, 1) := eX6_addPlayer_61.2.2.2.2.2.1
theorem dX6_addPlayer_73 : decode cX6_addPlayer 73 = .ok (.getfield 24, 3) := eX6_addPlayer_61.2.2.2.2.2.2.1
theorem dX6_addPlayer_76 : decode cX6_addPlayer 76 = .ok (.iconst 1, 1) := eX6_addPlayer_61.2.2.2.2.2.2.2.1
theorem eX6_addPlayer_77 : decode cX6_addPlayer 77 = .ok (.iadd, 1) ∧ decode cX6_addPlayer 78 = .ok (.putfield 24, 3) ∧ decode cX6_addPlayer 81 = .ok (.return_, 1) ∧ True := dkl_ok (c := cX6_addPlayer) [(.iadd, 1), (.putfield 24, 3), (.return_, 1)] 77 (by decide +kernel)
theorem dX6_addPlayer_77 : decode cX6_addPlayer 77 = .ok (.iadd, 1) := eX6_addPlayer_77.1
theorem dX6_addPlayer_78 : decode cX6_addPlayer 78 = .ok (.putfield 24, 3) := eX6_addPlayer_77.2.1
theorem dX6_addPlayer_81 : decode cX6_addPlayer 81 = .ok (.return_, 1) := eX6_addPlayer_77.2.2.1
theorem eX6_playerNamed_0 : decode cX6_playerNamed 0 = .ok (.iconst 0, 1) ∧ decode cX6_playerNamed 1 = .ok (.istore_n 2, 1) ∧ decode cX6_playerNamed 2 = .ok (.iload_n 2, 1) ∧ decode cX6_playerNamed 3 = .ok (.aload_n 0, 1) ∧ decode cX6_playerNamed 4 = .ok (.getfield 24, 3) ∧ decode cX6_playerNamed 7 = .ok (.if_icmp .ge 20, 3) ∧ decode cX6_playerNamed 10 = .ok (.aload_n 0, 1) ∧ decode cX6_playerNamed 11 = .ok (.iload_n 2, 1) ∧ True := dkl_ok (c := cX6_playerNamed) [(.iconst 0, 1), (.istore_n 2, 1), (.iload_n 2, 1), (.aload_n 0, 1), (.getfield 24, 3), (.if_icmp .ge 20, 3), (.aload_n 0, 1), (.iload_n 2, 1)] 0 (by decide +kernel)
theorem dX6_playerNamed_0 : decode cX6_playerNamed 0 = .ok (.iconst 0, 1) := eX6_playerNamed_0.1
theorem dX6_playerNamed_1 : decode cX6_playerNamed 1 = .ok (.istore_n 2, 1) := eX6_playerNamed_0.2.1
theorem dX6_playerNamed_2 : decode cX6_playerNamed 2 = .ok (.iload_n 2, 1) := eX6_playerNamed_0.2.2.1
theorem dX6_playerNamed_3 : decode cX6_playerNamed 3 = .ok (.aload_n 0, 1) := eX6_playerNamed_0.2.2.2.1
theorem dX6_playerNamed_4 : decode cX6_playerNamed 4 = .ok (.getfield 24, 3) := eX6_playerNamed_0.2.2.2.2.1
theorem dX6_playerNamed_7 : decode cX6_playerNamed 7 = .ok (.if_icmp .ge 20, 3) := eX6_playerNamed_0.2.2.2.2.2.1
theorem dX6_playerNamed_10 : decode cX6_playerNamed 10 = .ok (.aload_n 0, 1) := eX6_playerNamed_0.2.2.2.2.2.2.1
theorem dX6_playerNamed_11 : decode cX6_playerNamed 11 = .ok (.iload_n 2, 1) := eX6_playerNamed_0.2.2.2.2.2.2.2.1
theorem eX6_playerNamed_12 : decode cX6_playerNamed 12 = .ok (.aload_n 1, 1) ∧ decode cX6_playerNamed 13 = .ok (.invokevirtual 69, 3) ∧ decode cX6_playerNamed 16 = .ok (.ifCond .eq 5, 3) ∧ decode cX6_playerNamed 19 = .ok (.iload_n 2, 1) ∧ decode cX6_playerNamed 20 = .ok (.ireturn, 1) ∧ decode cX6_playerNamed 21 = .ok (.iinc 2 1, 3) ∧ decode cX6_playerNamed 24 = .ok (.goto (-22), 3) ∧ decode cX6_playerNamed 27 = .ok (.iconst (-1), 1) ∧ True := dkl_ok (c := cX6_playerNamed) [(.aload_n 1, 1), (.invokevirtual 69, 3), (.ifCond .eq 5, 3), (.iload_n 2, 1), (.ireturn, 1), (.iinc 2 1, 3), (.goto (-22), 3), (.iconst (-1), 1)] 12 (by decide +kernel)
theorem dX6_playerNamed_12 : decode cX6_playerNamed 12 = .ok (.aload_n 1, 1) := eX6_playerNamed_12.1
theorem dX6_playerNamed_13 : decode cX6_playerNamed 13 = .ok (.invokevirtual 69, 3) := eX6_playerNamed_12.2.1
theorem dX6_playerNamed_16 : decode cX6_playerNamed 16 = .ok (.ifCond .eq 5, 3) := eX6_playerNamed_12.2.2.1
theorem dX6_playerNamed_19 : decode cX6_playerNamed 19 = .ok (.iload_n 2, 1) := eX6_playerNamed_12.2.2.2.1
theorem dX6_playerNamed_20 : decode cX6_playerNamed 20 = .ok (.ireturn, 1) := eX6_playerNamed_12.2.2.2.2.1
theorem dX6_playerNamed_21 : decode cX6_playerNamed 21 = .ok (.iinc 2 1, 3) := eX6_playerNamed_12.2.2.2.2.2.1
theorem dX6_playerNamed_24 : decode cX6_playerNamed 24 = .ok (.goto (-22), 3) := eX6_playerNamed_12.2.2.2.2.2.2.1
theorem dX6_playerNamed_27 : decode cX6_playerNamed 27 = .ok (.iconst (-1), 1) := eX6_playerNamed_12.2.2.2.2.2.2.2.1
theorem eX6_playerNamed_28 : decode cX6_playerNamed 28 = .ok (.ireturn, 1) ∧ True := dkl_ok (c := cX6_playerNamed) [(.ireturn, 1)] 28 (by decide +kernel)
theorem dX6_playerNamed_28 : decode cX6_playerNamed 28 = .ok (.ireturn, 1) := eX6_playerNamed_28.1
theorem eX6_isNamed_0 : decode cX6_isNamed 0 = .ok (.aload_n 0, 1) ∧ decode cX6_isNamed 1 = .ok (.getfield 39, 3) ∧ decode cX6_isNamed 4 = .ok (.iload_n 1, 1) ∧ decode cX6_isNamed 5 = .ok (.invokevirtual 73, 3) ∧ decode cX6_isNamed 8 = .ok (.istore_n 3, 1) ∧ decode cX6_isNamed 9 = .ok (.iload_n 3, 1) ∧ decode cX6_isNamed 10 = .ok (.aload_n 2, 1) ∧ decode cX6_isNamed 11 = .ok (.invokevirtual 55, 3) ∧ True := dkl_ok (c := cX6_isNamed) [(.aload_n 0, 1), (.getfield 39, 3), (.iload_n 1, 1), (.invokevirtual 73, 3), (.istore_n 3, 1), (.iload_n 3, 1), (.aload_n 2, 1), (.invokevirtual 55, 3)] 0 (by decide +kernel)
theorem dX6_isNamed_0 : decode cX6_isNamed 0 = .ok (.aload_n 0, 1) := eX6_isNamed_0.1
theorem dX6_isNamed_1 : decode cX6_isNamed 1 = .ok (.getfield 39, 3) := eX6_isNamed_0.2.1
theorem dX6_isNamed_4 : decode cX6_isNamed 4 = .ok (.iload_n 1, 1) := eX6_isNamed_0.2.2.1
theorem dX6_isNamed_5 : decode cX6_isNamed 5 = .ok (.invokevirtual 73, 3) := eX6_isNamed_0.2.2.2.1
theorem dX6_isNamed_8 : decode cX6_isNamed 8 = .ok (.istore_n 3, 1) := eX6_isNamed_0.2.2.2.2.1
theorem dX6_isNamed_9 : decode cX6_isNamed 9 = .ok (.iload_n 3, 1) := eX6_isNamed_0.2.2.2.2.2.1
theorem dX6_isNamed_10 : decode cX6_isNamed 10 = .ok (.aload_n 2, 1) := eX6_isNamed_0.2.2.2.2.2.2.1
theorem dX6_isNamed_11 : decode cX6_isNamed 11 = .ok (.invokevirtual 55, 3) := eX6_isNamed_0.2.2.2.2.2.2.2.1
theorem eX6_isNamed_14 : decode cX6_isNamed 14 = .ok (.if_icmp .eq 5, 3) ∧ decode cX6_isNamed 17 = .ok (.iconst 0, 1) ∧ decode cX6_isNamed 18 = .ok (.ireturn, 1) ∧ decode cX6_isNamed 19 = .ok (.iconst 0, 1) ∧ decode cX6_isNamed 20 = .ok (.istore 4, 2) ∧ decode cX6_isNamed 22 = .ok (.iload 4, 2) ∧ decode cX6_isNamed 24 = .ok (.iload_n 3, 1) ∧ decode cX6_isNamed 25 = .ok (.if_icmp .ge 34, 3) ∧ True := dkl_ok (c := cX6_isNamed) [(.if_icmp .eq 5, 3), (.iconst 0, 1), (.ireturn, 1), (.iconst 0, 1), (.istore 4, 2), (.iload 4, 2), (.iload_n 3, 1), (.if_icmp .ge 34, 3)] 14 (by decide +kernel)
theorem dX6_isNamed_14 : decode cX6_isNamed 14 = .ok (.if_icmp .eq 5, 3) := eX6_isNamed_14.1
theorem dX6_isNamed_17 : decode cX6_isNamed 17 = .ok (.iconst 0, 1) := eX6_isNamed_14.2.1
theorem dX6_isNamed_18 : decode cX6_isNamed 18 = .ok (.ireturn, 1) := eX6_isNamed_14.2.2.1
theorem dX6_isNamed_19 : decode cX6_isNamed 19 = .ok (.iconst 0, 1) := eX6_isNamed_14.2.2.2.1
theorem dX6_isNamed_20 : decode cX6_isNamed 20 = .ok (.istore 4, 2) := eX6_isNamed_14.2.2.2.2.1
theorem dX6_isNamed_22 : decode cX6_isNamed 22 = .ok (.iload 4, 2) := eX6_isNamed_14.2.2.2.2.2.1
theorem dX6_isNamed_24 : decode cX6_isNamed 24 = .ok (.iload_n 3, 1) := eX6_isNamed_14.2.2.2.2.2.2.1
theorem dX6_isNamed_25 : decode cX6_isNamed 25 = .ok (.if_icmp .ge 34, 3) := eX6_isNamed_14.2.2.2.2.2.2.2.1
theorem eX6_isNamed_28 : decode cX6_isNamed 28 = .ok (.aload_n 0, 1) ∧ decode cX6_isNamed 29 = .ok (.getfield 36, 3) ∧ decode cX6_isNamed 32 = .ok (.iload_n 1, 1) ∧ decode cX6_isNamed 33 = .ok (.bipush 8, 2) ∧ decode cX6_isNamed 35 = .ok (.imul, 1) ∧ decode cX6_isNamed 36 = .ok (.iload 4, 2) ∧ decode cX6_isNamed 38 = .ok (.iadd, 1) ∧ decode cX6_isNamed 39 = .ok (.invokevirtual 73, 3) ∧ True := dkl_ok (c := cX6_isNamed) [(.aload_n 0, 1), (.getfield 36, 3), (.iload_n 1, 1), (.bipush 8, 2), (.imul, 1), (.iload 4, 2), (.iadd, 1), (.invokevirtual 73, 3)] 28 (by decide +kernel)
theorem dX6_isNamed_28 : decode cX6_isNamed 28 = .ok (.aload_n 0, 1) := eX6_isNamed_28.1
theorem dX6_isNamed_29 : decode cX6_isNamed 29 = .ok (.getfield 36, 3) := eX6_isNamed_28.2.1
theorem dX6_isNamed_32 : decode cX6_isNamed 32 = .ok (.iload_n 1, 1) := eX6_isNamed_28.2.2.1
theorem dX6_isNamed_33 : decode cX6_isNamed 33 = .ok (.bipush 8, 2) := eX6_isNamed_28.2.2.2.1
theorem dX6_isNamed_35 : decode cX6_isNamed 35 = .ok (.imul, 1) := eX6_isNamed_28.2.2.2.2.1
theorem dX6_isNamed_36 : decode cX6_isNamed 36 = .ok (.iload 4, 2) := eX6_isNamed_28.2.2.2.2.2.1
theorem dX6_isNamed_38 : decode cX6_isNamed 38 = .ok (.iadd, 1) := eX6_isNamed_28.2.2.2.2.2.2.1
theorem dX6_isNamed_39 : decode cX6_isNamed 39 = .ok (.invokevirtual 73, 3) := eX6_isNamed_28.2.2.2.2.2.2.2.1
theorem eX6_isNamed_42 : decode cX6_isNamed 42 = .ok (.aload_n 2, 1) ∧ decode cX6_isNamed 43 = .ok (.iload 4, 2) ∧ decode cX6_isNamed 45 = .ok (.invokevirtual 61, 3) ∧ decode cX6_isNamed 48 = .ok (.if_icmp .eq 5, 3) ∧ decode cX6_isNamed 51 = .ok (.iconst 0, 1) ∧ decode cX6_isNamed 52 = .ok (.ireturn, 1) ∧ decode cX6_isNamed 53 = .ok (.iinc 4 1, 3) ∧ decode cX6_isNamed 56 = .ok (.goto (-34), 3) ∧ True := dkl_ok (c := cX6_isNamed) [(.aload_n 2, 1), (.iload 4, 2), (.invokevirtual 61, 3), (.if_icmp .eq 5, 3), (.iconst 0, 1), (.ireturn, 1), (.iinc 4 1, 3), (.goto (-34), 3)] 42 (by decide +kernel)
theorem dX6_isNamed_42 : decode cX6_isNamed 42 = .ok (.aload_n 2, 1) := eX6_isNamed_42.1
theorem dX6_isNamed_43 : decode cX6_isNamed 43 = .ok (.iload 4, 2) := eX6_isNamed_42.2.1
theorem dX6_isNamed_45 : decode cX6_isNamed 45 = .ok (.invokevirtual 61, 3) := eX6_isNamed_42.2.2.1
theorem dX6_isNamed_48 : decode cX6_isNamed 48 = .ok (.if_icmp .eq 5, 3) := eX6_isNamed_42.2.2.2.1
theorem dX6_isNamed_51 : decode cX6_isNamed 51 = .ok (.iconst 0, 1) := eX6_isNamed_42.2.2.2.2.1
theorem dX6_isNamed_52 : decode cX6_isNamed 52 = .ok (.ireturn, 1) := eX6_isNamed_42.2.2.2.2.2.1
theorem dX6_isNamed_53 : decode cX6_isNamed 53 = .ok (.iinc 4 1, 3) := eX6_isNamed_42.2.2.2.2.2.2.1
theorem dX6_isNamed_56 : decode cX6_isNamed 56 = .ok (.goto (-34), 3) := eX6_isNamed_42.2.2.2.2.2.2.2.1
theorem eX6_isNamed_59 : decode cX6_isNamed 59 = .ok (.iconst 1, 1) ∧ decode cX6_isNamed 60 = .ok (.ireturn, 1) ∧ True := dkl_ok (c := cX6_isNamed) [(.iconst 1, 1), (.ireturn, 1)] 59 (by decide +kernel)
theorem dX6_isNamed_59 : decode cX6_isNamed 59 = .ok (.iconst 1, 1) := eX6_isNamed_59.1
theorem dX6_isNamed_60 : decode cX6_isNamed 60 = .ok (.ireturn, 1) := eX6_isNamed_59.2.1
theorem eX7_init_0 : decode cX7_init 0 = .ok (.aload_n 0, 1) ∧ decode cX7_init 1 = .ok (.invokespecial 3, 3) ∧ decode cX7_init 4 = .ok (.aload_n 0, 1) ∧ decode cX7_init 5 = .ok (.iconst 0, 1) ∧ decode cX7_init 6 = .ok (.putfield 9, 3) ∧ decode cX7_init 9 = .ok (.aload_n 0, 1) ∧ decode cX7_init 10 = .ok (.iconst 0, 1) ∧ decode cX7_init 11 = .ok (.putfield 15, 3) ∧ True := dkl_ok (c := cX7_init) [(.aload_n 0, 1), (.invokespecial 3, 3), (.aload_n 0, 1), (.iconst 0, 1), (.putfield 9, 3), (.aload_n 0, 1), (.iconst 0, 1), (.putfield 15, 3)] 0 (by decide +kernel)
theorem dX7_init_0 : decode cX7_init 0 = .ok (.aload_n 0, 1) := eX7_init_0.1
theorem dX7_init_1 : decode cX7_init 1 = .ok (.invokespecial 3, 3) := eX7_init_0.2.1
theorem dX7_init_4 : decode cX7_init 4 = .ok (.aload_n 0, 1) := eX7_init_0.2.2.1
theorem dX7_init_5 : decode cX7_init 5 = .ok (.iconst 0, 1) := eX7_init_0.2.2.2.1
theorem dX7_init_6 : decode cX7_init 6 = .ok (.putfield 9, 3) := eX7_init_0.2.2.2.2.1
theorem dX7_init_9 : decode cX7_init 9 = .ok (.aload_n 0, 1) := eX7_init_0.2.2.2.2.2.1
theorem dX7_init_10 : decode cX7_init 10 = .ok (.iconst 0, 1) := eX7_init_0.2.2.2.2.2.2.1
theorem dX7_init_11 : decode cX7_init 11 = .ok (.putfield 15, 3) := eX7_init_0.2.2.2.2.2.2.2.1
theorem eX7_init_14 : decode cX7_init 14 = .ok (.aload_n 0, 1) ∧ decode cX7_init 15 = .ok (.iconst 0, 1) ∧ decode cX7_init 16 = .ok (.putfield 18, 3) ∧ decode cX7_init 19 = .ok (.aload_n 0, 1) ∧ decode cX7_init 20 = .ok (.iconst 0, 1) ∧ decode cX7_init 21 = .ok (.putfield 21, 3) ∧ decode cX7_init 24 = .ok (.aload_n 0, 1) ∧ decode cX7_init 25 = .ok (.iconst 0, 1) ∧ True := dkl_ok (c := cX7_init) [(.aload_n 0, 1), (.iconst 0, 1), (.putfield 18, 3), (.aload_n 0, 1), (.iconst 0, 1), (.putfield 21, 3), (.aload_n 0, 1), (.iconst 0, 1)] 14 (by decide +kernel)
theorem dX7_init_14 : decode cX7_init 14 = .ok (.aload_n 0, 1) := eX7_init_14.1
theorem dX7_init_15 : decode cX7_init 15 = .ok (.iconst 0, 1) := eX7_init_14.2.1
theorem dX7_init_16 : decode cX7_init 16 = .ok (.putfield 18, 3) := eX7_init_14.2.2.1
theorem dX7_init_19 : decode cX7_init 19 = .ok (.aload_n 0, 1) := eX7_init_14.2.2.2.1
theorem dX7_init_20 : decode cX7_init 20 = .ok (.iconst 0, 1) := eX7_init_14.2.2.2.2.1
theorem dX7_init_21 : decode cX7_init 21 = .ok (.putfield 21, 3) := eX7_init_14.2.2.2.2.2.1
theorem dX7_init_24 : decode cX7_init 24 = .ok (.aload_n 0, 1) := eX7_init_14.2.2.2.2.2.2.1
theorem dX7_init_25 : decode cX7_init 25 = .ok (.iconst 0, 1) := eX7_init_14.2.2.2.2.2.2.2.1
theorem eX7_init_26 : decode cX7_init 26 = .ok (.putfield 24, 3) ∧ decode cX7_init 29 = .ok (.aload_n 0, 1) ∧ decode cX7_init 30 = .ok (.iconst 0, 1) ∧ decode cX7_init 31 = .ok (.putfield 27, 3) ∧ decode cX7_init 34 = .ok (.aload_n 0, 1) ∧ decode cX7_init 35 = .ok (.iconst 0, 1) ∧ decode cX7_init 36 = .ok (.putfield 31, 3) ∧ decode cX7_init 39 = .ok (.aload_n 0, 1) ∧ True := dkl_ok (c := cX7_init) [(.putfield 24, 3), (.aload_n 0, 1), (.iconst 0, 1), (.putfield 27, 3), (.aload_n 0, 1), (.iconst 0, 1), (.putfield 31, 3), (.aload_n 0, 1)] 26 (by decide +kernel)
theorem dX7_init_26 : decode cX7_init 26 = .ok (.putfield 24, 3) := eX7_init_26.1
theorem dX7_init_29 : decode cX7_init 29 = .ok (.aload_n 0, 1) := eX7_init_26.2.1
theorem dX7_init_30 : decode cX7_init 30 = .ok (.iconst 0, 1) := eX7_init_26.2.2.1
theorem dX7_init_31 : decode cX7_init 31 = .ok (.putfield 27, 3) := eX7_init_26.2.2.2.1
theorem dX7_init_34 : decode cX7_init 34 = .ok (.aload_n 0, 1) := eX7_init_26.2.2.2.2.1
theorem dX7_init_35 : decode cX7_init 35 = .ok (.iconst 0, 1) := eX7_init_26.2.2.2.2.2.1
theorem dX7_init_36 : decode cX7_init 36 = .ok (.putfield 31, 3) := eX7_init_26.2.2.2.2.2.2.1
theorem dX7_init_39 : decode cX7_init 39 = .ok (.aload_n 0, 1) := eX7_init_26.2.2.2.2.2.2.2.1
theorem eX7_init_40 : decode cX7_init 40 = .ok (.new 34, 3) ∧ decode cX7_init 43 = .ok (.dup, 1) ∧ decode cX7_init 44 = .ok (.bipush 60, 2) ∧ decode cX7_init 46 = .ok (.invokespecial 38, 3) ∧ decode cX7_init 49 = .ok (.putfield 41, 3) ∧ decode cX7_init 52 = .ok (.return_, 1) ∧ True := dkl_ok (c := cX7_init) [(.new 34, 3), (.dup, 1), (.bipush 60, 2), (.invokespecial 38, 3), (.putfield 41, 3), (.return_, 1)] 40 (by decide +kernel)
theorem dX7_init_40 : decode cX7_init 40 = .ok (.new 34, 3) := eX7_init_40.1
theorem dX7_init_43 : decode cX7_init 43 = .ok (.dup, 1) := eX7_init_40.2.1
theorem dX7_init_44 : decode cX7_init 44 = .ok (.bipush 60, 2) := eX7_init_40.2.2.1
theorem dX7_init_46 : decode cX7_init 46 = .ok (.invokespecial 38, 3) := eX7_init_40.2.2.2.1
theorem dX7_init_49 : decode cX7_init 49 = .ok (.putfield 41, 3) := eX7_init_40.2.2.2.2.1
theorem dX7_init_52 : decode cX7_init 52 = .ok (.return_, 1) := eX7_init_40.2.2.2.2.2.1
theorem eX7_go_0 : decode cX7_go 0 = .ok (.aload_n 0, 1) ∧ decode cX7_go 1 = .ok (.iconst 0, 1) ∧ decode cX7_go 2 = .ok (.putfield 9, 3) ∧ decode cX7_go 5 = .ok (.aload_n 0, 1) ∧ decode cX7_go 6 = .ok (.iconst 0, 1) ∧ decode cX7_go 7 = .ok (.putfield 15, 3) ∧ decode cX7_go 10 = .ok (.aload_n 0, 1) ∧ decode cX7_go 11 = .ok (.iconst 0, 1) ∧ True := dkl_ok (c := cX7_go) [(.aload_n 0, 1), (.iconst 0, 1), (.putfield 9, 3), (.aload_n 0, 1), (.iconst 0, 1), (.putfield 15, 3), (.aload_n 0, 1), (.iconst 0, 1)] 0 (by decide +kernel)
theorem dX7_go_0 : decode cX7_go 0 = .ok (.aload_n 0, 1) := eX7_go_0.1
theorem dX7_go_1 : decode cX7_go 1 = .ok (.iconst 0, 1) := eX7_go_0.2.1
theorem dX7_go_2 : decode cX7_go 2 = .ok (.putfield 9, 3) := eX7_go_0.2.2.1
theorem dX7_go_5 : decode cX7_go 5 = .ok (.aload_n 0, 1) := eX7_go_0.2.2.2.1
theorem dX7_go_6 : decode cX7_go 6 = .ok (.iconst 0, 1) := eX7_go_0.2.2.2.2.1
theorem dX7_go_7 : decode cX7_go 7 = .ok (.putfield 15, 3) := eX7_go_0.2.2.2.2.2.1
theorem dX7_go_10 : decode cX7_go 10 = .ok (.aload_n 0, 1) := eX7_go_0.2.2.2.2.2.2.1
theorem dX7_go_11 : decode cX7_go 11 = .ok (.iconst 0, 1) := eX7_go_0.2.2.2.2.2.2.2.1
theorem eX7_go_12 : decode cX7_go 12 = .ok (.putfield 18, 3) ∧ decode cX7_go 15 = .ok (.aload_n 0, 1) ∧ decode cX7_go 16 = .ok (.iconst 0, 1) ∧ decode cX7_go 17 = .ok (.putfield 21, 3) ∧ decode cX7_go 20 = .ok (.aload_n 0, 1) ∧ decode cX7_go 21 = .ok (.iconst 0, 1) ∧ decode cX7_go 22 = .ok (.putfield 24, 3) ∧ decode cX7_go 25 = .ok (.aload_n 0, 1) ∧ True := dkl_ok (c := cX7_go) [(.putfield 18, 3), (.aload_n 0, 1), (.iconst 0, 1), (.putfield 21, 3), (.aload_n 0, 1), (.iconst 0, 1), (.putfield 24, 3), (.aload_n 0, 1)] 12 (by decide +kernel)
theorem dX7_go_12 : decode cX7_go 12 = .ok (.putfield 18, 3) := eX7_go_12.1
theorem dX7_go_15 : decode cX7_go 15 = .ok (.aload_n 0, 1) := eX7_go_12.2.1
theorem dX7_go_16 : decode cX7_go 16 = .ok (.iconst 0, 1) := eX7_go_12.2.2.1
theorem dX7_go_17 : decode cX7_go 17 = .ok (.putfield 21, 3) := eX7_go_12.2.2.2.1
theorem dX7_go_20 : decode cX7_go 20 = .ok (.aload_n 0, 1) := eX7_go_12.2.2.2.2.1
theorem dX7_go_21 : decode cX7_go 21 = .ok (.iconst 0, 1) := eX7_go_12.2.2.2.2.2.1
theorem dX7_go_22 : decode cX7_go 22 = .ok (.putfield 24, 3) := eX7_go_12.2.2.2.2.2.2.1
theorem dX7_go_25 : decode cX7_go 25 = .ok (.aload_n 0, 1) := eX7_go_12.2.2.2.2.2.2.2.1
theorem eX7_go_26 : decode cX7_go 26 = .ok (.iconst 0, 1) ∧ decode cX7_go 27 = .ok (.putfield 27, 3) ∧ decode cX7_go 30 = .ok (.aload_n 0, 1) ∧ decode cX7_go 31 = .ok (.iload_n 2, 1) ∧ decode cX7_go 32 = .ok (.putfield 31, 3) ∧ decode cX7_go 35 = .ok (.aload_n 1, 1) ∧ decode cX7_go 36 = .ok (.getfield 45, 3) ∧ decode cX7_go 39 = .ok (.astore_n 3, 1) ∧ True := dkl_ok (c := cX7_go) [(.iconst 0, 1), (.putfield 27, 3), (.aload_n 0, 1), (.iload_n 2, 1), (.putfield 31, 3), (.aload_n 1, 1), (.getfield 45, 3), (.astore_n 3, 1)] 26 (by decide +kernel)
theorem dX7_go_26 : decode cX7_go 26 = .ok (.iconst 0, 1) := eX7_go_26.1
theorem dX7_go_27 : decode cX7_go 27 = .ok (.putfield 27, 3) := eX7_go_26.2.1
theorem dX7_go_30 : decode cX7_go 30 = .ok (.aload_n 0, 1) := eX7_go_26.2.2.1
theorem dX7_go_31 : decode cX7_go 31 = .ok (.iload_n 2, 1) := eX7_go_26.2.2.2.1
theorem dX7_go_32 : decode cX7_go 32 = .ok (.putfield 31, 3) := eX7_go_26.2.2.2.2.1
theorem dX7_go_35 : decode cX7_go 35 = .ok (.aload_n 1, 1) := eX7_go_26.2.2.2.2.2.1
theorem dX7_go_36 : decode cX7_go 36 = .ok (.getfield 45, 3) := eX7_go_26.2.2.2.2.2.2.1
theorem dX7_go_39 : decode cX7_go 39 = .ok (.astore_n 3, 1) := eX7_go_26.2.2.2.2.2.2.2.1
theorem eX7_go_40 : decode cX7_go 40 = .ok (.iconst 0, 1) ∧ decode cX7_go 41 = .ok (.istore 4, 2) ∧ decode cX7_go 43 = .ok (.iconst 0, 1) ∧ decode cX7_go 44 = .ok (.istore 5, 2) ∧ decode cX7_go 46 = .ok (.iload 5, 2) ∧ decode cX7_go 48 = .ok (.ldc 51, 2) ∧ decode cX7_go 50 = .ok (.if_icmp .ge 88, 3) ∧ decode cX7_go 53 = .ok (.iload 4, 2) ∧ True := dkl_ok (c := cX7_go) [(.iconst 0, 1), (.istore 4, 2), (.iconst 0, 1), (.istore 5, 2), (.iload 5, 2), (.ldc 51, 2), (.if_icmp .ge 88, 3), (.iload 4, 2)] 40 (by decide +kernel)
theorem dX7_go_40 : decode cX7_go 40 = .ok (.iconst 0, 1) := eX7_go_40.1
theorem dX7_go_41 : decode cX7_go 41 = .ok (.istore 4, 2) := eX7_go_40.2.1
theorem dX7_go_43 : decode cX7_go 43 = .ok (.iconst 0, 1) := eX7_go_40.2.2.1
theorem dX7_go_44 : decode cX7_go 44 = .ok (.istore 5, 2) := eX7_go_40.2.2.2.1
theorem dX7_go_46 : decode cX7_go 46 = .ok (.iload 5, 2) := eX7_go_40.2.2.2.2.1
theorem dX7_go_48 : decode cX7_go 48 = .ok (.ldc 51, 2) := eX7_go_40.2.2.2.2.2.1
theorem dX7_go_50 : decode cX7_go 50 = .ok (.if_icmp .ge 88, 3) := eX7_go_40.2.2.2.2.2.2.1
theorem dX7_go_53 : decode cX7_go 53 = .ok (.iload 4, 2) := eX7_go_40.2.2.2.2.2.2.2.1
theorem eX7_go_55 : decode cX7_go 55 = .ok (.aload_n 3, 1) ∧ decode cX7_go 56 = .ok (.getfield 52, 3) ∧ decode cX7_go 59 = .ok (.if_icmp .ge 79, 3) ∧ decode cX7_go 62 = .ok (.aload_n 0, 1) ∧ decode cX7_go 63 = .ok (.getfield 27, 3) ∧ decode cX7_go 66 = .ok (.ifCond .ne 72, 3) ∧ decode cX7_go 69 = .ok (.aload_n 3, 1) ∧ decode cX7_go 70 = .ok (.getfield 55, 3) ∧ True := dkl_ok (c := cX7_go) [(.aload_n 3, 1), (.getfield 52, 3), (.if_icmp .ge 79, 3), (.aload_n 0, 1), (.getfield 27, 3), (.ifCond .ne 72, 3), (.aload_n 3, 1), (.getfield 55, 3)] 55 (by decide +kernel)
theorem dX7_go_55 : decode cX7_go 55 = .ok (.aload_n 3, 1) := eX7_go_55.1
theorem dX7_go_56 : decode cX7_go 56 = .ok (.getfield 52, 3) := eX7_go_55.2.1
theorem dX7_go_59 : decode cX7_go 59 = .ok (.if_icmp .ge 79, 3) := eX7_go_55.2.2.1
theorem dX7_go_62 : decode cX7_go 62 = .ok (.aload_n 0, 1) := eX7_go_55.2.2.2.1
theorem dX7_go_63 : decode cX7_go 63 = .ok (.getfield 27, 3) := eX7_go_55.2.2.2.2.1
theorem dX7_go_66 : decode cX7_go 66 = .ok (.ifCond .ne 72, 3) := eX7_go_55.2.2.2.2.2.1
theorem dX7_go_69 : decode cX7_go 69 = .ok (.aload_n 3, 1) := eX7_go_55.2.2.2.2.2.2.1
theorem dX7_go_70 : decode cX7_go 70 = .ok (.getfield 55, 3) := eX7_go_55.2.2.2.2.2.2.2.1
theorem eX7_go_73 : decode cX7_go 73 = .ok (.iload 4, 2) ∧ decode cX7_go 75 = .ok (.invokevirtual 58, 3) ∧ decode cX7_go 78 = .ok (.bipush 9, 2) ∧ decode cX7_go 80 = .ok (.if_icmp .ne 15, 3) ∧ decode cX7_go 83 = .ok (.aload_n 0, 1) ∧ decode cX7_go 84 = .ok (.aload_n 3, 1) ∧ decode cX7_go 85 = .ok (.iload 4, 2) ∧ decode cX7_go 87 = .ok (.invokevirtual 62, 3) ∧ True := dkl_ok (c := cX7_go) [(.iload 4, 2), (.invokevirtual 58, 3), (.bipush 9, 2), (.if_icmp .ne 15, 3), (.aload_n 0, 1), (.aload_n 3, 1), (.iload 4, 2), (.invokevirtual 62, 3)] 73 (by decide +kernel)
theorem dX7_go_73 : decode cX7_go 73 = .ok (.iload 4, 2) := eX7_go_73.1
theorem dX7_go_75 : decode cX7_go 75 = .ok (.invokevirtual 58, 3) := eX7_go_73.2.1
theorem dX7_go_78 : decode cX7_go 78 = .ok (.bipush 9, 2) := eX7_go_73.2.2.1
theorem dX7_go_80 : decode cX7_go 80 = .ok (.if_icmp .ne 15, 3) := eX7_go_73.2.2.2.1
theorem dX7_go_83 : decode cX7_go 83 = .ok (.aload_n 0, 1) := eX7_go_73.2.2.2.2.1
theorem dX7_go_84 : decode cX7_go 84 = .ok (.aload_n 3, 1) := eX7_go_73.2.2.2.2.2.1
theorem dX7_go_85 : decode cX7_go 85 = .ok (.iload 4, 2) := eX7_go_73.2.2.2.2.2.2.1
theorem dX7_go_87 : decode cX7_go 87 = .ok (.invokevirtual 62, 3) := eX7_go_73.2.2.2.2.2.2.2.1
theorem eX7_go_90 : decode cX7_go 90 = .ok (.istore 4, 2) ∧ decode cX7_go 92 = .ok (.goto 40, 3) ∧ decode cX7_go 95 = .ok (.aload_n 0, 1) ∧ decode cX7_go 96 = .ok (.getfield 9, 3) ∧ decode cX7_go 99 = .ok (.sipush 300, 3) ∧ decode cX7_go 102 = .ok (.if_icmp .ne 11, 3) ∧ decode cX7_go 105 = .ok (.aload_n 0, 1) ∧ decode cX7_go 106 = .ok (.iconst 1, 1) ∧ True := dkl_ok (c := cX7_go) [(.istore 4, 2), (.goto 40, 3), (.aload_n 0, 1), (.getfield 9, 3), (.sipush 300, 3), (.if_icmp .ne 11, 3), (.aload_n 0, 1), (.iconst 1, 1)] 90 (by decide +kernel)
theorem dX7_go_90 : decode cX7_go 90 = .ok (.istore 4, 2) := eX7_go_90.1
theorem dX7_go_92 : decode cX7_go 92 = .ok (.goto 40, 3) := eX7_go_90.2.1
theorem dX7_go_95 : decode cX7_go 95 = .ok (.aload_n 0, 1) := eX7_go_90.2.2.1
theorem dX7_go_96 : decode cX7_go 96 = .ok (.getfield 9, 3) := eX7_go_90.2.2.2.1
theorem dX7_go_99 : decode cX7_go 99 = .ok (.sipush 300, 3) := eX7_go_90.2.2.2.2.1
theorem dX7_go_102 : decode cX7_go 102 = .ok (.if_icmp .ne 11, 3) := eX7_go_90.2.2.2.2.2.1
theorem dX7_go_105 : decode cX7_go 105 = .ok (.aload_n 0, 1) := eX7_go_90.2.2.2.2.2.2.1
theorem dX7_go_106 : decode cX7_go 106 = .ok (.iconst 1, 1) := eX7_go_90.2.2.2.2.2.2.2.1
theorem eX7_go_107 : decode cX7_go 107 = .ok (.putfield 27, 3) ∧ decode cX7_go 110 = .ok (.goto 22, 3) ∧ decode cX7_go 113 = .ok (.aload_n 0, 1) ∧ decode cX7_go 114 = .ok (.dup, 1) ∧ decode cX7_go 115 = .ok (.getfield 9, 3) ∧ decode cX7_go 118 = .ok (.iconst 1, 1) ∧ decode cX7_go 119 = .ok (.iadd, 1) ∧ decode cX7_go 120 = .ok (.putfield 9, 3) ∧ True := dkl_ok (c := cX7_go) [(.putfield 27, 3), (.goto 22, 3), (.aload_n 0, 1), (.dup, 1), (.getfield 9, 3), (.iconst 1, 1), (.iadd, 1), (.putfield 9, 3)] 107 (by decide +kernel)
theorem dX7_go_107 : decode cX7_go 107 = .ok (.putfield 27, 3) := eX7_go_107.1
theorem dX7_go_110 : decode cX7_go 110 = .ok (.goto 22, 3) := eX7_go_107.2.1
theorem dX7_go_113 : decode cX7_go 113 = .ok (.aload_n 0, 1) := eX7_go_107.2.2.1
theorem dX7_go_114 : decode cX7_go 114 = .ok (.dup, 1) := eX7_go_107.2.2.2.1
theorem dX7_go_115 : decode cX7_go 115 = .ok (.getfield 9, 3) := eX7_go_107.2.2.2.2.1
theorem dX7_go_118 : decode cX7_go 118 = .ok (.iconst 1, 1) := eX7_go_107.2.2.2.2.2.1
theorem dX7_go_119 : decode cX7_go 119 = .ok (.iadd, 1) := eX7_go_107.2.2.2.2.2.2.1
theorem dX7_go_120 : decode cX7_go 120 = .ok (.putfield 9, 3) := eX7_go_107.2.2.2.2.2.2.2.1
theorem eX7_go_123 : decode cX7_go 123 = .ok (.aload_n 0, 1) ∧ decode cX7_go 124 = .ok (.aload_n 1, 1) ∧ decode cX7_go 125 = .ok (.iload 4, 2) ∧ decode cX7_go 127 = .ok (.invokevirtual 66, 3) ∧ decode cX7_go 130 = .ok (.istore 4, 2) ∧ decode cX7_go 132 = .ok (.iinc 5 1, 3) ∧ decode cX7_go 135 = .ok (.goto (-89), 3) ∧ decode cX7_go 138 = .ok (.return_, 1) ∧ True := dkl_ok (c := cX7_go) [(.aload_n 0, 1), (.aload_n 1, 1), (.iload 4, 2), (.invokevirtual 66, 3), (.istore 4, 2), (.iinc 5 1, 3), (.goto (-89), 3), (.return_, 1)] 123 (by decide +kernel)
theorem dX7_go_123 : decode cX7_go 123 = .ok (.aload_n 0, 1) := eX7_go_123.1
theorem dX7_go_124 : decode cX7_go 124 = .ok (.aload_n 1, 1) := eX7_go_123.2.1
theorem dX7_go_125 : decode cX7_go 125 = .ok (.iload 4, 2) := eX7_go_123.2.2.1
theorem dX7_go_127 : decode cX7_go 127 = .ok (.invokevirtual 66, 3) := eX7_go_123.2.2.2.1
theorem dX7_go_130 : decode cX7_go 130 = .ok (.istore 4, 2) := eX7_go_123.2.2.2.2.1
theorem dX7_go_132 : decode cX7_go 132 = .ok (.iinc 5 1, 3) := eX7_go_123.2.2.2.2.2.1
theorem dX7_go_135 : decode cX7_go 135 = .ok (.goto (-89), 3) := eX7_go_123.2.2.2.2.2.2.1
theorem dX7_go_138 : decode cX7_go 138 = .ok (.return_, 1) := eX7_go_123.2.2.2.2.2.2.2.1
theorem eX7_behindEnd_0 : decode cX7_behindEnd 0 = .ok (.aload_n 1, 1) ∧ decode cX7_behindEnd 1 = .ok (.getfield 70, 3) ∧ decode cX7_behindEnd 4 = .ok (.iload_n 2, 1) ∧ decode cX7_behindEnd 5 = .ok (.invokevirtual 58, 3) ∧ decode cX7_behindEnd 8 = .ok (.istore_n 3, 1) ∧ decode cX7_behindEnd 9 = .ok (.aload_n 1, 1) ∧ decode cX7_behindEnd 10 = .ok (.getfield 55, 3) ∧ decode cX7_behindEnd 13 = .ok (.iload_n 3, 1) ∧ True := dkl_ok (c := cX7_behindEnd) [(.aload_n 1, 1), (.getfield 70, 3), (.iload_n 2, 1), (.invokevirtual 58, 3), (.istore_n 3, 1), (.aload_n 1, 1), (.getfield 55, 3), (.iload_n 3, 1)] 0 (by decide +kernel)
theorem dX7_behindEnd_0 : decode cX7_behindEnd 0 = .ok (.aload_n 1, 1) := eX7_behindEnd_0.1
theorem dX7_behindEnd_1 : decode cX7_behindEnd 1 = .ok (.getfield 70, 3) := eX7_behindEnd_0.2.1
theorem dX7_behindEnd_4 : decode cX7_behindEnd 4 = .ok (.iload_n 2, 1) := eX7_behindEnd_0.2.2.1
theorem dX7_behindEnd_5 : decode cX7_behindEnd 5 = .ok (.invokevirtual 58, 3) := eX7_behindEnd_0.2.2.2.1
theorem dX7_behindEnd_8 : decode cX7_behindEnd 8 = .ok (.istore_n 3, 1) := eX7_behindEnd_0.2.2.2.2.1
theorem dX7_behindEnd_9 : decode cX7_behindEnd 9 = .ok (.aload_n 1, 1) := eX7_behindEnd_0.2.2.2.2.2.1
theorem dX7_behindEnd_10 : decode cX7_behindEnd 10 = .ok (.getfield 55, 3) := eX7_behindEnd_0.2.2.2.2.2.2.1
theorem dX7_behindEnd_13 : decode cX7_behindEnd 13 = .ok (.iload_n 3, 1) := eX7_behindEnd_0.2.2.2.2.2.2.2.1
theorem eX7_behindEnd_14 : decode cX7_behindEnd 14 = .ok (.invokevirtual 58, 3) ∧ decode cX7_behindEnd 17 = .ok (.iconst 4, 1) ∧ decode cX7_behindEnd 18 = .ok (.if_icmp .ne 27, 3) ∧ decode cX7_behindEnd 21 = .ok (.aload_n 0, 1) ∧ decode cX7_behindEnd 22 = .ok (.getfield 41, 3) ∧ decode cX7_behindEnd 25 = .ok (.iload_n 3, 1) ∧ decode cX7_behindEnd 26 = .ok (.iconst (-1), 1) ∧ decode cX7_behindEnd 27 = .ok (.invokevirtual 73, 3) ∧ True := dkl_ok (c := cX7_behindEnd) [(.invokevirtual 58, 3), (.iconst 4, 1), (.if_icmp .ne 27, 3), (.aload_n 0, 1), (.getfield 41, 3), (.iload_n 3, 1), (.iconst (-1), 1), (.invokevirtual 73, 3)] 14 (by decide +kernel)
theorem dX7_behindEnd_14 : decode cX7_behindEnd 14 = .ok (.invokevirtual 58, 3) := eX7_behindEnd_14.1
theorem dX7_behindEnd_17 : decode cX7_behindEnd 17 = .ok (.iconst 4, 1) := eX7_behindEnd_14.2.1
theorem dX7_behindEnd_18 : decode cX7_behindEnd 18 = .ok (.if_icmp .ne 27, 3) := eX7_behindEnd_14.2.2.1
theorem dX7_behindEnd_21 : decode cX7_behindEnd 21 = .ok (.aload_n 0, 1) := eX7_behindEnd_14.2.2.2.1
theorem dX7_behindEnd_22 : decode cX7_behindEnd 22 = .ok (.getfield 41, 3) := eX7_behindEnd_14.2.2.2.2.1
theorem dX7_behindEnd_25 : decode cX7_behindEnd 25 = .ok (.iload_n 3, 1) := eX7_behindEnd_14.2.2.2.2.2.1
theorem dX7_behindEnd_26 : decode cX7_behindEnd 26 = .ok (.iconst (-1), 1) := eX7_behindEnd_14.2.2.2.2.2.2.1
theorem dX7_behindEnd_27 : decode cX7_behindEnd 27 = .ok (.invokevirtual 73, 3) := eX7_behindEnd_14.2.2.2.2.2.2.2.1
theorem eX7_behindEnd_30 : decode cX7_behindEnd 30 = .ok (.aload_n 0, 1) ∧ decode cX7_behindEnd 31 = .ok (.getfield 41, 3) ∧ decode cX7_behindEnd 34 = .ok (.iload_n 3, 1) ∧ decode cX7_behindEnd 35 = .ok (.invokevirtual 58, 3) ∧ decode cX7_behindEnd 38 = .ok (.ifCond .le 7, 3) ∧ decode cX7_behindEnd 41 = .ok (.iload_n 3, 1) ∧ decode cX7_behindEnd 42 = .ok (.iconst 1, 1) ∧ decode cX7_behindEnd 43 = .ok (.iadd, 1) ∧ True := dkl_ok (c := cX7_behindEnd) [(.aload_n 0, 1), (.getfield 41, 3), (.iload_n 3, 1), (.invokevirtual 58, 3), (.ifCond .le 7, 3), (.iload_n 3, 1), (.iconst 1, 1), (.iadd, 1)] 30 (by decide +kernel)
theorem dX7_behindEnd_30 : decode cX7_behindEnd 30 = .ok (.aload_n 0, 1) := eX7_behindEnd_30.1
theorem dX7_behindEnd_31 : decode cX7_behindEnd 31 = .ok (.getfield 41, 3) := eX7_behindEnd_30.2.1
theorem dX7_behindEnd_34 : decode cX7_behindEnd 34 = .ok (.iload_n 3, 1) := eX7_behindEnd_30.2.2.1
theorem dX7_behindEnd_35 : decode cX7_behindEnd 35 = .ok (.invokevirtual 58, 3) := eX7_behindEnd_30.2.2.2.1
theorem dX7_behindEnd_38 : decode cX7_behindEnd 38 = .ok (.ifCond .le 7, 3) := eX7_behindEnd_30.2.2.2.2.1
theorem dX7_behindEnd_41 : decode cX7_behindEnd 41 = .ok (.iload_n 3, 1) := eX7_behindEnd_30.2.2.2.2.2.1
theorem dX7_behindEnd_42 : decode cX7_behindEnd 42 = .ok (.iconst 1, 1) := eX7_behindEnd_30.2.2.2.2.2.2.1
theorem dX7_behindEnd_43 : decode cX7_behindEnd 43 = .ok (.iadd, 1) := eX7_behindEnd_30.2.2.2.2.2.2.2.1
theorem eX7_behindEnd_44 : decode cX7_behindEnd 44 = .ok (.ireturn, 1) ∧ decode cX7_behindEnd 45 = .ok (.iload_n 2, 1) ∧ decode cX7_behindEnd 46 = .ok (.iconst 1, 1) ∧ decode cX7_behindEnd 47 = .ok (.iadd, 1) ∧ decode cX7_behindEnd 48 = .ok (.ireturn, 1) ∧ True := dkl_ok (c := cX7_behindEnd) [(.ireturn, 1), (.iload_n 2, 1), (.iconst 1, 1), (.iadd, 1), (.ireturn, 1)] 44 (by decide +kernel)
theorem dX7_behindEnd_44 : decode cX7_behindEnd 44 = .ok (.ireturn, 1) := eX7_behindEnd_44.1
theorem dX7_behindEnd_45 : decode cX7_behindEnd 45 = .ok (.iload_n 2, 1) := eX7_behindEnd_44.2.1
theorem dX7_behindEnd_46 : decode cX7_behindEnd 46 = .ok (.iconst 1, 1) := eX7_behindEnd_44.2.2.1
theorem dX7_behindEnd_47 : decode cX7_behindEnd 47 = .ok (.iadd, 1) := eX7_behindEnd_44.2.2.2.1
theorem dX7_behindEnd_48 : decode cX7_behindEnd 48 = .ok (.ireturn, 1) := eX7_behindEnd_44.2.2.2.2.1
theorem eX7_behindStep_0 : decode cX7_behindStep 0 = .ok (.aload_n 1, 1) ∧ decode cX7_behindStep 1 = .ok (.getfield 45, 3) ∧ decode cX7_behindStep 4 = .ok (.astore_n 3, 1) ∧ decode cX7_behindStep 5 = .ok (.aload_n 1, 1) ∧ decode cX7_behindStep 6 = .ok (.getfield 77, 3) ∧ decode cX7_behindStep 9 = .ok (.astore 4, 2) ∧ decode cX7_behindStep 11 = .ok (.aload_n 3, 1) ∧ decode cX7_behindStep 12 = .ok (.getfield 81, 3) ∧ True := dkl_ok (c := cX7_behindStep) [(.aload_n 1, 1), (.getfield 45, 3), (.astore_n 3, 1), (.aload_n 1, 1), (.getfield 77, 3), (.astore 4, 2), (.aload_n 3, 1), (.getfield 81, 3)] 0 (by decide +kernel)
theorem dX7_behindStep_0 : decode cX7_behindStep 0 = .ok (.aload_n 1, 1) := eX7_behindStep_0.1
theorem dX7_behindStep_1 : decode cX7_behindStep 1 = .ok (.getfield 45, 3) := eX7_behindStep_0.2.1
theorem dX7_behindStep_4 : decode cX7_behindStep 4 = .ok (.astore_n 3, 1) := eX7_behindStep_0.2.2.1
theorem dX7_behindStep_5 : decode cX7_behindStep 5 = .ok (.aload_n 1, 1) := eX7_behindStep_0.2.2.2.1
theorem dX7_behindStep_6 : decode cX7_behindStep 6 = .ok (.getfield 77, 3) := eX7_behindStep_0.2.2.2.2.1
theorem dX7_behindStep_9 : decode cX7_behindStep 9 = .ok (.astore 4, 2) := eX7_behindStep_0.2.2.2.2.2.1
theorem dX7_behindStep_11 : decode cX7_behindStep 11 = .ok (.aload_n 3, 1) := eX7_behindStep_0.2.2.2.2.2.2.1
theorem dX7_behindStep_12 : decode cX7_behindStep 12 = .ok (.getfield 81, 3) := eX7_behindStep_0.2.2.2.2.2.2.2.1
theorem eX7_behindStep_15 : decode cX7_behindStep 15 = .ok (.iload_n 2, 1) ∧ decode cX7_behindStep 16 = .ok (.invokevirtual 58, 3) ∧ decode cX7_behindStep 19 = .ok (.istore 5, 2) ∧ decode cX7_behindStep 21 = .ok (.aload_n 3, 1) ∧ decode cX7_behindStep 22 = .ok (.getfield 84, 3) ∧ decode cX7_behindStep 25 = .ok (.iload_n 2, 1) ∧ decode cX7_behindStep 26 = .ok (.invokevirtual 58, 3) ∧ decode cX7_behindStep 29 = .ok (.istore 6, 2) ∧ True := dkl_ok (c := cX7_behindStep) [(.iload_n 2, 1), (.invokevirtual 58, 3), (.istore 5, 2), (.aload_n 3, 1), (.getfield 84, 3), (.iload_n 2, 1), (.invokevirtual 58, 3), (.istore 6, 2)] 15 (by decide +kernel)
theorem dX7_behindStep_15 : decode cX7_behindStep 15 = .ok (.iload_n 2, 1) := eX7_behindStep_15.1
theorem dX7_behindStep_16 : decode cX7_behindStep 16 = .ok (.invokevirtual 58, 3) := eX7_behindStep_15.2.1
theorem dX7_behindStep_19 : decode cX7_behindStep 19 = .ok (.istore 5, 2) := eX7_behindStep_15.2.2.1
theorem dX7_behindStep_21 : decode cX7_behindStep 21 = .ok (.aload_n 3, 1) := eX7_behindStep_15.2.2.2.1
theorem dX7_behindStep_22 : decode cX7_behindStep 22 = .ok (.getfield 84, 3) := eX7_behindStep_15.2.2.2.2.1
theorem dX7_behindStep_25 : decode cX7_behindStep 25 = .ok (.iload_n 2, 1) := eX7_behindStep_15.2.2.2.2.2.1
theorem dX7_behindStep_26 : decode cX7_behindStep 26 = .ok (.invokevirtual 58, 3) := eX7_behindStep_15.2.2.2.2.2.2.1
theorem dX7_behindStep_29 : decode cX7_behindStep 29 = .ok (.istore 6, 2) := eX7_behindStep_15.2.2.2.2.2.2.2.1
theorem eX7_behindStep_31 : decode cX7_behindStep 31 = .ok (.aload_n 3, 1) ∧ decode cX7_behindStep 32 = .ok (.getfield 70, 3) ∧ decode cX7_behindStep 35 = .ok (.iload_n 2, 1) ∧ decode cX7_behindStep 36 = .ok (.invokevirtual 58, 3) ∧ decode cX7_behindStep 39 = .ok (.iconst 1, 1) ∧ decode cX7_behindStep 40 = .ok (.iadd, 1) ∧ decode cX7_behindStep 41 = .ok (.istore 7, 2) ∧ decode cX7_behindStep 43 = .ok (.aload_n 3, 1) ∧ True := dkl_ok (c := cX7_behindStep) [(.aload_n 3, 1), (.getfield 70, 3), (.iload_n 2, 1), (.invokevirtual 58, 3), (.iconst 1, 1), (.iadd, 1), (.istore 7, 2), (.aload_n 3, 1)] 31 (by decide +kernel)
theorem dX7_behindStep_31 : decode cX7_behindStep 31 = .ok (.aload_n 3, 1) := eX7_behindStep_31.1
theorem dX7_behindStep_32 : decode cX7_behindStep 32 = .ok (.getfield 70, 3) := eX7_behindStep_31.2.1
theorem dX7_behindStep_35 : decode cX7_behindStep 35 = .ok (.iload_n 2, 1) := eX7_behindStep_31.2.2.1
theorem dX7_behindStep_36 : decode cX7_behindStep 36 = .ok (.invokevirtual 58, 3) := eX7_behindStep_31.2.2.2.1
theorem dX7_behindStep_39 : decode cX7_behindStep 39 = .ok (.iconst 1, 1) := eX7_behindStep_31.2.2.2.2.1
theorem dX7_behindStep_40 : decode cX7_behindStep 40 = .ok (.iadd, 1) := eX7_behindStep_31.2.2.2.2.2.1
theorem dX7_behindStep_41 : decode cX7_behindStep 41 = .ok (.istore 7, 2) := eX7_behindStep_31.2.2.2.2.2.2.1
theorem dX7_behindStep_43 : decode cX7_behindStep 43 = .ok (.aload_n 3, 1) := eX7_behindStep_31.2.2.2.2.2.2.2.1
theorem eX7_behindStep_44 : decode cX7_behindStep 44 = .ok (.getfield 55, 3) ∧ decode cX7_behindStep 47 = .ok (.iload_n 2, 1) ∧ decode cX7_behindStep 48 = .ok (.invokevirtual 58, 3) ∧ True := dkl_ok (c := cX7_behindStep) [(.getfield 55, 3), (.iload_n 2, 1), (.invokevirtual 58, 3)] 44 (by decide +kernel)
theorem dX7_behindStep_44 : decode cX7_behindStep 44 = .ok (.getfield 55, 3) := eX7_behindStep_44.1
theorem dX7_behindStep_47 : decode cX7_behindStep 47 = .ok (.iload_n 2, 1) := eX7_behindStep_44.2.1
theorem dX7_behindStep_48 : decode cX7_behindStep 48 = .ok (.invokevirtual 58, 3) := eX7_behindStep_44.2.2.1
theorem dX7_behindStep_51 : decode cX7_behindStep 51 = .ok (.tableswitch 199 0 8 #[49, 58, 74, 199, 90, 104, 131, 155, 182], 49) := d_of (by decide +kernel)
theorem eX7_behindStep_100 : decode cX7_behindStep 100 = .ok (.aload_n 0, 1) ∧ decode cX7_behindStep 101 = .ok (.aload_n 1, 1) ∧ decode cX7_behindStep 102 = .ok (.invokevirtual 87, 3) ∧ decode cX7_behindStep 105 = .ok (.iload_n 2, 1) ∧ decode cX7_behindStep 106 = .ok (.iconst 1, 1) ∧ decode cX7_behindStep 107 = .ok (.iadd, 1) ∧ decode cX7_behindStep 108 = .ok (.ireturn, 1) ∧ decode cX7_behindStep 109 = .ok (.aload 4, 2) ∧ True := dkl_ok (c := cX7_behindStep) [(.aload_n 0, 1), (.aload_n 1, 1), (.invokevirtual 87, 3), (.iload_n 2, 1), (.iconst 1, 1), (.iadd, 1), (.ireturn, 1), (.aload 4, 2)] 100 (by decide +kernel)
theorem dX7_behindStep_100 : decode cX7_behindStep 100 = .ok (.aload_n 0, 1) := eX7_behindStep_100.1
theorem dX7_behindStep_101 : decode cX7_behindStep 101 = .ok (.aload_n 1, 1) := eX7_behindStep_100.2.1
theorem dX7_behindStep_102 : decode cX7_behindStep 102 = .ok (.invokevirtual 87, 3) := eX7_behindStep_100.2.2.1
theorem dX7_behindStep_105 : decode cX7_behindStep 105 = .ok (.iload_n 2, 1) := eX7_behindStep_100.2.2.2.1
theorem dX7_behindStep_106 : decode cX7_behindStep 106 = .ok (.iconst 1, 1) := eX7_behindStep_100.2.2.2.2.1
theorem dX7_behindStep_107 : decode cX7_behindStep 107 = .ok (.iadd, 1) := eX7_behindStep_100.2.2.2.2.2.1
theorem dX7_behindStep_108 : decode cX7_behindStep 108 = .ok (.ireturn, 1) := eX7_behindStep_100.2.2.2.2.2.2.1
theorem dX7_behindStep_109 : decode cX7_behindStep 109 = .ok (.aload 4, 2) := eX7_behindStep_100.2.2.2.2.2.2.2.1
theorem eX7_behindStep_111 : decode cX7_behindStep 111 = .ok (.getfield 91, 3) ∧ decode cX7_behindStep 114 = .ok (.iload 5, 2) ∧ decode cX7_behindStep 116 = .ok (.iload 6, 2) ∧ decode cX7_behindStep 118 = .ok (.invokevirtual 96, 3) ∧ decode cX7_behindStep 121 = .ok (.iload_n 2, 1) ∧ decode cX7_behindStep 122 = .ok (.iconst 1, 1) ∧ decode cX7_behindStep 123 = .ok (.iadd, 1) ∧ decode cX7_behindStep 124 = .ok (.ireturn, 1) ∧ True := dkl_ok (c := cX7_behindStep) [(.getfield 91, 3), (.iload 5, 2), (.iload 6, 2), (.invokevirtual 96, 3), (.iload_n 2, 1), (.iconst 1, 1), (.iadd, 1), (.ireturn, 1)] 111 (by decide +kernel)
theorem dX7_behindStep_111 : decode cX7_behindStep 111 = .ok (.getfield 91, 3) := eX7_behindStep_111.1
theorem dX7_behindStep_114 : decode cX7_behindStep 114 = .ok (.iload 5, 2) := eX7_behindStep_111.2.1
theorem dX7_behindStep_116 : decode cX7_behindStep 116 = .ok (.iload 6, 2) := eX7_behindStep_111.2.2.1
theorem dX7_behindStep_118 : decode cX7_behindStep 118 = .ok (.invokevirtual 96, 3) := eX7_behindStep_111.2.2.2.1
theorem dX7_behindStep_121 : decode cX7_behindStep 121 = .ok (.iload_n 2, 1) := eX7_behindStep_111.2.2.2.2.1
theorem dX7_behindStep_122 : decode cX7_behindStep 122 = .ok (.iconst 1, 1) := eX7_behindStep_111.2.2.2.2.2.1
theorem dX7_behindStep_123 : decode cX7_behindStep 123 = .ok (.iadd, 1) := eX7_behindStep_111.2.2.2.2.2.2.1
theorem dX7_behindStep_124 : decode cX7_behindStep 124 = .ok (.ireturn, 1) := eX7_behindStep_111.2.2.2.2.2.2.2.1
theorem eX7_behindStep_125 : decode cX7_behindStep 125 = .ok (.aload 4, 2) ∧ decode cX7_behindStep 127 = .ok (.getfield 99, 3) ∧ decode cX7_behindStep 130 = .ok (.iload 5, 2) ∧ decode cX7_behindStep 132 = .ok (.iload 6, 2) ∧ decode cX7_behindStep 134 = .ok (.invokevirtual 96, 3) ∧ decode cX7_behindStep 137 = .ok (.iload_n 2, 1) ∧ decode cX7_behindStep 138 = .ok (.iconst 1, 1) ∧ decode cX7_behindStep 139 = .ok (.iadd, 1) ∧ True := dkl_ok (c := cX7_behindStep) [(.aload 4, 2), (.getfield 99, 3), (.iload 5, 2), (.iload 6, 2), (.invokevirtual 96, 3), (.iload_n 2, 1), (.iconst 1, 1), (.iadd, 1)] 125 (by decide +kernel)
theorem dX7_behindStep_125 : decode cX7_behindStep 125 = .ok (.aload 4, 2) := eX7_behindStep_125.1
theorem dX7_behindStep_127 : decode cX7_behindStep 127 = .ok (.getfield 99, 3) := eX7_behindStep_125.2.1
theorem dX7_behindStep_130 : decode cX7_behindStep 130 = .ok (.iload 5, 2) := eX7_behindStep_125.2.2.1
theorem dX7_behindStep_132 : decode cX7_behindStep 132 = .ok (.iload 6, 2) := eX7_behindStep_125.2.2.2.1
theorem dX7_behindStep_134 : decode cX7_behindStep 134 = .ok (.invokevirtual 96, 3) := eX7_behindStep_125.2.2.2.2.1
theorem dX7_behindStep_137 : decode cX7_behindStep 137 = .ok (.iload_n 2, 1) := eX7_behindStep_125.2.2.2.2.2.1
theorem dX7_behindStep_138 : decode cX7_behindStep 138 = .ok (.iconst 1, 1) := eX7_behindStep_125.2.2.2.2.2.2.1
theorem dX7_behindStep_139 : decode cX7_behindStep 139 = .ok (.iadd, 1) := eX7_behindStep_125.2.2.2.2.2.2.2.1
theorem eX7_behindStep_140 : decode cX7_behindStep 140 = .ok (.ireturn, 1) ∧ decode cX7_behindStep 141 = .ok (.aload_n 0, 1) ∧ decode cX7_behindStep 142 = .ok (.getfield 41, 3) ∧ decode cX7_behindStep 145 = .ok (.iload_n 2, 1) ∧ decode cX7_behindStep 146 = .ok (.iload 6, 2) ∧ decode cX7_behindStep 148 = .ok (.invokevirtual 96, 3) ∧ decode cX7_behindStep 151 = .ok (.iload_n 2, 1) ∧ decode cX7_behindStep 152 = .ok (.iconst 1, 1) ∧ True := dkl_ok (c := cX7_behindStep) [(.ireturn, 1), (.aload_n 0, 1), (.getfield 41, 3), (.iload_n 2, 1), (.iload 6, 2), (.invokevirtual 96, 3), (.iload_n 2, 1), (.iconst 1, 1)] 140 (by decide +kernel)
theorem dX7_behindStep_140 : decode cX7_behindStep 140 = .ok (.ireturn, 1) := eX7_behindStep_140.1
theorem dX7_behindStep_141 : decode cX7_behindStep 141 = .ok (.aload_n 0, 1) := eX7_behindStep_140.2.1
theorem dX7_behindStep_142 : decode cX7_behindStep 142 = .ok (.getfield 41, 3) := eX7_behindStep_140.2.2.1
theorem dX7_behindStep_145 : decode cX7_behindStep 145 = .ok (.iload_n 2, 1) := eX7_behindStep_140.2.2.2.1
theorem dX7_behindStep_146 : decode cX7_behindStep 146 = .ok (.iload 6, 2) := eX7_behindStep_140.2.2.2.2.1
theorem dX7_behindStep_148 : decode cX7_behindStep 148 = .ok (.invokevirtual 96, 3) := eX7_behindStep_140.2.2.2.2.2.1
theorem dX7_behindStep_151 : decode cX7_behindStep 151 = .ok (.iload_n 2, 1) := eX7_behindStep_140.2.2.2.2.2.2.1
theorem dX7_behindStep_152 : decode cX7_behindStep 152 = .ok (.iconst 1, 1) := eX7_behindStep_140.2.2.2.2.2.2.2.1
theorem eX7_behindStep_153 : decode cX7_behindStep 153 = .ok (.iadd, 1) ∧ decode cX7_behindStep 154 = .ok (.ireturn, 1) ∧ decode cX7_behindStep 155 = .ok (.aload_n 3, 1) ∧ decode cX7_behindStep 156 = .ok (.iload_n 2, 1) ∧ decode cX7_behindStep 157 = .ok (.aload 4, 2) ∧ decode cX7_behindStep 159 = .ok (.getfield 102, 3) ∧ decode cX7_behindStep 162 = .ok (.iload 5, 2) ∧ decode cX7_behindStep 164 = .ok (.invokevirtual 58, 3) ∧ True := dkl_ok (c := cX7_behindStep) [(.iadd, 1), (.ireturn, 1), (.aload_n 3, 1), (.iload_n 2, 1), (.aload 4, 2), (.getfield 102, 3), (.iload 5, 2), (.invokevirtual 58, 3)] 153 (by decide +kernel)
theorem dX7_behindStep_153 : decode cX7_behindStep 153 = .ok (.iadd, 1) := eX7_behindStep_153.1
theorem dX7_behindStep_154 : decode cX7_behindStep 154 = .ok (.ireturn, 1) := eX7_behindStep_153.2.1
theorem dX7_behindStep_155 : decode cX7_behindStep 155 = .ok (.aload_n 3, 1) := eX7_behindStep_153.2.2.1
theorem dX7_behindStep_156 : decode cX7_behindStep 156 = .ok (.iload_n 2, 1) := eX7_behindStep_153.2.2.2.1
theorem dX7_behindStep_157 : decode cX7_behindStep 157 = .ok (.aload 4, 2) := eX7_behindStep_153.2.2.2.2.1
theorem dX7_behindStep_159 : decode cX7_behindStep 159 = .ok (.getfield 102, 3) := eX7_behindStep_153.2.2.2.2.2.1
theorem dX7_behindStep_162 : decode cX7_behindStep 162 = .ok (.iload 5, 2) := eX7_behindStep_153.2.2.2.2.2.2.1
theorem dX7_behindStep_164 : decode cX7_behindStep 164 = .ok (.invokevirtual 58, 3) := eX7_behindStep_153.2.2.2.2.2.2.2.1
theorem eX7_behindStep_167 : decode cX7_behindStep 167 = .ok (.invokevirtual 105, 3) ∧ decode cX7_behindStep 170 = .ok (.ifCond .eq 9, 3) ∧ decode cX7_behindStep 173 = .ok (.iload_n 2, 1) ∧ decode cX7_behindStep 174 = .ok (.iconst 1, 1) ∧ decode cX7_behindStep 175 = .ok (.iadd, 1) ∧ decode cX7_behindStep 176 = .ok (.goto 5, 3) ∧ decode cX7_behindStep 179 = .ok (.iload 7, 2) ∧ decode cX7_behindStep 181 = .ok (.ireturn, 1) ∧ True := dkl_ok (c := cX7_behindStep) [(.invokevirtual 105, 3), (.ifCond .eq 9, 3), (.iload_n 2, 1), (.iconst 1, 1), (.iadd, 1), (.goto 5, 3), (.iload 7, 2), (.ireturn, 1)] 167 (by decide +kernel)
theorem dX7_behindStep_167 : decode cX7_behindStep 167 = .ok (.invokevirtual 105, 3) := eX7_behindStep_167.1
theorem dX7_behindStep_170 : decode cX7_behindStep 170 = .ok (.ifCond .eq 9, 3) := eX7_behindStep_167.2.1
theorem dX7_behindStep_173 : decode cX7_behindStep 173 = .ok (.iload_n 2, 1) := eX7_behindStep_167.2.2.1
theorem dX7_behindStep_174 : decode cX7_behindStep 174 = .ok (.iconst 1, 1) := eX7_behindStep_167.2.2.2.1
theorem dX7_behindStep_175 : decode cX7_behindStep 175 = .ok (.iadd, 1) := eX7_behindStep_167.2.2.2.2.1
theorem dX7_behindStep_176 : decode cX7_behindStep 176 = .ok (.goto 5, 3) := eX7_behindStep_167.2.2.2.2.2.1
theorem dX7_behindStep_179 : decode cX7_behindStep 179 = .ok (.iload 7, 2) := eX7_behindStep_167.2.2.2.2.2.2.1
theorem dX7_behindStep_181 : decode cX7_behindStep 181 = .ok (.ireturn, 1) := eX7_behindStep_167.2.2.2.2.2.2.2.1
theorem eX7_behindStep_182 : decode cX7_behindStep 182 = .ok (.aload_n 3, 1) ∧ decode cX7_behindStep 183 = .ok (.iload_n 2, 1) ∧ decode cX7_behindStep 184 = .ok (.aload_n 1, 1) ∧ decode cX7_behindStep 185 = .ok (.getfield 109, 3) ∧ decode cX7_behindStep 188 = .ok (.getfield 113, 3) ∧ decode cX7_behindStep 191 = .ok (.invokevirtual 105, 3) ∧ decode cX7_behindStep 194 = .ok (.ifCond .eq 9, 3) ∧ decode cX7_behindStep 197 = .ok (.iload_n 2, 1) ∧ True := dkl_ok (c := cX7_behindStep) [(.aload_n 3, 1), (.iload_n 2, 1), (.aload_n 1, 1), (.getfield 109, 3), (.getfield 113, 3), (.invokevirtual 105, 3), (.ifCond .eq 9, 3), (.iload_n 2, 1)] 182 (by decide +kernel)
theorem dX7_behindStep_182 : decode cX7_behindStep 182 = .ok (.aload_n 3, 1) := eX7_behindStep_182.1
theorem dX7_behindStep_183 : decode cX7_behindStep 183 = .ok (.iload_n 2, 1) := eX7_behindStep_182.2.1
theorem dX7_behindStep_184 : decode cX7_behindStep 184 = .ok (.aload_n 1, 1) := eX7_behindStep_182.2.2.1
theorem dX7_behindStep_185 : decode cX7_behindStep 185 = .ok (.getfield 109, 3) := eX7_behindStep_182.2.2.2.1
theorem dX7_behindStep_188 : decode cX7_behindStep 188 = .ok (.getfield 113, 3) := eX7_behindStep_182.2.2.2.2.1
theorem dX7_behindStep_191 : decode cX7_behindStep 191 = .ok (.invokevirtual 105, 3) := eX7_behindStep_182.2.2.2.2.2.1
theorem dX7_behindStep_194 : decode cX7_behindStep 194 = .ok (.ifCond .eq 9, 3) := eX7_behindStep_182.2.2.2.2.2.2.1
theorem dX7_behindStep_197 : decode cX7_behindStep 197 = .ok (.iload_n 2, 1) := eX7_behindStep_182.2.2.2.2.2.2.2.1
theorem eX7_behindStep_198 : decode cX7_behindStep 198 = .ok (.iconst 1, 1) ∧ decode cX7_behindStep 199 = .ok (.iadd, 1) ∧ decode cX7_behindStep 200 = .ok (.goto 5, 3) ∧ decode cX7_behindStep 203 = .ok (.iload 7, 2) ∧ decode cX7_behindStep 205 = .ok (.ireturn, 1) ∧ decode cX7_behindStep 206 = .ok (.aload_n 3, 1) ∧ decode cX7_behindStep 207 = .ok (.iload_n 2, 1) ∧ decode cX7_behindStep 208 = .ok (.aload 4, 2) ∧ True := dkl_ok (c := cX7_behindStep) [(.iconst 1, 1), (.iadd, 1), (.goto 5, 3), (.iload 7, 2), (.ireturn, 1), (.aload_n 3, 1), (.iload_n 2, 1), (.aload 4, 2)] 198 (by decide +kernel)
theorem dX7_behindStep_198 : decode cX7_behindStep 198 = .ok (.iconst 1, 1) := eX7_behindStep_198.1
theorem dX7_behindStep_199 : decode cX7_behindStep 199 = .ok (.iadd, 1) := eX7_behindStep_198.2.1
theorem dX7_behindStep_200 : decode cX7_behindStep 200 = .ok (.goto 5, 3) := eX7_behindStep_198.2.2.1
theorem dX7_behindStep_203 : decode cX7_behindStep 203 = .ok (.iload 7, 2) := eX7_behindStep_198.2.2.2.1
theorem dX7_behindStep_205 : decode cX7_behindStep 205 = .ok (.ireturn, 1) := eX7_behindStep_198.2.2.2.2.1
theorem dX7_behindStep_206 : decode cX7_behindStep 206 = .ok (.aload_n 3, 1) := eX7_behindStep_198.2.2.2.2.2.1
theorem dX7_behindStep_207 : decode cX7_behindStep 207 = .ok (.iload_n 2, 1) := eX7_behindStep_198.2.2.2.2.2.2.1
theorem dX7_behindStep_208 : decode cX7_behindStep 208 = .ok (.aload 4, 2) := eX7_behindStep_198.2.2.2.2.2.2.2.1
theorem eX7_behindStep_210 : decode cX7_behindStep 210 = .ok (.getfield 117, 3) ∧ decode cX7_behindStep 213 = .ok (.iload 5, 2) ∧ decode cX7_behindStep 215 = .ok (.invokevirtual 58, 3) ∧ decode cX7_behindStep 218 = .ok (.invokevirtual 105, 3) ∧ decode cX7_behindStep 221 = .ok (.ifCond .eq 9, 3) ∧ decode cX7_behindStep 224 = .ok (.iload_n 2, 1) ∧ decode cX7_behindStep 225 = .ok (.iconst 1, 1) ∧ decode cX7_behindStep 226 = .ok (.iadd, 1) ∧ True := dkl_ok (c := cX7_behindStep) [(.getfield 117, 3), (.iload 5, 2), (.invokevirtual 58, 3), (.invokevirtual 105, 3), (.ifCond .eq 9, 3), (.iload_n 2, 1), (.iconst 1, 1), (.iadd, 1)] 210 (by decide +kernel)
theorem dX7_behindStep_210 : decode cX7_behindStep 210 = .ok (.getfield 117, 3) := eX7_behindStep_210.1
theorem dX7_behindStep_213 : decode cX7_behindStep 213 = .ok (.iload 5, 2) := eX7_behindStep_210.2.1
theorem dX7_behindStep_215 : decode cX7_behindStep 215 = .ok (.invokevirtual 58, 3) := eX7_behindStep_210.2.2.1
theorem dX7_behindStep_218 : decode cX7_behindStep 218 = .ok (.invokevirtual 105, 3) := eX7_behindStep_210.2.2.2.1
theorem dX7_behindStep_221 : decode cX7_behindStep 221 = .ok (.ifCond .eq 9, 3) := eX7_behindStep_210.2.2.2.2.1
theorem dX7_behindStep_224 : decode cX7_behindStep 224 = .ok (.iload_n 2, 1) := eX7_behindStep_210.2.2.2.2.2.1
theorem dX7_behindStep_225 : decode cX7_behindStep 225 = .ok (.iconst 1, 1) := eX7_behindStep_210.2.2.2.2.2.2.1
theorem dX7_behindStep_226 : decode cX7_behindStep 226 = .ok (.iadd, 1) := eX7_behindStep_210.2.2.2.2.2.2.2.1
theorem eX7_behindStep_227 : decode cX7_behindStep 227 = .ok (.goto 5, 3) ∧ decode cX7_behindStep 230 = .ok (.iload 7, 2) ∧ decode cX7_behindStep 232 = .ok (.ireturn, 1) ∧ decode cX7_behindStep 233 = .ok (.aload_n 1, 1) ∧ decode cX7_behindStep 234 = .ok (.getfield 120, 3) ∧ decode cX7_behindStep 237 = .ok (.iconst (-1), 1) ∧ decode cX7_behindStep 238 = .ok (.if_icmp .eq 9, 3) ∧ decode cX7_behindStep 241 = .ok (.iload_n 2, 1) ∧ True := dkl_ok (c := cX7_behindStep) [(.goto 5, 3), (.iload 7, 2), (.ireturn, 1), (.aload_n 1, 1), (.getfield 120, 3), (.iconst (-1), 1), (.if_icmp .eq 9, 3), (.iload_n 2, 1)] 227 (by decide +kernel)
theorem dX7_behindStep_227 : decode cX7_behindStep 227 = .ok (.goto 5, 3) := eX7_behindStep_227.1
theorem dX7_behindStep_230 : decode cX7_behindStep 230 = .ok (.iload 7, 2) := eX7_behindStep_227.2.1
theorem dX7_behindStep_232 : decode cX7_behindStep 232 = .ok (.ireturn, 1) := eX7_behindStep_227.2.2.1
theorem dX7_behindStep_233 : decode cX7_behindStep 233 = .ok (.aload_n 1, 1) := eX7_behindStep_227.2.2.2.1
theorem dX7_behindStep_234 : decode cX7_behindStep 234 = .ok (.getfield 120, 3) := eX7_behindStep_227.2.2.2.2.1
theorem dX7_behindStep_237 : decode cX7_behindStep 237 = .ok (.iconst (-1), 1) := eX7_behindStep_227.2.2.2.2.2.1
theorem dX7_behindStep_238 : decode cX7_behindStep 238 = .ok (.if_icmp .eq 9, 3) := eX7_behindStep_227.2.2.2.2.2.2.1
theorem dX7_behindStep_241 : decode cX7_behindStep 241 = .ok (.iload_n 2, 1) := eX7_behindStep_227.2.2.2.2.2.2.2.1
theorem eX7_behindStep_242 : decode cX7_behindStep 242 = .ok (.iconst 1, 1) ∧ decode cX7_behindStep 243 = .ok (.iadd, 1) ∧ decode cX7_behindStep 244 = .ok (.goto 5, 3) ∧ decode cX7_behindStep 247 = .ok (.iload 7, 2) ∧ decode cX7_behindStep 249 = .ok (.ireturn, 1) ∧ decode cX7_behindStep 250 = .ok (.aload_n 3, 1) ∧ decode cX7_behindStep 251 = .ok (.getfield 52, 3) ∧ decode cX7_behindStep 254 = .ok (.ireturn, 1) ∧ True := dkl_ok (c := cX7_behindStep) [(.iconst 1, 1), (.iadd, 1), (.goto 5, 3), (.iload 7, 2), (.ireturn, 1), (.aload_n 3, 1), (.getfield 52, 3), (.ireturn, 1)] 242 (by decide +kernel)
theorem dX7_behindStep_242 : decode cX7_behindStep 242 = .ok (.iconst 1, 1) := eX7_behindStep_242.1
theorem dX7_behindStep_243 : decode cX7_behindStep 243 = .ok (.iadd, 1) := eX7_behindStep_242.2.1
theorem dX7_behindStep_244 : decode cX7_behindStep 244 = .ok (.goto 5, 3) := eX7_behindStep_242.2.2.1
theorem dX7_behindStep_247 : decode cX7_behindStep 247 = .ok (.iload 7, 2) := eX7_behindStep_242.2.2.2.1
theorem dX7_behindStep_249 : decode cX7_behindStep 249 = .ok (.ireturn, 1) := eX7_behindStep_242.2.2.2.2.1
theorem dX7_behindStep_250 : decode cX7_behindStep 250 = .ok (.aload_n 3, 1) := eX7_behindStep_242.2.2.2.2.2.1
theorem dX7_behindStep_251 : decode cX7_behindStep 251 = .ok (.getfield 52, 3) := eX7_behindStep_242.2.2.2.2.2.2.1
theorem dX7_behindStep_254 : decode cX7_behindStep 254 = .ok (.ireturn, 1) := eX7_behindStep_242.2.2.2.2.2.2.2.1
theorem eX7_takeTurn_0 : decode cX7_takeTurn 0 = .ok (.aload_n 1, 1) ∧ decode cX7_takeTurn 1 = .ok (.getfield 123, 3) ∧ decode cX7_takeTurn 4 = .ok (.ifCond .eq 7, 3) ∧ decode cX7_takeTurn 7 = .ok (.aload_n 1, 1) ∧ decode cX7_takeTurn 8 = .ok (.invokevirtual 126, 3) ∧ decode cX7_takeTurn 11 = .ok (.aload_n 1, 1) ∧ decode cX7_takeTurn 12 = .ok (.getfield 120, 3) ∧ decode cX7_takeTurn 15 = .ok (.iconst (-1), 1) ∧ True := dkl_ok (c := cX7_takeTurn) [(.aload_n 1, 1), (.getfield 123, 3), (.ifCond .eq 7, 3), (.aload_n 1, 1), (.invokevirtual 126, 3), (.aload_n 1, 1), (.getfield 120, 3), (.iconst (-1), 1)] 0 (by decide +kernel)
theorem dX7_takeTurn_0 : decode cX7_takeTurn 0 = .ok (.aload_n 1, 1) := eX7_takeTurn_0.1
theorem dX7_takeTurn_1 : decode cX7_takeTurn 1 = .ok (.getfield 123, 3) := eX7_takeTurn_0.2.1
theorem dX7_takeTurn_4 : decode cX7_takeTurn 4 = .ok (.ifCond .eq 7, 3) := eX7_takeTurn_0.2.2.1
theorem dX7_takeTurn_7 : decode cX7_takeTurn 7 = .ok (.aload_n 1, 1) := eX7_takeTurn_0.2.2.2.1
theorem dX7_takeTurn_8 : decode cX7_takeTurn 8 = .ok (.invokevirtual 126, 3) := eX7_takeTurn_0.2.2.2.2.1
theorem dX7_takeTurn_11 : decode cX7_takeTurn 11 = .ok (.aload_n 1, 1) := eX7_takeTurn_0.2.2.2.2.2.1
theorem dX7_takeTurn_12 : decode cX7_takeTurn 12 = .ok (.getfield 120, 3) := eX7_takeTurn_0.2.2.2.2.2.2.1
theorem dX7_takeTurn_15 : decode cX7_takeTurn 15 = .ok (.iconst (-1), 1) := eX7_takeTurn_0.2.2.2.2.2.2.2.1
theorem eX7_takeTurn_16 : decode cX7_takeTurn 16 = .ok (.if_icmp .ne 31, 3) ∧ decode cX7_takeTurn 19 = .ok (.aload_n 1, 1) ∧ decode cX7_takeTurn 20 = .ok (.getfield 129, 3) ∧ decode cX7_takeTurn 23 = .ok (.getfield 133, 3) ∧ decode cX7_takeTurn 26 = .ok (.iconst 2, 1) ∧ decode cX7_takeTurn 27 = .ok (.if_icmp .lt 20, 3) ∧ decode cX7_takeTurn 30 = .ok (.aload_n 1, 1) ∧ decode cX7_takeTurn 31 = .ok (.getfield 77, 3) ∧ True := dkl_ok (c := cX7_takeTurn) [(.if_icmp .ne 31, 3), (.aload_n 1, 1), (.getfield 129, 3), (.getfield 133, 3), (.iconst 2, 1), (.if_icmp .lt 20, 3), (.aload_n 1, 1), (.getfield 77, 3)] 16 (by decide +kernel)
theorem dX7_takeTurn_16 : decode cX7_takeTurn 16 = .ok (.if_icmp .ne 31, 3) := eX7_takeTurn_16.1
theorem dX7_takeTurn_19 : decode cX7_takeTurn 19 = .ok (.aload_n 1, 1) := eX7_takeTurn_16.2.1
theorem dX7_takeTurn_20 : decode cX7_takeTurn 20 = .ok (.getfield 129, 3) := eX7_takeTurn_16.2.2.1
theorem dX7_takeTurn_23 : decode cX7_takeTurn 23 = .ok (.getfield 133, 3) := eX7_takeTurn_16.2.2.2.1
theorem dX7_takeTurn_26 : decode cX7_takeTurn 26 = .ok (.iconst 2, 1) := eX7_takeTurn_16.2.2.2.2.1
theorem dX7_takeTurn_27 : decode cX7_takeTurn 27 = .ok (.if_icmp .lt 20, 3) := eX7_takeTurn_16.2.2.2.2.2.1
theorem dX7_takeTurn_30 : decode cX7_takeTurn 30 = .ok (.aload_n 1, 1) := eX7_takeTurn_16.2.2.2.2.2.2.1
theorem dX7_takeTurn_31 : decode cX7_takeTurn 31 = .ok (.getfield 77, 3) := eX7_takeTurn_16.2.2.2.2.2.2.2.1
theorem eX7_takeTurn_34 : decode cX7_takeTurn 34 = .ok (.getfield 102, 3) ∧ decode cX7_takeTurn 37 = .ok (.aload_n 1, 1) ∧ decode cX7_takeTurn 38 = .ok (.getfield 138, 3) ∧ decode cX7_takeTurn 41 = .ok (.invokevirtual 58, 3) ∧ decode cX7_takeTurn 44 = .ok (.ifCond .ne 14, 3) ∧ decode cX7_takeTurn 47 = .ok (.aload_n 0, 1) ∧ decode cX7_takeTurn 48 = .ok (.dup, 1) ∧ decode cX7_takeTurn 49 = .ok (.getfield 15, 3) ∧ True := dkl_ok (c := cX7_takeTurn) [(.getfield 102, 3), (.aload_n 1, 1), (.getfield 138, 3), (.invokevirtual 58, 3), (.ifCond .ne 14, 3), (.aload_n 0, 1), (.dup, 1), (.getfield 15, 3)] 34 (by decide +kernel)
theorem dX7_takeTurn_34 : decode cX7_takeTurn 34 = .ok (.getfield 102, 3) := eX7_takeTurn_34.1
theorem dX7_takeTurn_37 : decode cX7_takeTurn 37 = .ok (.aload_n 1, 1) := eX7_takeTurn_34.2.1
theorem dX7_takeTurn_38 : decode cX7_takeTurn 38 = .ok (.getfield 138, 3) := eX7_takeTurn_34.2.2.1
theorem dX7_takeTurn_41 : decode cX7_takeTurn 41 = .ok (.invokevirtual 58, 3) := eX7_takeTurn_34.2.2.2.1
theorem dX7_takeTurn_44 : decode cX7_takeTurn 44 = .ok (.ifCond .ne 14, 3) := eX7_takeTurn_34.2.2.2.2.1
theorem dX7_takeTurn_47 : decode cX7_takeTurn 47 = .ok (.aload_n 0, 1) := eX7_takeTurn_34.2.2.2.2.2.1
theorem dX7_takeTurn_48 : decode cX7_takeTurn 48 = .ok (.dup, 1) := eX7_takeTurn_34.2.2.2.2.2.2.1
theorem dX7_takeTurn_49 : decode cX7_takeTurn 49 = .ok (.getfield 15, 3) := eX7_takeTurn_34.2.2.2.2.2.2.2.1
theorem eX7_takeTurn_52 : decode cX7_takeTurn 52 = .ok (.iconst 1, 1) ∧ decode cX7_takeTurn 53 = .ok (.iadd, 1) ∧ decode cX7_takeTurn 54 = .ok (.putfield 15, 3) ∧ decode cX7_takeTurn 57 = .ok (.return_, 1) ∧ decode cX7_takeTurn 58 = .ok (.aload_n 0, 1) ∧ decode cX7_takeTurn 59 = .ok (.aload_n 1, 1) ∧ decode cX7_takeTurn 60 = .ok (.invokevirtual 141, 3) ∧ decode cX7_takeTurn 63 = .ok (.aload_n 1, 1) ∧ True := dkl_ok (c := cX7_takeTurn) [(.iconst 1, 1), (.iadd, 1), (.putfield 15, 3), (.return_, 1), (.aload_n 0, 1), (.aload_n 1, 1), (.invokevirtual 141, 3), (.aload_n 1, 1)] 52 (by decide +kernel)
theorem dX7_takeTurn_52 : decode cX7_takeTurn 52 = .ok (.iconst 1, 1) := eX7_takeTurn_52.1
theorem dX7_takeTurn_53 : decode cX7_takeTurn 53 = .ok (.iadd, 1) := eX7_takeTurn_52.2.1
theorem dX7_takeTurn_54 : decode cX7_takeTurn 54 = .ok (.putfield 15, 3) := eX7_takeTurn_52.2.2.1
theorem dX7_takeTurn_57 : decode cX7_takeTurn 57 = .ok (.return_, 1) := eX7_takeTurn_52.2.2.2.1
theorem dX7_takeTurn_58 : decode cX7_takeTurn 58 = .ok (.aload_n 0, 1) := eX7_takeTurn_52.2.2.2.2.1
theorem dX7_takeTurn_59 : decode cX7_takeTurn 59 = .ok (.aload_n 1, 1) := eX7_takeTurn_52.2.2.2.2.2.1
theorem dX7_takeTurn_60 : decode cX7_takeTurn 60 = .ok (.invokevirtual 141, 3) := eX7_takeTurn_52.2.2.2.2.2.2.1
theorem dX7_takeTurn_63 : decode cX7_takeTurn 63 = .ok (.aload_n 1, 1) := eX7_takeTurn_52.2.2.2.2.2.2.2.1
theorem eX7_takeTurn_64 : decode cX7_takeTurn 64 = .ok (.invokevirtual 144, 3) ∧ decode cX7_takeTurn 67 = .ok (.aload_n 0, 1) ∧ decode cX7_takeTurn 68 = .ok (.dup, 1) ∧ decode cX7_takeTurn 69 = .ok (.getfield 18, 3) ∧ decode cX7_takeTurn 72 = .ok (.iconst 1, 1) ∧ decode cX7_takeTurn 73 = .ok (.iadd, 1) ∧ decode cX7_takeTurn 74 = .ok (.putfield 18, 3) ∧ decode cX7_takeTurn 77 = .ok (.aload_n 0, 1) ∧ True := dkl_ok (c := cX7_takeTurn) [(.invokevirtual 144, 3), (.aload_n 0, 1), (.dup, 1), (.getfield 18, 3), (.iconst 1, 1), (.iadd, 1), (.putfield 18, 3), (.aload_n 0, 1)] 64 (by decide +kernel)
theorem dX7_takeTurn_64 : decode cX7_takeTurn 64 = .ok (.invokevirtual 144, 3) := eX7_takeTurn_64.1
theorem dX7_takeTurn_67 : decode cX7_takeTurn 67 = .ok (.aload_n 0, 1) := eX7_takeTurn_64.2.1
theorem dX7_takeTurn_68 : decode cX7_takeTurn 68 = .ok (.dup, 1) := eX7_takeTurn_64.2.2.1
theorem dX7_takeTurn_69 : decode cX7_takeTurn 69 = .ok (.getfield 18, 3) := eX7_takeTurn_64.2.2.2.1
theorem dX7_takeTurn_72 : decode cX7_takeTurn 72 = .ok (.iconst 1, 1) := eX7_takeTurn_64.2.2.2.2.1
theorem dX7_takeTurn_73 : decode cX7_takeTurn 73 = .ok (.iadd, 1) := eX7_takeTurn_64.2.2.2.2.2.1
theorem dX7_takeTurn_74 : decode cX7_takeTurn 74 = .ok (.putfield 18, 3) := eX7_takeTurn_64.2.2.2.2.2.2.1
theorem dX7_takeTurn_77 : decode cX7_takeTurn 77 = .ok (.aload_n 0, 1) := eX7_takeTurn_64.2.2.2.2.2.2.2.1
theorem eX7_takeTurn_78 : decode cX7_takeTurn 78 = .ok (.aload_n 1, 1) ∧ decode cX7_takeTurn 79 = .ok (.invokevirtual 147, 3) ∧ decode cX7_takeTurn 82 = .ok (.istore_n 2, 1) ∧ decode cX7_takeTurn 83 = .ok (.iload_n 2, 1) ∧ decode cX7_takeTurn 84 = .ok (.iconst (-1), 1) ∧ decode cX7_takeTurn 85 = .ok (.if_icmp .ne 8, 3) ∧ decode cX7_takeTurn 88 = .ok (.aload_n 1, 1) ∧ decode cX7_takeTurn 89 = .ok (.invokevirtual 126, 3) ∧ True := dkl_ok (c := cX7_takeTurn) [(.aload_n 1, 1), (.invokevirtual 147, 3), (.istore_n 2, 1), (.iload_n 2, 1), (.iconst (-1), 1), (.if_icmp .ne 8, 3), (.aload_n 1, 1), (.invokevirtual 126, 3)] 78 (by decide +kernel)
theorem dX7_takeTurn_78 : decode cX7_takeTurn 78 = .ok (.aload_n 1, 1) := eX7_takeTurn_78.1
theorem dX7_takeTurn_79 : decode cX7_takeTurn 79 = .ok (.invokevirtual 147, 3) := eX7_takeTurn_78.2.1
theorem dX7_takeTurn_82 : decode cX7_takeTurn 82 = .ok (.istore_n 2, 1) := eX7_takeTurn_78.2.2.1
theorem dX7_takeTurn_83 : decode cX7_takeTurn 83 = .ok (.iload_n 2, 1) := eX7_takeTurn_78.2.2.2.1
theorem dX7_takeTurn_84 : decode cX7_takeTurn 84 = .ok (.iconst (-1), 1) := eX7_takeTurn_78.2.2.2.2.1
theorem dX7_takeTurn_85 : decode cX7_takeTurn 85 = .ok (.if_icmp .ne 8, 3) := eX7_takeTurn_78.2.2.2.2.2.1
theorem dX7_takeTurn_88 : decode cX7_takeTurn 88 = .ok (.aload_n 1, 1) := eX7_takeTurn_78.2.2.2.2.2.2.1
theorem dX7_takeTurn_89 : decode cX7_takeTurn 89 = .ok (.invokevirtual 126, 3) := eX7_takeTurn_78.2.2.2.2.2.2.2.1
theorem eX7_takeTurn_92 : decode cX7_takeTurn 92 = .ok (.return_, 1) ∧ decode cX7_takeTurn 93 = .ok (.aload_n 0, 1) ∧ decode cX7_takeTurn 94 = .ok (.dup, 1) ∧ decode cX7_takeTurn 95 = .ok (.getfield 21, 3) ∧ decode cX7_takeTurn 98 = .ok (.iconst 1, 1) ∧ decode cX7_takeTurn 99 = .ok (.iadd, 1) ∧ decode cX7_takeTurn 100 = .ok (.putfield 21, 3) ∧ decode cX7_takeTurn 103 = .ok (.aload_n 1, 1) ∧ True := dkl_ok (c := cX7_takeTurn) [(.return_, 1), (.aload_n 0, 1), (.dup, 1), (.getfield 21, 3), (.iconst 1, 1), (.iadd, 1), (.putfield 21, 3), (.aload_n 1, 1)] 92 (by decide +kernel)
theorem dX7_takeTurn_92 : decode cX7_takeTurn 92 = .ok (.return_, 1) := eX7_takeTurn_92.1
theorem dX7_takeTurn_93 : decode cX7_takeTurn 93 = .ok (.aload_n 0, 1) := eX7_takeTurn_92.2.1
theorem dX7_takeTurn_94 : decode cX7_takeTurn 94 = .ok (.dup, 1) := eX7_takeTurn_92.2.2.1
theorem dX7_takeTurn_95 : decode cX7_takeTurn 95 = .ok (.getfield 21, 3) := eX7_takeTurn_92.2.2.2.1
theorem dX7_takeTurn_98 : decode cX7_takeTurn 98 = .ok (.iconst 1, 1) := eX7_takeTurn_92.2.2.2.2.1
theorem dX7_takeTurn_99 : decode cX7_takeTurn 99 = .ok (.iadd, 1) := eX7_takeTurn_92.2.2.2.2.2.1
theorem dX7_takeTurn_100 : decode cX7_takeTurn 100 = .ok (.putfield 21, 3) := eX7_takeTurn_92.2.2.2.2.2.2.1
theorem dX7_takeTurn_103 : decode cX7_takeTurn 103 = .ok (.aload_n 1, 1) := eX7_takeTurn_92.2.2.2.2.2.2.2.1
theorem eX7_takeTurn_104 : decode cX7_takeTurn 104 = .ok (.getfield 109, 3) ∧ decode cX7_takeTurn 107 = .ok (.invokevirtual 151, 3) ∧ decode cX7_takeTurn 110 = .ok (.ifCond .eq 13, 3) ∧ decode cX7_takeTurn 113 = .ok (.aload_n 0, 1) ∧ decode cX7_takeTurn 114 = .ok (.dup, 1) ∧ decode cX7_takeTurn 115 = .ok (.getfield 24, 3) ∧ decode cX7_takeTurn 118 = .ok (.iconst 1, 1) ∧ decode cX7_takeTurn 119 = .ok (.iadd, 1) ∧ True := dkl_ok (c := cX7_takeTurn) [(.getfield 109, 3), (.invokevirtual 151, 3), (.ifCond .eq 13, 3), (.aload_n 0, 1), (.dup, 1), (.getfield 24, 3), (.iconst 1, 1), (.iadd, 1)] 104 (by decide +kernel)
theorem dX7_takeTurn_104 : decode cX7_takeTurn 104 = .ok (.getfield 109, 3) := eX7_takeTurn_104.1
theorem dX7_takeTurn_107 : decode cX7_takeTurn 107 = .ok (.invokevirtual 151, 3) := eX7_takeTurn_104.2.1
theorem dX7_takeTurn_110 : decode cX7_takeTurn 110 = .ok (.ifCond .eq 13, 3) := eX7_takeTurn_104.2.2.1
theorem dX7_takeTurn_113 : decode cX7_takeTurn 113 = .ok (.aload_n 0, 1) := eX7_takeTurn_104.2.2.2.1
theorem dX7_takeTurn_114 : decode cX7_takeTurn 114 = .ok (.dup, 1) := eX7_takeTurn_104.2.2.2.2.1
theorem dX7_takeTurn_115 : decode cX7_takeTurn 115 = .ok (.getfield 24, 3) := eX7_takeTurn_104.2.2.2.2.2.1
theorem dX7_takeTurn_118 : decode cX7_takeTurn 118 = .ok (.iconst 1, 1) := eX7_takeTurn_104.2.2.2.2.2.2.1
theorem dX7_takeTurn_119 : decode cX7_takeTurn 119 = .ok (.iadd, 1) := eX7_takeTurn_104.2.2.2.2.2.2.2.1
theorem eX7_takeTurn_120 : decode cX7_takeTurn 120 = .ok (.putfield 24, 3) ∧ decode cX7_takeTurn 123 = .ok (.aload_n 1, 1) ∧ decode cX7_takeTurn 124 = .ok (.iload_n 2, 1) ∧ decode cX7_takeTurn 125 = .ok (.invokevirtual 155, 3) ∧ decode cX7_takeTurn 128 = .ok (.pop, 1) ∧ decode cX7_takeTurn 129 = .ok (.return_, 1) ∧ True := dkl_ok (c := cX7_takeTurn) [(.putfield 24, 3), (.aload_n 1, 1), (.iload_n 2, 1), (.invokevirtual 155, 3), (.pop, 1), (.return_, 1)] 120 (by decide +kernel)
theorem dX7_takeTurn_120 : decode cX7_takeTurn 120 = .ok (.putfield 24, 3) := eX7_takeTurn_120.1
theorem dX7_takeTurn_123 : decode cX7_takeTurn 123 = .ok (.aload_n 1, 1) := eX7_takeTurn_120.2.1
theorem dX7_takeTurn_124 : decode cX7_takeTurn 124 = .ok (.iload_n 2, 1) := eX7_takeTurn_120.2.2.1
theorem dX7_takeTurn_125 : decode cX7_takeTurn 125 = .ok (.invokevirtual 155, 3) := eX7_takeTurn_120.2.2.2.1
theorem dX7_takeTurn_128 : decode cX7_takeTurn 128 = .ok (.pop, 1) := eX7_takeTurn_120.2.2.2.2.1
theorem dX7_takeTurn_129 : decode cX7_takeTurn 129 = .ok (.return_, 1) := eX7_takeTurn_120.2.2.2.2.2.1
theorem eX7_choose_0 : decode cX7_choose 0 = .ok (.aload_n 1, 1) ∧ decode cX7_choose 1 = .ok (.getfield 77, 3) ∧ decode cX7_choose 4 = .ok (.aload_n 1, 1) ∧ decode cX7_choose 5 = .ok (.getfield 138, 3) ∧ decode cX7_choose 8 = .ok (.aload_n 1, 1) ∧ decode cX7_choose 9 = .ok (.getfield 158, 3) ∧ decode cX7_choose 12 = .ok (.invokevirtual 161, 3) ∧ decode cX7_choose 15 = .ok (.istore_n 2, 1) ∧ True := dkl_ok (c := cX7_choose) [(.aload_n 1, 1), (.getfield 77, 3), (.aload_n 1, 1), (.getfield 138, 3), (.aload_n 1, 1), (.getfield 158, 3), (.invokevirtual 161, 3), (.istore_n 2, 1)] 0 (by decide +kernel)
theorem dX7_choose_0 : decode cX7_choose 0 = .ok (.aload_n 1, 1) := eX7_choose_0.1
theorem dX7_choose_1 : decode cX7_choose 1 = .ok (.getfield 77, 3) := eX7_choose_0.2.1
theorem dX7_choose_4 : decode cX7_choose 4 = .ok (.aload_n 1, 1) := eX7_choose_0.2.2.1
theorem dX7_choose_5 : decode cX7_choose 5 = .ok (.getfield 138, 3) := eX7_choose_0.2.2.2.1
theorem dX7_choose_8 : decode cX7_choose 8 = .ok (.aload_n 1, 1) := eX7_choose_0.2.2.2.2.1
theorem dX7_choose_9 : decode cX7_choose 9 = .ok (.getfield 158, 3) := eX7_choose_0.2.2.2.2.2.1
theorem dX7_choose_12 : decode cX7_choose 12 = .ok (.invokevirtual 161, 3) := eX7_choose_0.2.2.2.2.2.2.1
theorem dX7_choose_15 : decode cX7_choose 15 = .ok (.istore_n 2, 1) := eX7_choose_0.2.2.2.2.2.2.2.1
theorem eX7_choose_16 : decode cX7_choose 16 = .ok (.iload_n 2, 1) ∧ decode cX7_choose 17 = .ok (.aload_n 1, 1) ∧ decode cX7_choose 18 = .ok (.getfield 129, 3) ∧ decode cX7_choose 21 = .ok (.getfield 165, 3) ∧ decode cX7_choose 24 = .ok (.invokestatic 168, 3) ∧ decode cX7_choose 27 = .ok (.istore_n 3, 1) ∧ decode cX7_choose 28 = .ok (.aload_n 1, 1) ∧ decode cX7_choose 29 = .ok (.invokevirtual 173, 3) ∧ True := dkl_ok (c := cX7_choose) [(.iload_n 2, 1), (.aload_n 1, 1), (.getfield 129, 3), (.getfield 165, 3), (.invokestatic 168, 3), (.istore_n 3, 1), (.aload_n 1, 1), (.invokevirtual 173, 3)] 16 (by decide +kernel)
theorem dX7_choose_16 : decode cX7_choose 16 = .ok (.iload_n 2, 1) := eX7_choose_16.1
theorem dX7_choose_17 : decode cX7_choose 17 = .ok (.aload_n 1, 1) := eX7_choose_16.2.1
theorem dX7_choose_18 : decode cX7_choose 18 = .ok (.getfield 129, 3) := eX7_choose_16.2.2.1
theorem dX7_choose_21 : decode cX7_choose 21 = .ok (.getfield 165, 3) := eX7_choose_16.2.2.2.1
theorem dX7_choose_24 : decode cX7_choose 24 = .ok (.invokestatic 168, 3) := eX7_choose_16.2.2.2.2.1
theorem dX7_choose_27 : decode cX7_choose 27 = .ok (.istore_n 3, 1) := eX7_choose_16.2.2.2.2.2.1
theorem dX7_choose_28 : decode cX7_choose 28 = .ok (.aload_n 1, 1) := eX7_choose_16.2.2.2.2.2.2.1
theorem dX7_choose_29 : decode cX7_choose 29 = .ok (.invokevirtual 173, 3) := eX7_choose_16.2.2.2.2.2.2.2.1
theorem eX7_choose_32 : decode cX7_choose 32 = .ok (.aload_n 1, 1) ∧ decode cX7_choose 33 = .ok (.aload_n 1, 1) ∧ decode cX7_choose 34 = .ok (.getfield 158, 3) ∧ decode cX7_choose 37 = .ok (.iload_n 3, 1) ∧ decode cX7_choose 38 = .ok (.invokevirtual 176, 3) ∧ decode cX7_choose 41 = .ok (.iload_n 3, 1) ∧ decode cX7_choose 42 = .ok (.aload_n 1, 1) ∧ decode cX7_choose 43 = .ok (.getfield 129, 3) ∧ True := dkl_ok (c := cX7_choose) [(.aload_n 1, 1), (.aload_n 1, 1), (.getfield 158, 3), (.iload_n 3, 1), (.invokevirtual 176, 3), (.iload_n 3, 1), (.aload_n 1, 1), (.getfield 129, 3)] 32 (by decide +kernel)
theorem dX7_choose_32 : decode cX7_choose 32 = .ok (.aload_n 1, 1) := eX7_choose_32.1
theorem dX7_choose_33 : decode cX7_choose 33 = .ok (.aload_n 1, 1) := eX7_choose_32.2.1
theorem dX7_choose_34 : decode cX7_choose 34 = .ok (.getfield 158, 3) := eX7_choose_32.2.2.1
theorem dX7_choose_37 : decode cX7_choose 37 = .ok (.iload_n 3, 1) := eX7_choose_32.2.2.2.1
theorem dX7_choose_38 : decode cX7_choose 38 = .ok (.invokevirtual 176, 3) := eX7_choose_32.2.2.2.2.1
theorem dX7_choose_41 : decode cX7_choose 41 = .ok (.iload_n 3, 1) := eX7_choose_32.2.2.2.2.2.1
theorem dX7_choose_42 : decode cX7_choose 42 = .ok (.aload_n 1, 1) := eX7_choose_32.2.2.2.2.2.2.1
theorem dX7_choose_43 : decode cX7_choose 43 = .ok (.getfield 129, 3) := eX7_choose_32.2.2.2.2.2.2.2.1
theorem eX7_choose_46 : decode cX7_choose 46 = .ok (.getfield 165, 3) ∧ decode cX7_choose 49 = .ok (.if_icmp .ge 25, 3) ∧ decode cX7_choose 52 = .ok (.aload_n 1, 1) ∧ decode cX7_choose 53 = .ok (.getfield 77, 3) ∧ decode cX7_choose 56 = .ok (.getfield 102, 3) ∧ decode cX7_choose 59 = .ok (.aload_n 1, 1) ∧ decode cX7_choose 60 = .ok (.getfield 138, 3) ∧ decode cX7_choose 63 = .ok (.invokevirtual 58, 3) ∧ True := dkl_ok (c := cX7_choose) [(.getfield 165, 3), (.if_icmp .ge 25, 3), (.aload_n 1, 1), (.getfield 77, 3), (.getfield 102, 3), (.aload_n 1, 1), (.getfield 138, 3), (.invokevirtual 58, 3)] 46 (by decide +kernel)
theorem dX7_choose_46 : decode cX7_choose 46 = .ok (.getfield 165, 3) := eX7_choose_46.1
theorem dX7_choose_49 : decode cX7_choose 49 = .ok (.if_icmp .ge 25, 3) := eX7_choose_46.2.1
theorem dX7_choose_52 : decode cX7_choose 52 = .ok (.aload_n 1, 1) := eX7_choose_46.2.2.1
theorem dX7_choose_53 : decode cX7_choose 53 = .ok (.getfield 77, 3) := eX7_choose_46.2.2.2.1
theorem dX7_choose_56 : decode cX7_choose 56 = .ok (.getfield 102, 3) := eX7_choose_46.2.2.2.2.1
theorem dX7_choose_59 : decode cX7_choose 59 = .ok (.aload_n 1, 1) := eX7_choose_46.2.2.2.2.2.1
theorem dX7_choose_60 : decode cX7_choose 60 = .ok (.getfield 138, 3) := eX7_choose_46.2.2.2.2.2.2.1
theorem dX7_choose_63 : decode cX7_choose 63 = .ok (.invokevirtual 58, 3) := eX7_choose_46.2.2.2.2.2.2.2.1
theorem eX7_choose_66 : decode cX7_choose 66 = .ok (.iload_n 2, 1) ∧ decode cX7_choose 67 = .ok (.if_icmp .le 7, 3) ∧ decode cX7_choose 70 = .ok (.iconst 1, 1) ∧ decode cX7_choose 71 = .ok (.goto 4, 3) ∧ decode cX7_choose 74 = .ok (.iconst 0, 1) ∧ decode cX7_choose 75 = .ok (.istore 4, 2) ∧ decode cX7_choose 77 = .ok (.iload 4, 2) ∧ decode cX7_choose 79 = .ok (.ifCond .eq 37, 3) ∧ True := dkl_ok (c := cX7_choose) [(.iload_n 2, 1), (.if_icmp .le 7, 3), (.iconst 1, 1), (.goto 4, 3), (.iconst 0, 1), (.istore 4, 2), (.iload 4, 2), (.ifCond .eq 37, 3)] 66 (by decide +kernel)
theorem dX7_choose_66 : decode cX7_choose 66 = .ok (.iload_n 2, 1) := eX7_choose_66.1
theorem dX7_choose_67 : decode cX7_choose 67 = .ok (.if_icmp .le 7, 3) := eX7_choose_66.2.1
theorem dX7_choose_70 : decode cX7_choose 70 = .ok (.iconst 1, 1) := eX7_choose_66.2.2.1
theorem dX7_choose_71 : decode cX7_choose 71 = .ok (.goto 4, 3) := eX7_choose_66.2.2.2.1
theorem dX7_choose_74 : decode cX7_choose 74 = .ok (.iconst 0, 1) := eX7_choose_66.2.2.2.2.1
theorem dX7_choose_75 : decode cX7_choose 75 = .ok (.istore 4, 2) := eX7_choose_66.2.2.2.2.2.1
theorem dX7_choose_77 : decode cX7_choose 77 = .ok (.iload 4, 2) := eX7_choose_66.2.2.2.2.2.2.1
theorem dX7_choose_79 : decode cX7_choose 79 = .ok (.ifCond .eq 37, 3) := eX7_choose_66.2.2.2.2.2.2.2.1
theorem eX7_choose_82 : decode cX7_choose 82 = .ok (.iload_n 2, 1) ∧ decode cX7_choose 83 = .ok (.ifCond .eq 24, 3) ∧ decode cX7_choose 86 = .ok (.aload_n 0, 1) ∧ decode cX7_choose 87 = .ok (.invokevirtual 179, 3) ∧ decode cX7_choose 90 = .ok (.aload_n 1, 1) ∧ decode cX7_choose 91 = .ok (.getfield 77, 3) ∧ decode cX7_choose 94 = .ok (.getfield 91, 3) ∧ decode cX7_choose 97 = .ok (.aload_n 1, 1) ∧ True := dkl_ok (c := cX7_choose) [(.iload_n 2, 1), (.ifCond .eq 24, 3), (.aload_n 0, 1), (.invokevirtual 179, 3), (.aload_n 1, 1), (.getfield 77, 3), (.getfield 91, 3), (.aload_n 1, 1)] 82 (by decide +kernel)
theorem dX7_choose_82 : decode cX7_choose 82 = .ok (.iload_n 2, 1) := eX7_choose_82.1
theorem dX7_choose_83 : decode cX7_choose 83 = .ok (.ifCond .eq 24, 3) := eX7_choose_82.2.1
theorem dX7_choose_86 : decode cX7_choose 86 = .ok (.aload_n 0, 1) := eX7_choose_82.2.2.1
theorem dX7_choose_87 : decode cX7_choose 87 = .ok (.invokevirtual 179, 3) := eX7_choose_82.2.2.2.1
theorem dX7_choose_90 : decode cX7_choose 90 = .ok (.aload_n 1, 1) := eX7_choose_82.2.2.2.2.1
theorem dX7_choose_91 : decode cX7_choose 91 = .ok (.getfield 77, 3) := eX7_choose_82.2.2.2.2.2.1
theorem dX7_choose_94 : decode cX7_choose 94 = .ok (.getfield 91, 3) := eX7_choose_82.2.2.2.2.2.2.1
theorem dX7_choose_97 : decode cX7_choose 97 = .ok (.aload_n 1, 1) := eX7_choose_82.2.2.2.2.2.2.2.1
theorem eX7_choose_98 : decode cX7_choose 98 = .ok (.getfield 138, 3) ∧ decode cX7_choose 101 = .ok (.invokevirtual 58, 3) ∧ decode cX7_choose 104 = .ok (.if_icmp .ge 12, 3) ∧ decode cX7_choose 107 = .ok (.aload_n 1, 1) ∧ decode cX7_choose 108 = .ok (.aload_n 1, 1) ∧ decode cX7_choose 109 = .ok (.invokestatic 182, 3) ∧ decode cX7_choose 112 = .ok (.iconst 1, 1) ∧ decode cX7_choose 113 = .ok (.invokevirtual 176, 3) ∧ True := dkl_ok (c := cX7_choose) [(.getfield 138, 3), (.invokevirtual 58, 3), (.if_icmp .ge 12, 3), (.aload_n 1, 1), (.aload_n 1, 1), (.invokestatic 182, 3), (.iconst 1, 1), (.invokevirtual 176, 3)] 98 (by decide +kernel)
theorem dX7_choose_98 : decode cX7_choose 98 = .ok (.getfield 138, 3) := eX7_choose_98.1
theorem dX7_choose_101 : decode cX7_choose 101 = .ok (.invokevirtual 58, 3) := eX7_choose_98.2.1
theorem dX7_choose_104 : decode cX7_choose 104 = .ok (.if_icmp .ge 12, 3) := eX7_choose_98.2.2.1
theorem dX7_choose_107 : decode cX7_choose 107 = .ok (.aload_n 1, 1) := eX7_choose_98.2.2.2.1
theorem dX7_choose_108 : decode cX7_choose 108 = .ok (.aload_n 1, 1) := eX7_choose_98.2.2.2.2.1
theorem dX7_choose_109 : decode cX7_choose 109 = .ok (.invokestatic 182, 3) := eX7_choose_98.2.2.2.2.2.1
theorem dX7_choose_112 : decode cX7_choose 112 = .ok (.iconst 1, 1) := eX7_choose_98.2.2.2.2.2.2.1
theorem dX7_choose_113 : decode cX7_choose 113 = .ok (.invokevirtual 176, 3) := eX7_choose_98.2.2.2.2.2.2.2.1
theorem eX7_choose_116 : decode cX7_choose 116 = .ok (.return_, 1) ∧ True := dkl_ok (c := cX7_choose) [(.return_, 1)] 116 (by decide +kernel)
theorem dX7_choose_116 : decode cX7_choose 116 = .ok (.return_, 1) := eX7_choose_116.1
theorem eX7_fullestOther_0 : decode cX7_fullestOther 0 = .ok (.iconst (-1), 1) ∧ decode cX7_fullestOther 1 = .ok (.istore_n 1, 1) ∧ decode cX7_fullestOther 2 = .ok (.iconst 0, 1) ∧ decode cX7_fullestOther 3 = .ok (.istore_n 2, 1) ∧ decode cX7_fullestOther 4 = .ok (.iconst 0, 1) ∧ decode cX7_fullestOther 5 = .ok (.istore_n 3, 1) ∧ decode cX7_fullestOther 6 = .ok (.iload_n 3, 1) ∧ decode cX7_fullestOther 7 = .ok (.aload_n 0, 1) ∧ True := dkl_ok (c := cX7_fullestOther) [(.iconst (-1), 1), (.istore_n 1, 1), (.iconst 0, 1), (.istore_n 2, 1), (.iconst 0, 1), (.istore_n 3, 1), (.iload_n 3, 1), (.aload_n 0, 1)] 0 (by decide +kernel)
theorem dX7_fullestOther_0 : decode cX7_fullestOther 0 = .ok (.iconst (-1), 1) := eX7_fullestOther_0.1
theorem dX7_fullestOther_1 : decode cX7_fullestOther 1 = .ok (.istore_n 1, 1) := eX7_fullestOther_0.2.1
theorem dX7_fullestOther_2 : decode cX7_fullestOther 2 = .ok (.iconst 0, 1) := eX7_fullestOther_0.2.2.1
theorem dX7_fullestOther_3 : decode cX7_fullestOther 3 = .ok (.istore_n 2, 1) := eX7_fullestOther_0.2.2.2.1
theorem dX7_fullestOther_4 : decode cX7_fullestOther 4 = .ok (.iconst 0, 1) := eX7_fullestOther_0.2.2.2.2.1
theorem dX7_fullestOther_5 : decode cX7_fullestOther 5 = .ok (.istore_n 3, 1) := eX7_fullestOther_0.2.2.2.2.2.1
theorem dX7_fullestOther_6 : decode cX7_fullestOther 6 = .ok (.iload_n 3, 1) := eX7_fullestOther_0.2.2.2.2.2.2.1
theorem dX7_fullestOther_7 : decode cX7_fullestOther 7 = .ok (.aload_n 0, 1) := eX7_fullestOther_0.2.2.2.2.2.2.2.1
theorem eX7_fullestOther_8 : decode cX7_fullestOther 8 = .ok (.getfield 129, 3) ∧ decode cX7_fullestOther 11 = .ok (.getfield 185, 3) ∧ decode cX7_fullestOther 14 = .ok (.if_icmp .ge 42, 3) ∧ decode cX7_fullestOther 17 = .ok (.aload_n 0, 1) ∧ decode cX7_fullestOther 18 = .ok (.getfield 77, 3) ∧ decode cX7_fullestOther 21 = .ok (.aload_n 0, 1) ∧ decode cX7_fullestOther 22 = .ok (.getfield 138, 3) ∧ decode cX7_fullestOther 25 = .ok (.iload_n 3, 1) ∧ True := dkl_ok (c := cX7_fullestOther) [(.getfield 129, 3), (.getfield 185, 3), (.if_icmp .ge 42, 3), (.aload_n 0, 1), (.getfield 77, 3), (.aload_n 0, 1), (.getfield 138, 3), (.iload_n 3, 1)] 8 (by decide +kernel)
theorem dX7_fullestOther_8 : decode cX7_fullestOther 8 = .ok (.getfield 129, 3) := eX7_fullestOther_8.1
theorem dX7_fullestOther_11 : decode cX7_fullestOther 11 = .ok (.getfield 185, 3) := eX7_fullestOther_8.2.1
theorem dX7_fullestOther_14 : decode cX7_fullestOther 14 = .ok (.if_icmp .ge 42, 3) := eX7_fullestOther_8.2.2.1
theorem dX7_fullestOther_17 : decode cX7_fullestOther 17 = .ok (.aload_n 0, 1) := eX7_fullestOther_8.2.2.2.1
theorem dX7_fullestOther_18 : decode cX7_fullestOther 18 = .ok (.getfield 77, 3) := eX7_fullestOther_8.2.2.2.2.1
theorem dX7_fullestOther_21 : decode cX7_fullestOther 21 = .ok (.aload_n 0, 1) := eX7_fullestOther_8.2.2.2.2.2.1
theorem dX7_fullestOther_22 : decode cX7_fullestOther 22 = .ok (.getfield 138, 3) := eX7_fullestOther_8.2.2.2.2.2.2.1
theorem dX7_fullestOther_25 : decode cX7_fullestOther 25 = .ok (.iload_n 3, 1) := eX7_fullestOther_8.2.2.2.2.2.2.2.1
theorem eX7_fullestOther_26 : decode cX7_fullestOther 26 = .ok (.invokevirtual 161, 3) ∧ decode cX7_fullestOther 29 = .ok (.istore 4, 2) ∧ decode cX7_fullestOther 31 = .ok (.iload_n 3, 1) ∧ decode cX7_fullestOther 32 = .ok (.aload_n 0, 1) ∧ decode cX7_fullestOther 33 = .ok (.getfield 158, 3) ∧ decode cX7_fullestOther 36 = .ok (.if_icmp .eq 14, 3) ∧ decode cX7_fullestOther 39 = .ok (.iload 4, 2) ∧ decode cX7_fullestOther 41 = .ok (.iload_n 2, 1) ∧ True := dkl_ok (c := cX7_fullestOther) [(.invokevirtual 161, 3), (.istore 4, 2), (.iload_n 3, 1), (.aload_n 0, 1), (.getfield 158, 3), (.if_icmp .eq 14, 3), (.iload 4, 2), (.iload_n 2, 1)] 26 (by decide +kernel)
theorem dX7_fullestOther_26 : decode cX7_fullestOther 26 = .ok (.invokevirtual 161, 3) := eX7_fullestOther_26.1
theorem dX7_fullestOther_29 : decode cX7_fullestOther 29 = .ok (.istore 4, 2) := eX7_fullestOther_26.2.1
theorem dX7_fullestOther_31 : decode cX7_fullestOther 31 = .ok (.iload_n 3, 1) := eX7_fullestOther_26.2.2.1
theorem dX7_fullestOther_32 : decode cX7_fullestOther 32 = .ok (.aload_n 0, 1) := eX7_fullestOther_26.2.2.2.1
theorem dX7_fullestOther_33 : decode cX7_fullestOther 33 = .ok (.getfield 158, 3) := eX7_fullestOther_26.2.2.2.2.1
theorem dX7_fullestOther_36 : decode cX7_fullestOther 36 = .ok (.if_icmp .eq 14, 3) := eX7_fullestOther_26.2.2.2.2.2.1
theorem dX7_fullestOther_39 : decode cX7_fullestOther 39 = .ok (.iload 4, 2) := eX7_fullestOther_26.2.2.2.2.2.2.1
theorem dX7_fullestOther_41 : decode cX7_fullestOther 41 = .ok (.iload_n 2, 1) := eX7_fullestOther_26.2.2.2.2.2.2.2.1
theorem eX7_fullestOther_42 : decode cX7_fullestOther 42 = .ok (.if_icmp .le 8, 3) ∧ decode cX7_fullestOther 45 = .ok (.iload 4, 2) ∧ decode cX7_fullestOther 47 = .ok (.istore_n 2, 1) ∧ decode cX7_fullestOther 48 = .ok (.iload_n 3, 1) ∧ decode cX7_fullestOther 49 = .ok (.istore_n 1, 1) ∧ decode cX7_fullestOther 50 = .ok (.iinc 3 1, 3) ∧ decode cX7_fullestOther 53 = .ok (.goto (-47), 3) ∧ decode cX7_fullestOther 56 = .ok (.iload_n 1, 1) ∧ True := dkl_ok (c := cX7_fullestOther) [(.if_icmp .le 8, 3), (.iload 4, 2), (.istore_n 2, 1), (.iload_n 3, 1), (.istore_n 1, 1), (.iinc 3 1, 3), (.goto (-47), 3), (.iload_n 1, 1)] 42 (by decide +kernel)
theorem dX7_fullestOther_42 : decode cX7_fullestOther 42 = .ok (.if_icmp .le 8, 3) := eX7_fullestOther_42.1
theorem dX7_fullestOther_45 : decode cX7_fullestOther 45 = .ok (.iload 4, 2) := eX7_fullestOther_42.2.1
theorem dX7_fullestOther_47 : decode cX7_fullestOther 47 = .ok (.istore_n 2, 1) := eX7_fullestOther_42.2.2.1
theorem dX7_fullestOther_48 : decode cX7_fullestOther 48 = .ok (.iload_n 3, 1) := eX7_fullestOther_42.2.2.2.1
theorem dX7_fullestOther_49 : decode cX7_fullestOther 49 = .ok (.istore_n 1, 1) := eX7_fullestOther_42.2.2.2.2.1
theorem dX7_fullestOther_50 : decode cX7_fullestOther 50 = .ok (.iinc 3 1, 3) := eX7_fullestOther_42.2.2.2.2.2.1
theorem dX7_fullestOther_53 : decode cX7_fullestOther 53 = .ok (.goto (-47), 3) := eX7_fullestOther_42.2.2.2.2.2.2.1
theorem dX7_fullestOther_56 : decode cX7_fullestOther 56 = .ok (.iload_n 1, 1) := eX7_fullestOther_42.2.2.2.2.2.2.2.1
theorem eX7_fullestOther_57 : decode cX7_fullestOther 57 = .ok (.ireturn, 1) ∧ True := dkl_ok (c := cX7_fullestOther) [(.ireturn, 1)] 57 (by decide +kernel)
theorem dX7_fullestOther_57 : decode cX7_fullestOther 57 = .ok (.ireturn, 1) := eX7_fullestOther_57.1
theorem eX7_firstDoubter_0 : decode cX7_firstDoubter 0 = .ok (.iconst 1, 1) ∧ decode cX7_firstDoubter 1 = .ok (.istore_n 2, 1) ∧ decode cX7_firstDoubter 2 = .ok (.iload_n 2, 1) ∧ decode cX7_firstDoubter 3 = .ok (.aload_n 1, 1) ∧ decode cX7_firstDoubter 4 = .ok (.getfield 129, 3) ∧ decode cX7_firstDoubter 7 = .ok (.getfield 133, 3) ∧ decode cX7_firstDoubter 10 = .ok (.if_icmp .ge 50, 3) ∧ decode cX7_firstDoubter 13 = .ok (.aload_n 1, 1) ∧ True := dkl_ok (c := cX7_firstDoubter) [(.iconst 1, 1), (.istore_n 2, 1), (.iload_n 2, 1), (.aload_n 1, 1), (.getfield 129, 3), (.getfield 133, 3), (.if_icmp .ge 50, 3), (.aload_n 1, 1)] 0 (by decide +kernel)
theorem dX7_firstDoubter_0 : decode cX7_firstDoubter 0 = .ok (.iconst 1, 1) := eX7_firstDoubter_0.1
theorem dX7_firstDoubter_1 : decode cX7_firstDoubter 1 = .ok (.istore_n 2, 1) := eX7_firstDoubter_0.2.1
theorem dX7_firstDoubter_2 : decode cX7_firstDoubter 2 = .ok (.iload_n 2, 1) := eX7_firstDoubter_0.2.2.1
theorem dX7_firstDoubter_3 : decode cX7_firstDoubter 3 = .ok (.aload_n 1, 1) := eX7_firstDoubter_0.2.2.2.1
theorem dX7_firstDoubter_4 : decode cX7_firstDoubter 4 = .ok (.getfield 129, 3) := eX7_firstDoubter_0.2.2.2.2.1
theorem dX7_firstDoubter_7 : decode cX7_firstDoubter 7 = .ok (.getfield 133, 3) := eX7_firstDoubter_0.2.2.2.2.2.1
theorem dX7_firstDoubter_10 : decode cX7_firstDoubter 10 = .ok (.if_icmp .ge 50, 3) := eX7_firstDoubter_0.2.2.2.2.2.2.1
theorem dX7_firstDoubter_13 : decode cX7_firstDoubter 13 = .ok (.aload_n 1, 1) := eX7_firstDoubter_0.2.2.2.2.2.2.2.1
theorem eX7_firstDoubter_14 : decode cX7_firstDoubter 14 = .ok (.getfield 129, 3) ∧ decode cX7_firstDoubter 17 = .ok (.aload_n 1, 1) ∧ decode cX7_firstDoubter 18 = .ok (.getfield 138, 3) ∧ decode cX7_firstDoubter 21 = .ok (.iload_n 2, 1) ∧ decode cX7_firstDoubter 22 = .ok (.invokevirtual 188, 3) ∧ decode cX7_firstDoubter 25 = .ok (.istore_n 3, 1) ∧ decode cX7_firstDoubter 26 = .ok (.aload_n 1, 1) ∧ decode cX7_firstDoubter 27 = .ok (.iload_n 3, 1) ∧ True := dkl_ok (c := cX7_firstDoubter) [(.getfield 129, 3), (.aload_n 1, 1), (.getfield 138, 3), (.iload_n 2, 1), (.invokevirtual 188, 3), (.istore_n 3, 1), (.aload_n 1, 1), (.iload_n 3, 1)] 14 (by decide +kernel)
theorem dX7_firstDoubter_14 : decode cX7_firstDoubter 14 = .ok (.getfield 129, 3) := eX7_firstDoubter_14.1
theorem dX7_firstDoubter_17 : decode cX7_firstDoubter 17 = .ok (.aload_n 1, 1) := eX7_firstDoubter_14.2.1
theorem dX7_firstDoubter_18 : decode cX7_firstDoubter 18 = .ok (.getfield 138, 3) := eX7_firstDoubter_14.2.2.1
theorem dX7_firstDoubter_21 : decode cX7_firstDoubter 21 = .ok (.iload_n 2, 1) := eX7_firstDoubter_14.2.2.2.1
theorem dX7_firstDoubter_22 : decode cX7_firstDoubter 22 = .ok (.invokevirtual 188, 3) := eX7_firstDoubter_14.2.2.2.2.1
theorem dX7_firstDoubter_25 : decode cX7_firstDoubter 25 = .ok (.istore_n 3, 1) := eX7_firstDoubter_14.2.2.2.2.2.1
theorem dX7_firstDoubter_26 : decode cX7_firstDoubter 26 = .ok (.aload_n 1, 1) := eX7_firstDoubter_14.2.2.2.2.2.2.1
theorem dX7_firstDoubter_27 : decode cX7_firstDoubter 27 = .ok (.iload_n 3, 1) := eX7_firstDoubter_14.2.2.2.2.2.2.2.1
theorem eX7_firstDoubter_28 : decode cX7_firstDoubter 28 = .ok (.invokevirtual 191, 3) ∧ decode cX7_firstDoubter 31 = .ok (.ifCond .ne 21, 3) ∧ decode cX7_firstDoubter 34 = .ok (.aload_n 0, 1) ∧ decode cX7_firstDoubter 35 = .ok (.invokevirtual 179, 3) ∧ decode cX7_firstDoubter 38 = .ok (.aload_n 1, 1) ∧ decode cX7_firstDoubter 39 = .ok (.getfield 77, 3) ∧ decode cX7_firstDoubter 42 = .ok (.getfield 99, 3) ∧ decode cX7_firstDoubter 45 = .ok (.iload_n 3, 1) ∧ True := dkl_ok (c := cX7_firstDoubter) [(.invokevirtual 191, 3), (.ifCond .ne 21, 3), (.aload_n 0, 1), (.invokevirtual 179, 3), (.aload_n 1, 1), (.getfield 77, 3), (.getfield 99, 3), (.iload_n 3, 1)] 28 (by decide +kernel)
theorem dX7_firstDoubter_28 : decode cX7_firstDoubter 28 = .ok (.invokevirtual 191, 3) := eX7_firstDoubter_28.1
theorem dX7_firstDoubter_31 : decode cX7_firstDoubter 31 = .ok (.ifCond .ne 21, 3) := eX7_firstDoubter_28.2.1
theorem dX7_firstDoubter_34 : decode cX7_firstDoubter 34 = .ok (.aload_n 0, 1) := eX7_firstDoubter_28.2.2.1
theorem dX7_firstDoubter_35 : decode cX7_firstDoubter 35 = .ok (.invokevirtual 179, 3) := eX7_firstDoubter_28.2.2.2.1
theorem dX7_firstDoubter_38 : decode cX7_firstDoubter 38 = .ok (.aload_n 1, 1) := eX7_firstDoubter_28.2.2.2.2.1
theorem dX7_firstDoubter_39 : decode cX7_firstDoubter 39 = .ok (.getfield 77, 3) := eX7_firstDoubter_28.2.2.2.2.2.1
theorem dX7_firstDoubter_42 : decode cX7_firstDoubter 42 = .ok (.getfield 99, 3) := eX7_firstDoubter_28.2.2.2.2.2.2.1
theorem dX7_firstDoubter_45 : decode cX7_firstDoubter 45 = .ok (.iload_n 3, 1) := eX7_firstDoubter_28.2.2.2.2.2.2.2.1
theorem eX7_firstDoubter_46 : decode cX7_firstDoubter 46 = .ok (.invokevirtual 58, 3) ∧ decode cX7_firstDoubter 49 = .ok (.if_icmp .ge 5, 3) ∧ decode cX7_firstDoubter 52 = .ok (.iload_n 3, 1) ∧ decode cX7_firstDoubter 53 = .ok (.ireturn, 1) ∧ decode cX7_firstDoubter 54 = .ok (.iinc 2 1, 3) ∧ decode cX7_firstDoubter 57 = .ok (.goto (-55), 3) ∧ decode cX7_firstDoubter 60 = .ok (.iconst (-1), 1) ∧ decode cX7_firstDoubter 61 = .ok (.ireturn, 1) ∧ True := dkl_ok (c := cX7_firstDoubter) [(.invokevirtual 58, 3), (.if_icmp .ge 5, 3), (.iload_n 3, 1), (.ireturn, 1), (.iinc 2 1, 3), (.goto (-55), 3), (.iconst (-1), 1), (.ireturn, 1)] 46 (by decide +kernel)
theorem dX7_firstDoubter_46 : decode cX7_firstDoubter 46 = .ok (.invokevirtual 58, 3) := eX7_firstDoubter_46.1
theorem dX7_firstDoubter_49 : decode cX7_firstDoubter 49 = .ok (.if_icmp .ge 5, 3) := eX7_firstDoubter_46.2.1
theorem dX7_firstDoubter_52 : decode cX7_firstDoubter 52 = .ok (.iload_n 3, 1) := eX7_firstDoubter_46.2.2.1
theorem dX7_firstDoubter_53 : decode cX7_firstDoubter 53 = .ok (.ireturn, 1) := eX7_firstDoubter_46.2.2.2.1
theorem dX7_firstDoubter_54 : decode cX7_firstDoubter 54 = .ok (.iinc 2 1, 3) := eX7_firstDoubter_46.2.2.2.2.1
theorem dX7_firstDoubter_57 : decode cX7_firstDoubter 57 = .ok (.goto (-55), 3) := eX7_firstDoubter_46.2.2.2.2.2.1
theorem dX7_firstDoubter_60 : decode cX7_firstDoubter 60 = .ok (.iconst (-1), 1) := eX7_firstDoubter_46.2.2.2.2.2.2.1
theorem dX7_firstDoubter_61 : decode cX7_firstDoubter 61 = .ok (.ireturn, 1) := eX7_firstDoubter_46.2.2.2.2.2.2.2.1
theorem eX7_draw_0 : decode cX7_draw 0 = .ok (.aload_n 0, 1) ∧ decode cX7_draw 1 = .ok (.aload_n 0, 1) ∧ decode cX7_draw 2 = .ok (.getfield 31, 3) ∧ decode cX7_draw 5 = .ok (.sipush 2861, 3) ∧ decode cX7_draw 8 = .ok (.imul, 1) ∧ decode cX7_draw 9 = .ok (.sipush 10259, 3) ∧ decode cX7_draw 12 = .ok (.iadd, 1) ∧ decode cX7_draw 13 = .ok (.ldc 195, 2) ∧ True := dkl_ok (c := cX7_draw) [(.aload_n 0, 1), (.aload_n 0, 1), (.getfield 31, 3), (.sipush 2861, 3), (.imul, 1), (.sipush 10259, 3), (.iadd, 1), (.ldc 195, 2)] 0 (by decide +kernel)
theorem dX7_draw_0 : decode cX7_draw 0 = .ok (.aload_n 0, 1) := eX7_draw_0.1
theorem dX7_draw_1 : decode cX7_draw 1 = .ok (.aload_n 0, 1) := eX7_draw_0.2.1
theorem dX7_draw_2 : decode cX7_draw 2 = .ok (.getfield 31, 3) := eX7_draw_0.2.2.1
theorem dX7_draw_5 : decode cX7_draw 5 = .ok (.sipush 2861, 3) := eX7_draw_0.2.2.2.1
theorem dX7_draw_8 : decode cX7_draw 8 = .ok (.imul, 1) := eX7_draw_0.2.2.2.2.1
theorem dX7_draw_9 : decode cX7_draw 9 = .ok (.sipush 10259, 3) := eX7_draw_0.2.2.2.2.2.1
theorem dX7_draw_12 : decode cX7_draw 12 = .ok (.iadd, 1) := eX7_draw_0.2.2.2.2.2.2.1
theorem dX7_draw_13 : decode cX7_draw 13 = .ok (.ldc 195, 2) := eX7_draw_0.2.2.2.2.2.2.2.1
theorem eX7_draw_15 : decode cX7_draw 15 = .ok (.irem, 1) ∧ decode cX7_draw 16 = .ok (.putfield 31, 3) ∧ decode cX7_draw 19 = .ok (.aload_n 0, 1) ∧ decode cX7_draw 20 = .ok (.getfield 31, 3) ∧ decode cX7_draw 23 = .ok (.bipush 8, 2) ∧ decode cX7_draw 25 = .ok (.idiv, 1) ∧ decode cX7_draw 26 = .ok (.bipush 16, 2) ∧ decode cX7_draw 28 = .ok (.irem, 1) ∧ True := dkl_ok (c := cX7_draw) [(.irem, 1), (.putfield 31, 3), (.aload_n 0, 1), (.getfield 31, 3), (.bipush 8, 2), (.idiv, 1), (.bipush 16, 2), (.irem, 1)] 15 (by decide +kernel)
theorem dX7_draw_15 : decode cX7_draw 15 = .ok (.irem, 1) := eX7_draw_15.1
theorem dX7_draw_16 : decode cX7_draw 16 = .ok (.putfield 31, 3) := eX7_draw_15.2.1
theorem dX7_draw_19 : decode cX7_draw 19 = .ok (.aload_n 0, 1) := eX7_draw_15.2.2.1
theorem dX7_draw_20 : decode cX7_draw 20 = .ok (.getfield 31, 3) := eX7_draw_15.2.2.2.1
theorem dX7_draw_23 : decode cX7_draw 23 = .ok (.bipush 8, 2) := eX7_draw_15.2.2.2.2.1
theorem dX7_draw_25 : decode cX7_draw 25 = .ok (.idiv, 1) := eX7_draw_15.2.2.2.2.2.1
theorem dX7_draw_26 : decode cX7_draw 26 = .ok (.bipush 16, 2) := eX7_draw_15.2.2.2.2.2.2.1
theorem dX7_draw_28 : decode cX7_draw 28 = .ok (.irem, 1) := eX7_draw_15.2.2.2.2.2.2.2.1
theorem eX7_draw_29 : decode cX7_draw 29 = .ok (.ireturn, 1) ∧ True := dkl_ok (c := cX7_draw) [(.ireturn, 1)] 29 (by decide +kernel)
theorem dX7_draw_29 : decode cX7_draw 29 = .ok (.ireturn, 1) := eX7_draw_29.1
theorem eX8_init_0 : decode cX8_init 0 = .ok (.aload_n 0, 1) ∧ decode cX8_init 1 = .ok (.invokespecial 5, 3) ∧ decode cX8_init 4 = .ok (.aload_n 0, 1) ∧ decode cX8_init 5 = .ok (.iconst 0, 1) ∧ decode cX8_init 6 = .ok (.putfield 11, 3) ∧ decode cX8_init 9 = .ok (.aload_n 0, 1) ∧ decode cX8_init 10 = .ok (.iconst 0, 1) ∧ decode cX8_init 11 = .ok (.putfield 15, 3) ∧ True := dkl_ok (c := cX8_init) [(.aload_n 0, 1), (.invokespecial 5, 3), (.aload_n 0, 1), (.iconst 0, 1), (.putfield 11, 3), (.aload_n 0, 1), (.iconst 0, 1), (.putfield 15, 3)] 0 (by decide +kernel)
theorem dX8_init_0 : decode cX8_init 0 = .ok (.aload_n 0, 1) := eX8_init_0.1
theorem dX8_init_1 : decode cX8_init 1 = .ok (.invokespecial 5, 3) := eX8_init_0.2.1
theorem dX8_init_4 : decode cX8_init 4 = .ok (.aload_n 0, 1) := eX8_init_0.2.2.1
theorem dX8_init_5 : decode cX8_init 5 = .ok (.iconst 0, 1) := eX8_init_0.2.2.2.1
theorem dX8_init_6 : decode cX8_init 6 = .ok (.putfield 11, 3) := eX8_init_0.2.2.2.2.1
theorem dX8_init_9 : decode cX8_init 9 = .ok (.aload_n 0, 1) := eX8_init_0.2.2.2.2.2.1
theorem dX8_init_10 : decode cX8_init 10 = .ok (.iconst 0, 1) := eX8_init_0.2.2.2.2.2.2.1
theorem dX8_init_11 : decode cX8_init 11 = .ok (.putfield 15, 3) := eX8_init_0.2.2.2.2.2.2.2.1
theorem eX8_init_14 : decode cX8_init 14 = .ok (.aload_n 0, 1) ∧ decode cX8_init 15 = .ok (.iconst 0, 1) ∧ decode cX8_init 16 = .ok (.putfield 19, 3) ∧ decode cX8_init 19 = .ok (.aload_n 0, 1) ∧ decode cX8_init 20 = .ok (.new 22, 3) ∧ decode cX8_init 23 = .ok (.dup, 1) ∧ decode cX8_init 24 = .ok (.bipush 60, 2) ∧ decode cX8_init 26 = .ok (.invokespecial 24, 3) ∧ True := dkl_ok (c := cX8_init) [(.aload_n 0, 1), (.iconst 0, 1), (.putfield 19, 3), (.aload_n 0, 1), (.new 22, 3), (.dup, 1), (.bipush 60, 2), (.invokespecial 24, 3)] 14 (by decide +kernel)
theorem dX8_init_14 : decode cX8_init 14 = .ok (.aload_n 0, 1) := eX8_init_14.1
theorem dX8_init_15 : decode cX8_init 15 = .ok (.iconst 0, 1) := eX8_init_14.2.1
theorem dX8_init_16 : decode cX8_init 16 = .ok (.putfield 19, 3) := eX8_init_14.2.2.1
theorem dX8_init_19 : decode cX8_init 19 = .ok (.aload_n 0, 1) := eX8_init_14.2.2.2.1
theorem dX8_init_20 : decode cX8_init 20 = .ok (.new 22, 3) := eX8_init_14.2.2.2.2.1
theorem dX8_init_23 : decode cX8_init 23 = .ok (.dup, 1) := eX8_init_14.2.2.2.2.2.1
theorem dX8_init_24 : decode cX8_init 24 = .ok (.bipush 60, 2) := eX8_init_14.2.2.2.2.2.2.1
theorem dX8_init_26 : decode cX8_init 26 = .ok (.invokespecial 24, 3) := eX8_init_14.2.2.2.2.2.2.2.1
theorem eX8_init_29 : decode cX8_init 29 = .ok (.putfield 27, 3) ∧ decode cX8_init 32 = .ok (.aload_n 0, 1) ∧ decode cX8_init 33 = .ok (.new 22, 3) ∧ decode cX8_init 36 = .ok (.dup, 1) ∧ decode cX8_init 37 = .ok (.bipush 60, 2) ∧ decode cX8_init 39 = .ok (.invokespecial 24, 3) ∧ decode cX8_init 42 = .ok (.putfield 31, 3) ∧ decode cX8_init 45 = .ok (.aload_n 0, 1) ∧ True := dkl_ok (c := cX8_init) [(.putfield 27, 3), (.aload_n 0, 1), (.new 22, 3), (.dup, 1), (.bipush 60, 2), (.invokespecial 24, 3), (.putfield 31, 3), (.aload_n 0, 1)] 29 (by decide +kernel)
theorem dX8_init_29 : decode cX8_init 29 = .ok (.putfield 27, 3) := eX8_init_29.1
theorem dX8_init_32 : decode cX8_init 32 = .ok (.aload_n 0, 1) := eX8_init_29.2.1
theorem dX8_init_33 : decode cX8_init 33 = .ok (.new 22, 3) := eX8_init_29.2.2.1
theorem dX8_init_36 : decode cX8_init 36 = .ok (.dup, 1) := eX8_init_29.2.2.2.1
theorem dX8_init_37 : decode cX8_init 37 = .ok (.bipush 60, 2) := eX8_init_29.2.2.2.2.1
theorem dX8_init_39 : decode cX8_init 39 = .ok (.invokespecial 24, 3) := eX8_init_29.2.2.2.2.2.1
theorem dX8_init_42 : decode cX8_init 42 = .ok (.putfield 31, 3) := eX8_init_29.2.2.2.2.2.2.1
theorem dX8_init_45 : decode cX8_init 45 = .ok (.aload_n 0, 1) := eX8_init_29.2.2.2.2.2.2.2.1
theorem eX8_init_46 : decode cX8_init 46 = .ok (.new 22, 3) ∧ decode cX8_init 49 = .ok (.dup, 1) ∧ decode cX8_init 50 = .ok (.bipush 60, 2) ∧ decode cX8_init 52 = .ok (.invokespecial 24, 3) ∧ decode cX8_init 55 = .ok (.putfield 34, 3) ∧ decode cX8_init 58 = .ok (.aload_n 0, 1) ∧ decode cX8_init 59 = .ok (.new 22, 3) ∧ decode cX8_init 62 = .ok (.dup, 1) ∧ True := dkl_ok (c := cX8_init) [(.new 22, 3), (.dup, 1), (.bipush 60, 2), (.invokespecial 24, 3), (.putfield 34, 3), (.aload_n 0, 1), (.new 22, 3), (.dup, 1)] 46 (by decide +kernel)
theorem dX8_init_46 : decode cX8_init 46 = .ok (.new 22, 3) := eX8_init_46.1
theorem dX8_init_49 : decode cX8_init 49 = .ok (.dup, 1) := eX8_init_46.2.1
theorem dX8_init_50 : decode cX8_init 50 = .ok (.bipush 60, 2) := eX8_init_46.2.2.1
theorem dX8_init_52 : decode cX8_init 52 = .ok (.invokespecial 24, 3) := eX8_init_46.2.2.2.1
theorem dX8_init_55 : decode cX8_init 55 = .ok (.putfield 34, 3) := eX8_init_46.2.2.2.2.1
theorem dX8_init_58 : decode cX8_init 58 = .ok (.aload_n 0, 1) := eX8_init_46.2.2.2.2.2.1
theorem dX8_init_59 : decode cX8_init 59 = .ok (.new 22, 3) := eX8_init_46.2.2.2.2.2.2.1
theorem dX8_init_62 : decode cX8_init 62 = .ok (.dup, 1) := eX8_init_46.2.2.2.2.2.2.2.1
theorem eX8_init_63 : decode cX8_init 63 = .ok (.bipush 60, 2) ∧ decode cX8_init 65 = .ok (.invokespecial 24, 3) ∧ decode cX8_init 68 = .ok (.putfield 37, 3) ∧ decode cX8_init 71 = .ok (.aload_n 0, 1) ∧ decode cX8_init 72 = .ok (.new 22, 3) ∧ decode cX8_init 75 = .ok (.dup, 1) ∧ decode cX8_init 76 = .ok (.bipush 60, 2) ∧ decode cX8_init 78 = .ok (.invokespecial 24, 3) ∧ True := dkl_ok (c := cX8_init) [(.bipush 60, 2), (.invokespecial 24, 3), (.putfield 37, 3), (.aload_n 0, 1), (.new 22, 3), (.dup, 1), (.bipush 60, 2), (.invokespecial 24, 3)] 63 (by decide +kernel)
theorem dX8_init_63 : decode cX8_init 63 = .ok (.bipush 60, 2) := eX8_init_63.1
theorem dX8_init_65 : decode cX8_init 65 = .ok (.invokespecial 24, 3) := eX8_init_63.2.1
theorem dX8_init_68 : decode cX8_init 68 = .ok (.putfield 37, 3) := eX8_init_63.2.2.1
theorem dX8_init_71 : decode cX8_init 71 = .ok (.aload_n 0, 1) := eX8_init_63.2.2.2.1
theorem dX8_init_72 : decode cX8_init 72 = .ok (.new 22, 3) := eX8_init_63.2.2.2.2.1
theorem dX8_init_75 : decode cX8_init 75 = .ok (.dup, 1) := eX8_init_63.2.2.2.2.2.1
theorem dX8_init_76 : decode cX8_init 76 = .ok (.bipush 60, 2) := eX8_init_63.2.2.2.2.2.2.1
theorem dX8_init_78 : decode cX8_init 78 = .ok (.invokespecial 24, 3) := eX8_init_63.2.2.2.2.2.2.2.1
theorem eX8_init_81 : decode cX8_init 81 = .ok (.putfield 40, 3) ∧ decode cX8_init 84 = .ok (.return_, 1) ∧ True := dkl_ok (c := cX8_init) [(.putfield 40, 3), (.return_, 1)] 81 (by decide +kernel)
theorem dX8_init_81 : decode cX8_init 81 = .ok (.putfield 40, 3) := eX8_init_81.1
theorem dX8_init_84 : decode cX8_init 84 = .ok (.return_, 1) := eX8_init_81.2.1
theorem eX8_clear_0 : decode cX8_clear 0 = .ok (.aload_n 0, 1) ∧ decode cX8_clear 1 = .ok (.iconst 0, 1) ∧ decode cX8_clear 2 = .ok (.putfield 11, 3) ∧ decode cX8_clear 5 = .ok (.aload_n 0, 1) ∧ decode cX8_clear 6 = .ok (.iconst 0, 1) ∧ decode cX8_clear 7 = .ok (.putfield 15, 3) ∧ decode cX8_clear 10 = .ok (.aload_n 0, 1) ∧ decode cX8_clear 11 = .ok (.iconst 0, 1) ∧ True := dkl_ok (c := cX8_clear) [(.aload_n 0, 1), (.iconst 0, 1), (.putfield 11, 3), (.aload_n 0, 1), (.iconst 0, 1), (.putfield 15, 3), (.aload_n 0, 1), (.iconst 0, 1)] 0 (by decide +kernel)
theorem dX8_clear_0 : decode cX8_clear 0 = .ok (.aload_n 0, 1) := eX8_clear_0.1
theorem dX8_clear_1 : decode cX8_clear 1 = .ok (.iconst 0, 1) := eX8_clear_0.2.1
theorem dX8_clear_2 : decode cX8_clear 2 = .ok (.putfield 11, 3) := eX8_clear_0.2.2.1
theorem dX8_clear_5 : decode cX8_clear 5 = .ok (.aload_n 0, 1) := eX8_clear_0.2.2.2.1
theorem dX8_clear_6 : decode cX8_clear 6 = .ok (.iconst 0, 1) := eX8_clear_0.2.2.2.2.1
theorem dX8_clear_7 : decode cX8_clear 7 = .ok (.putfield 15, 3) := eX8_clear_0.2.2.2.2.2.1
theorem dX8_clear_10 : decode cX8_clear 10 = .ok (.aload_n 0, 1) := eX8_clear_0.2.2.2.2.2.2.1
theorem dX8_clear_11 : decode cX8_clear 11 = .ok (.iconst 0, 1) := eX8_clear_0.2.2.2.2.2.2.2.1
theorem eX8_clear_12 : decode cX8_clear 12 = .ok (.putfield 19, 3) ∧ decode cX8_clear 15 = .ok (.return_, 1) ∧ True := dkl_ok (c := cX8_clear) [(.putfield 19, 3), (.return_, 1)] 12 (by decide +kernel)
theorem dX8_clear_12 : decode cX8_clear 12 = .ok (.putfield 19, 3) := eX8_clear_12.1
theorem dX8_clear_15 : decode cX8_clear 15 = .ok (.return_, 1) := eX8_clear_12.2.1
theorem eX8_copyFrom_0 : decode cX8_copyFrom 0 = .ok (.aload_n 0, 1) ∧ decode cX8_copyFrom 1 = .ok (.aload_n 1, 1) ∧ decode cX8_copyFrom 2 = .ok (.getfield 11, 3) ∧ decode cX8_copyFrom 5 = .ok (.putfield 11, 3) ∧ decode cX8_copyFrom 8 = .ok (.aload_n 0, 1) ∧ decode cX8_copyFrom 9 = .ok (.aload_n 1, 1) ∧ decode cX8_copyFrom 10 = .ok (.getfield 15, 3) ∧ decode cX8_copyFrom 13 = .ok (.putfield 15, 3) ∧ True := dkl_ok (c := cX8_copyFrom) [(.aload_n 0, 1), (.aload_n 1, 1), (.getfield 11, 3), (.putfield 11, 3), (.aload_n 0, 1), (.aload_n 1, 1), (.getfield 15, 3), (.putfield 15, 3)] 0 (by decide +kernel)
theorem dX8_copyFrom_0 : decode cX8_copyFrom 0 = .ok (.aload_n 0, 1) := eX8_copyFrom_0.1
theorem dX8_copyFrom_1 : decode cX8_copyFrom 1 = .ok (.aload_n 1, 1) := eX8_copyFrom_0.2.1
theorem dX8_copyFrom_2 : decode cX8_copyFrom 2 = .ok (.getfield 11, 3) := eX8_copyFrom_0.2.2.1
theorem dX8_copyFrom_5 : decode cX8_copyFrom 5 = .ok (.putfield 11, 3) := eX8_copyFrom_0.2.2.2.1
theorem dX8_copyFrom_8 : decode cX8_copyFrom 8 = .ok (.aload_n 0, 1) := eX8_copyFrom_0.2.2.2.2.1
theorem dX8_copyFrom_9 : decode cX8_copyFrom 9 = .ok (.aload_n 1, 1) := eX8_copyFrom_0.2.2.2.2.2.1
theorem dX8_copyFrom_10 : decode cX8_copyFrom 10 = .ok (.getfield 15, 3) := eX8_copyFrom_0.2.2.2.2.2.2.1
theorem dX8_copyFrom_13 : decode cX8_copyFrom 13 = .ok (.putfield 15, 3) := eX8_copyFrom_0.2.2.2.2.2.2.2.1
theorem eX8_copyFrom_16 : decode cX8_copyFrom 16 = .ok (.aload_n 0, 1) ∧ decode cX8_copyFrom 17 = .ok (.aload_n 1, 1) ∧ decode cX8_copyFrom 18 = .ok (.getfield 19, 3) ∧ decode cX8_copyFrom 21 = .ok (.putfield 19, 3) ∧ decode cX8_copyFrom 24 = .ok (.aload_n 0, 1) ∧ decode cX8_copyFrom 25 = .ok (.getfield 27, 3) ∧ decode cX8_copyFrom 28 = .ok (.aload_n 1, 1) ∧ decode cX8_copyFrom 29 = .ok (.getfield 27, 3) ∧ True := dkl_ok (c := cX8_copyFrom) [(.aload_n 0, 1), (.aload_n 1, 1), (.getfield 19, 3), (.putfield 19, 3), (.aload_n 0, 1), (.getfield 27, 3), (.aload_n 1, 1), (.getfield 27, 3)] 16 (by decide +kernel)
theorem dX8_copyFrom_16 : decode cX8_copyFrom 16 = .ok (.aload_n 0, 1) := eX8_copyFrom_16.1
theorem dX8_copyFrom_17 : decode cX8_copyFrom 17 = .ok (.aload_n 1, 1) := eX8_copyFrom_16.2.1
theorem dX8_copyFrom_18 : decode cX8_copyFrom 18 = .ok (.getfield 19, 3) := eX8_copyFrom_16.2.2.1
theorem dX8_copyFrom_21 : decode cX8_copyFrom 21 = .ok (.putfield 19, 3) := eX8_copyFrom_16.2.2.2.1
theorem dX8_copyFrom_24 : decode cX8_copyFrom 24 = .ok (.aload_n 0, 1) := eX8_copyFrom_16.2.2.2.2.1
theorem dX8_copyFrom_25 : decode cX8_copyFrom 25 = .ok (.getfield 27, 3) := eX8_copyFrom_16.2.2.2.2.2.1
theorem dX8_copyFrom_28 : decode cX8_copyFrom 28 = .ok (.aload_n 1, 1) := eX8_copyFrom_16.2.2.2.2.2.2.1
theorem dX8_copyFrom_29 : decode cX8_copyFrom 29 = .ok (.getfield 27, 3) := eX8_copyFrom_16.2.2.2.2.2.2.2.1
theorem eX8_copyFrom_32 : decode cX8_copyFrom 32 = .ok (.invokevirtual 43, 3) ∧ decode cX8_copyFrom 35 = .ok (.aload_n 0, 1) ∧ decode cX8_copyFrom 36 = .ok (.getfield 31, 3) ∧ decode cX8_copyFrom 39 = .ok (.aload_n 1, 1) ∧ decode cX8_copyFrom 40 = .ok (.getfield 31, 3) ∧ decode cX8_copyFrom 43 = .ok (.invokevirtual 43, 3) ∧ decode cX8_copyFrom 46 = .ok (.aload_n 0, 1) ∧ decode cX8_copyFrom 47 = .ok (.getfield 34, 3) ∧ True := dkl_ok (c := cX8_copyFrom) [(.invokevirtual 43, 3), (.aload_n 0, 1), (.getfield 31, 3), (.aload_n 1, 1), (.getfield 31, 3), (.invokevirtual 43, 3), (.aload_n 0, 1), (.getfield 34, 3)] 32 (by decide +kernel)
theorem dX8_copyFrom_32 : decode cX8_copyFrom 32 = .ok (.invokevirtual 43, 3) := eX8_copyFrom_32.1
theorem dX8_copyFrom_35 : decode cX8_copyFrom 35 = .ok (.aload_n 0, 1) := eX8_copyFrom_32.2.1
theorem dX8_copyFrom_36 : decode cX8_copyFrom 36 = .ok (.getfield 31, 3) := eX8_copyFrom_32.2.2.1
theorem dX8_copyFrom_39 : decode cX8_copyFrom 39 = .ok (.aload_n 1, 1) := eX8_copyFrom_32.2.2.2.1
theorem dX8_copyFrom_40 : decode cX8_copyFrom 40 = .ok (.getfield 31, 3) := eX8_copyFrom_32.2.2.2.2.1
theorem dX8_copyFrom_43 : decode cX8_copyFrom 43 = .ok (.invokevirtual 43, 3) := eX8_copyFrom_32.2.2.2.2.2.1
theorem dX8_copyFrom_46 : decode cX8_copyFrom 46 = .ok (.aload_n 0, 1) := eX8_copyFrom_32.2.2.2.2.2.2.1
theorem dX8_copyFrom_47 : decode cX8_copyFrom 47 = .ok (.getfield 34, 3) := eX8_copyFrom_32.2.2.2.2.2.2.2.1
theorem eX8_copyFrom_50 : decode cX8_copyFrom 50 = .ok (.aload_n 1, 1) ∧ decode cX8_copyFrom 51 = .ok (.getfield 34, 3) ∧ decode cX8_copyFrom 54 = .ok (.invokevirtual 43, 3) ∧ decode cX8_copyFrom 57 = .ok (.aload_n 0, 1) ∧ decode cX8_copyFrom 58 = .ok (.getfield 37, 3) ∧ decode cX8_copyFrom 61 = .ok (.aload_n 1, 1) ∧ decode cX8_copyFrom 62 = .ok (.getfield 37, 3) ∧ decode cX8_copyFrom 65 = .ok (.invokevirtual 43, 3) ∧ True := dkl_ok (c := cX8_copyFrom) [(.aload_n 1, 1), (.getfield 34, 3), (.invokevirtual 43, 3), (.aload_n 0, 1), (.getfield 37, 3), (.aload_n 1, 1), (.getfield 37, 3), (.invokevirtual 43, 3)] 50 (by decide +kernel)
theorem dX8_copyFrom_50 : decode cX8_copyFrom 50 = .ok (.aload_n 1, 1) := eX8_copyFrom_50.1
theorem dX8_copyFrom_51 : decode cX8_copyFrom 51 = .ok (.getfield 34, 3) := eX8_copyFrom_50.2.1
theorem dX8_copyFrom_54 : decode cX8_copyFrom 54 = .ok (.invokevirtual 43, 3) := eX8_copyFrom_50.2.2.1
theorem dX8_copyFrom_57 : decode cX8_copyFrom 57 = .ok (.aload_n 0, 1) := eX8_copyFrom_50.2.2.2.1
theorem dX8_copyFrom_58 : decode cX8_copyFrom 58 = .ok (.getfield 37, 3) := eX8_copyFrom_50.2.2.2.2.1
theorem dX8_copyFrom_61 : decode cX8_copyFrom 61 = .ok (.aload_n 1, 1) := eX8_copyFrom_50.2.2.2.2.2.1
theorem dX8_copyFrom_62 : decode cX8_copyFrom 62 = .ok (.getfield 37, 3) := eX8_copyFrom_50.2.2.2.2.2.2.1
theorem dX8_copyFrom_65 : decode cX8_copyFrom 65 = .ok (.invokevirtual 43, 3) := eX8_copyFrom_50.2.2.2.2.2.2.2.1
theorem eX8_copyFrom_68 : decode cX8_copyFrom 68 = .ok (.aload_n 0, 1) ∧ decode cX8_copyFrom 69 = .ok (.getfield 40, 3) ∧ decode cX8_copyFrom 72 = .ok (.aload_n 1, 1) ∧ decode cX8_copyFrom 73 = .ok (.getfield 40, 3) ∧ decode cX8_copyFrom 76 = .ok (.invokevirtual 43, 3) ∧ decode cX8_copyFrom 79 = .ok (.return_, 1) ∧ True := dkl_ok (c := cX8_copyFrom) [(.aload_n 0, 1), (.getfield 40, 3), (.aload_n 1, 1), (.getfield 40, 3), (.invokevirtual 43, 3), (.return_, 1)] 68 (by decide +kernel)
theorem dX8_copyFrom_68 : decode cX8_copyFrom 68 = .ok (.aload_n 0, 1) := eX8_copyFrom_68.1
theorem dX8_copyFrom_69 : decode cX8_copyFrom 69 = .ok (.getfield 40, 3) := eX8_copyFrom_68.2.1
theorem dX8_copyFrom_72 : decode cX8_copyFrom 72 = .ok (.aload_n 1, 1) := eX8_copyFrom_68.2.2.1
theorem dX8_copyFrom_73 : decode cX8_copyFrom 73 = .ok (.getfield 40, 3) := eX8_copyFrom_68.2.2.2.1
theorem dX8_copyFrom_76 : decode cX8_copyFrom 76 = .ok (.invokevirtual 43, 3) := eX8_copyFrom_68.2.2.2.2.1
theorem dX8_copyFrom_79 : decode cX8_copyFrom 79 = .ok (.return_, 1) := eX8_copyFrom_68.2.2.2.2.2.1
theorem eX8_add_0 : decode cX8_add 0 = .ok (.aload_n 0, 1) ∧ decode cX8_add 1 = .ok (.getfield 27, 3) ∧ decode cX8_add 4 = .ok (.aload_n 0, 1) ∧ decode cX8_add 5 = .ok (.getfield 19, 3) ∧ decode cX8_add 8 = .ok (.iload_n 1, 1) ∧ decode cX8_add 9 = .ok (.invokevirtual 47, 3) ∧ decode cX8_add 12 = .ok (.aload_n 0, 1) ∧ decode cX8_add 13 = .ok (.dup, 1) ∧ True := dkl_ok (c := cX8_add) [(.aload_n 0, 1), (.getfield 27, 3), (.aload_n 0, 1), (.getfield 19, 3), (.iload_n 1, 1), (.invokevirtual 47, 3), (.aload_n 0, 1), (.dup, 1)] 0 (by decide +kernel)
theorem dX8_add_0 : decode cX8_add 0 = .ok (.aload_n 0, 1) := eX8_add_0.1
theorem dX8_add_1 : decode cX8_add 1 = .ok (.getfield 27, 3) := eX8_add_0.2.1
theorem dX8_add_4 : decode cX8_add 4 = .ok (.aload_n 0, 1) := eX8_add_0.2.2.1
theorem dX8_add_5 : decode cX8_add 5 = .ok (.getfield 19, 3) := eX8_add_0.2.2.2.1
theorem dX8_add_8 : decode cX8_add 8 = .ok (.iload_n 1, 1) := eX8_add_0.2.2.2.2.1
theorem dX8_add_9 : decode cX8_add 9 = .ok (.invokevirtual 47, 3) := eX8_add_0.2.2.2.2.2.1
theorem dX8_add_12 : decode cX8_add 12 = .ok (.aload_n 0, 1) := eX8_add_0.2.2.2.2.2.2.1
theorem dX8_add_13 : decode cX8_add 13 = .ok (.dup, 1) := eX8_add_0.2.2.2.2.2.2.2.1
theorem eX8_add_14 : decode cX8_add 14 = .ok (.getfield 19, 3) ∧ decode cX8_add 17 = .ok (.iconst 1, 1) ∧ decode cX8_add 18 = .ok (.iadd, 1) ∧ decode cX8_add 19 = .ok (.putfield 19, 3) ∧ decode cX8_add 22 = .ok (.aload_n 0, 1) ∧ decode cX8_add 23 = .ok (.getfield 19, 3) ∧ decode cX8_add 26 = .ok (.iconst 1, 1) ∧ decode cX8_add 27 = .ok (.isub, 1) ∧ True := dkl_ok (c := cX8_add) [(.getfield 19, 3), (.iconst 1, 1), (.iadd, 1), (.putfield 19, 3), (.aload_n 0, 1), (.getfield 19, 3), (.iconst 1, 1), (.isub, 1)] 14 (by decide +kernel)
theorem dX8_add_14 : decode cX8_add 14 = .ok (.getfield 19, 3) := eX8_add_14.1
theorem dX8_add_17 : decode cX8_add 17 = .ok (.iconst 1, 1) := eX8_add_14.2.1
theorem dX8_add_18 : decode cX8_add 18 = .ok (.iadd, 1) := eX8_add_14.2.2.1
theorem dX8_add_19 : decode cX8_add 19 = .ok (.putfield 19, 3) := eX8_add_14.2.2.2.1
theorem dX8_add_22 : decode cX8_add 22 = .ok (.aload_n 0, 1) := eX8_add_14.2.2.2.2.1
theorem dX8_add_23 : decode cX8_add 23 = .ok (.getfield 19, 3) := eX8_add_14.2.2.2.2.2.1
theorem dX8_add_26 : decode cX8_add 26 = .ok (.iconst 1, 1) := eX8_add_14.2.2.2.2.2.2.1
theorem dX8_add_27 : decode cX8_add 27 = .ok (.isub, 1) := eX8_add_14.2.2.2.2.2.2.2.1
theorem eX8_add_28 : decode cX8_add 28 = .ok (.ireturn, 1) ∧ True := dkl_ok (c := cX8_add) [(.ireturn, 1)] 28 (by decide +kernel)
theorem dX8_add_28 : decode cX8_add 28 = .ok (.ireturn, 1) := eX8_add_28.1
theorem eX8_meets_0 : decode cX8_meets 0 = .ok (.aload_n 0, 1) ∧ decode cX8_meets 1 = .ok (.getfield 40, 3) ∧ decode cX8_meets 4 = .ok (.iload_n 1, 1) ∧ decode cX8_meets 5 = .ok (.invokevirtual 51, 3) ∧ decode cX8_meets 8 = .ok (.istore_n 3, 1) ∧ decode cX8_meets 9 = .ok (.aload_n 0, 1) ∧ decode cX8_meets 10 = .ok (.getfield 37, 3) ∧ decode cX8_meets 13 = .ok (.iload_n 1, 1) ∧ True := dkl_ok (c := cX8_meets) [(.aload_n 0, 1), (.getfield 40, 3), (.iload_n 1, 1), (.invokevirtual 51, 3), (.istore_n 3, 1), (.aload_n 0, 1), (.getfield 37, 3), (.iload_n 1, 1)] 0 (by decide +kernel)
theorem dX8_meets_0 : decode cX8_meets 0 = .ok (.aload_n 0, 1) := eX8_meets_0.1
theorem dX8_meets_1 : decode cX8_meets 1 = .ok (.getfield 40, 3) := eX8_meets_0.2.1
theorem dX8_meets_4 : decode cX8_meets 4 = .ok (.iload_n 1, 1) := eX8_meets_0.2.2.1
theorem dX8_meets_5 : decode cX8_meets 5 = .ok (.invokevirtual 51, 3) := eX8_meets_0.2.2.2.1
theorem dX8_meets_8 : decode cX8_meets 8 = .ok (.istore_n 3, 1) := eX8_meets_0.2.2.2.2.1
theorem dX8_meets_9 : decode cX8_meets 9 = .ok (.aload_n 0, 1) := eX8_meets_0.2.2.2.2.2.1
theorem dX8_meets_10 : decode cX8_meets 10 = .ok (.getfield 37, 3) := eX8_meets_0.2.2.2.2.2.2.1
theorem dX8_meets_13 : decode cX8_meets 13 = .ok (.iload_n 1, 1) := eX8_meets_0.2.2.2.2.2.2.2.1
theorem eX8_meets_14 : decode cX8_meets 14 = .ok (.invokevirtual 51, 3) ∧ decode cX8_meets 17 = .ok (.istore 4, 2) ∧ decode cX8_meets 19 = .ok (.iload 4, 2) ∧ decode cX8_meets 21 = .ok (.bipush 60, 2) ∧ decode cX8_meets 23 = .ok (.if_icmp .ne 14, 3) ∧ decode cX8_meets 26 = .ok (.iload_n 2, 1) ∧ decode cX8_meets 27 = .ok (.iload_n 3, 1) ∧ decode cX8_meets 28 = .ok (.if_icmp .ge 7, 3) ∧ True := dkl_ok (c := cX8_meets) [(.invokevirtual 51, 3), (.istore 4, 2), (.iload 4, 2), (.bipush 60, 2), (.if_icmp .ne 14, 3), (.iload_n 2, 1), (.iload_n 3, 1), (.if_icmp .ge 7, 3)] 14 (by decide +kernel)
theorem dX8_meets_14 : decode cX8_meets 14 = .ok (.invokevirtual 51, 3) := eX8_meets_14.1
theorem dX8_meets_17 : decode cX8_meets 17 = .ok (.istore 4, 2) := eX8_meets_14.2.1
theorem dX8_meets_19 : decode cX8_meets 19 = .ok (.iload 4, 2) := eX8_meets_14.2.2.1
theorem dX8_meets_21 : decode cX8_meets 21 = .ok (.bipush 60, 2) := eX8_meets_14.2.2.2.1
theorem dX8_meets_23 : decode cX8_meets 23 = .ok (.if_icmp .ne 14, 3) := eX8_meets_14.2.2.2.2.1
theorem dX8_meets_26 : decode cX8_meets 26 = .ok (.iload_n 2, 1) := eX8_meets_14.2.2.2.2.2.1
theorem dX8_meets_27 : decode cX8_meets 27 = .ok (.iload_n 3, 1) := eX8_meets_14.2.2.2.2.2.2.1
theorem dX8_meets_28 : decode cX8_meets 28 = .ok (.if_icmp .ge 7, 3) := eX8_meets_14.2.2.2.2.2.2.2.1
theorem eX8_meets_31 : decode cX8_meets 31 = .ok (.iconst 1, 1) ∧ decode cX8_meets 32 = .ok (.goto 4, 3) ∧ decode cX8_meets 35 = .ok (.iconst 0, 1) ∧ decode cX8_meets 36 = .ok (.ireturn, 1) ∧ decode cX8_meets 37 = .ok (.iload 4, 2) ∧ decode cX8_meets 39 = .ok (.bipush 62, 2) ∧ decode cX8_meets 41 = .ok (.if_icmp .ne 16, 3) ∧ decode cX8_meets 44 = .ok (.iload_n 2, 1) ∧ True := dkl_ok (c := cX8_meets) [(.iconst 1, 1), (.goto 4, 3), (.iconst 0, 1), (.ireturn, 1), (.iload 4, 2), (.bipush 62, 2), (.if_icmp .ne 16, 3), (.iload_n 2, 1)] 31 (by decide +kernel)
theorem dX8_meets_31 : decode cX8_meets 31 = .ok (.iconst 1, 1) := eX8_meets_31.1
theorem dX8_meets_32 : decode cX8_meets 32 = .ok (.goto 4, 3) := eX8_meets_31.2.1
theorem dX8_meets_35 : decode cX8_meets 35 = .ok (.iconst 0, 1) := eX8_meets_31.2.2.1
theorem dX8_meets_36 : decode cX8_meets 36 = .ok (.ireturn, 1) := eX8_meets_31.2.2.2.1
theorem dX8_meets_37 : decode cX8_meets 37 = .ok (.iload 4, 2) := eX8_meets_31.2.2.2.2.1
theorem dX8_meets_39 : decode cX8_meets 39 = .ok (.bipush 62, 2) := eX8_meets_31.2.2.2.2.2.1
theorem dX8_meets_41 : decode cX8_meets 41 = .ok (.if_icmp .ne 16, 3) := eX8_meets_31.2.2.2.2.2.2.1
theorem dX8_meets_44 : decode cX8_meets 44 = .ok (.iload_n 2, 1) := eX8_meets_31.2.2.2.2.2.2.2.1
theorem eX8_meets_45 : decode cX8_meets 45 = .ok (.iload_n 3, 1) ∧ decode cX8_meets 46 = .ok (.if_icmp .le 7, 3) ∧ decode cX8_meets 49 = .ok (.iconst 1, 1) ∧ decode cX8_meets 50 = .ok (.goto 17, 3) ∧ decode cX8_meets 53 = .ok (.iconst 0, 1) ∧ decode cX8_meets 54 = .ok (.goto 13, 3) ∧ decode cX8_meets 57 = .ok (.iload_n 2, 1) ∧ decode cX8_meets 58 = .ok (.iload_n 3, 1) ∧ True := dkl_ok (c := cX8_meets) [(.iload_n 3, 1), (.if_icmp .le 7, 3), (.iconst 1, 1), (.goto 17, 3), (.iconst 0, 1), (.goto 13, 3), (.iload_n 2, 1), (.iload_n 3, 1)] 45 (by decide +kernel)
theorem dX8_meets_45 : decode cX8_meets 45 = .ok (.iload_n 3, 1) := eX8_meets_45.1
theorem dX8_meets_46 : decode cX8_meets 46 = .ok (.if_icmp .le 7, 3) := eX8_meets_45.2.1
theorem dX8_meets_49 : decode cX8_meets 49 = .ok (.iconst 1, 1) := eX8_meets_45.2.2.1
theorem dX8_meets_50 : decode cX8_meets 50 = .ok (.goto 17, 3) := eX8_meets_45.2.2.2.1
theorem dX8_meets_53 : decode cX8_meets 53 = .ok (.iconst 0, 1) := eX8_meets_45.2.2.2.2.1
theorem dX8_meets_54 : decode cX8_meets 54 = .ok (.goto 13, 3) := eX8_meets_45.2.2.2.2.2.1
theorem dX8_meets_57 : decode cX8_meets 57 = .ok (.iload_n 2, 1) := eX8_meets_45.2.2.2.2.2.2.1
theorem dX8_meets_58 : decode cX8_meets 58 = .ok (.iload_n 3, 1) := eX8_meets_45.2.2.2.2.2.2.2.1
theorem eX8_meets_59 : decode cX8_meets 59 = .ok (.if_icmp .ne 7, 3) ∧ decode cX8_meets 62 = .ok (.iconst 1, 1) ∧ decode cX8_meets 63 = .ok (.goto 4, 3) ∧ decode cX8_meets 66 = .ok (.iconst 0, 1) ∧ decode cX8_meets 67 = .ok (.ireturn, 1) ∧ True := dkl_ok (c := cX8_meets) [(.if_icmp .ne 7, 3), (.iconst 1, 1), (.goto 4, 3), (.iconst 0, 1), (.ireturn, 1)] 59 (by decide +kernel)
theorem dX8_meets_59 : decode cX8_meets 59 = .ok (.if_icmp .ne 7, 3) := eX8_meets_59.1
theorem dX8_meets_62 : decode cX8_meets 62 = .ok (.iconst 1, 1) := eX8_meets_59.2.1
theorem dX8_meets_63 : decode cX8_meets 63 = .ok (.goto 4, 3) := eX8_meets_59.2.2.1
theorem dX8_meets_66 : decode cX8_meets 66 = .ok (.iconst 0, 1) := eX8_meets_59.2.2.2.1
theorem dX8_meets_67 : decode cX8_meets 67 = .ok (.ireturn, 1) := eX8_meets_59.2.2.2.2.1
theorem eX8_isWhen_0 : decode cX8_isWhen 0 = .ok (.iload_n 0, 1) ∧ decode cX8_isWhen 1 = .ok (.iconst 5, 1) ∧ decode cX8_isWhen 2 = .ok (.if_icmp .lt 13, 3) ∧ decode cX8_isWhen 5 = .ok (.iload_n 0, 1) ∧ decode cX8_isWhen 6 = .ok (.bipush 8, 2) ∧ decode cX8_isWhen 8 = .ok (.if_icmp .gt 7, 3) ∧ decode cX8_isWhen 11 = .ok (.iconst 1, 1) ∧ decode cX8_isWhen 12 = .ok (.goto 4, 3) ∧ True := dkl_ok (c := cX8_isWhen) [(.iload_n 0, 1), (.iconst 5, 1), (.if_icmp .lt 13, 3), (.iload_n 0, 1), (.bipush 8, 2), (.if_icmp .gt 7, 3), (.iconst 1, 1), (.goto 4, 3)] 0 (by decide +kernel)
theorem dX8_isWhen_0 : decode cX8_isWhen 0 = .ok (.iload_n 0, 1) := eX8_isWhen_0.1
theorem dX8_isWhen_1 : decode cX8_isWhen 1 = .ok (.iconst 5, 1) := eX8_isWhen_0.2.1
theorem dX8_isWhen_2 : decode cX8_isWhen 2 = .ok (.if_icmp .lt 13, 3) := eX8_isWhen_0.2.2.1
theorem dX8_isWhen_5 : decode cX8_isWhen 5 = .ok (.iload_n 0, 1) := eX8_isWhen_0.2.2.2.1
theorem dX8_isWhen_6 : decode cX8_isWhen 6 = .ok (.bipush 8, 2) := eX8_isWhen_0.2.2.2.2.1
theorem dX8_isWhen_8 : decode cX8_isWhen 8 = .ok (.if_icmp .gt 7, 3) := eX8_isWhen_0.2.2.2.2.2.1
theorem dX8_isWhen_11 : decode cX8_isWhen 11 = .ok (.iconst 1, 1) := eX8_isWhen_0.2.2.2.2.2.2.1
theorem dX8_isWhen_12 : decode cX8_isWhen 12 = .ok (.goto 4, 3) := eX8_isWhen_0.2.2.2.2.2.2.2.1
theorem eX8_isWhen_15 : decode cX8_isWhen 15 = .ok (.iconst 0, 1) ∧ decode cX8_isWhen 16 = .ok (.ireturn, 1) ∧ True := dkl_ok (c := cX8_isWhen) [(.iconst 0, 1), (.ireturn, 1)] 15 (by decide +kernel)
theorem dX8_isWhen_15 : decode cX8_isWhen 15 = .ok (.iconst 0, 1) := eX8_isWhen_15.1
theorem dX8_isWhen_16 : decode cX8_isWhen 16 = .ok (.ireturn, 1) := eX8_isWhen_15.2.1
theorem eX8_hasName_0 : decode cX8_hasName 0 = .ok (.iload_n 0, 1) ∧ decode cX8_hasName 1 = .ok (.iconst 1, 1) ∧ decode cX8_hasName 2 = .ok (.if_icmp .eq 19, 3) ∧ decode cX8_hasName 5 = .ok (.iload_n 0, 1) ∧ decode cX8_hasName 6 = .ok (.iconst 2, 1) ∧ decode cX8_hasName 7 = .ok (.if_icmp .eq 14, 3) ∧ decode cX8_hasName 10 = .ok (.iload_n 0, 1) ∧ decode cX8_hasName 11 = .ok (.iconst 5, 1) ∧ True := dkl_ok (c := cX8_hasName) [(.iload_n 0, 1), (.iconst 1, 1), (.if_icmp .eq 19, 3), (.iload_n 0, 1), (.iconst 2, 1), (.if_icmp .eq 14, 3), (.iload_n 0, 1), (.iconst 5, 1)] 0 (by decide +kernel)
theorem dX8_hasName_0 : decode cX8_hasName 0 = .ok (.iload_n 0, 1) := eX8_hasName_0.1
theorem dX8_hasName_1 : decode cX8_hasName 1 = .ok (.iconst 1, 1) := eX8_hasName_0.2.1
theorem dX8_hasName_2 : decode cX8_hasName 2 = .ok (.if_icmp .eq 19, 3) := eX8_hasName_0.2.2.1
theorem dX8_hasName_5 : decode cX8_hasName 5 = .ok (.iload_n 0, 1) := eX8_hasName_0.2.2.2.1
theorem dX8_hasName_6 : decode cX8_hasName 6 = .ok (.iconst 2, 1) := eX8_hasName_0.2.2.2.2.1
theorem dX8_hasName_7 : decode cX8_hasName 7 = .ok (.if_icmp .eq 14, 3) := eX8_hasName_0.2.2.2.2.2.1
theorem dX8_hasName_10 : decode cX8_hasName 10 = .ok (.iload_n 0, 1) := eX8_hasName_0.2.2.2.2.2.2.1
theorem dX8_hasName_11 : decode cX8_hasName 11 = .ok (.iconst 5, 1) := eX8_hasName_0.2.2.2.2.2.2.2.1
theorem eX8_hasName_12 : decode cX8_hasName 12 = .ok (.if_icmp .eq 9, 3) ∧ decode cX8_hasName 15 = .ok (.iload_n 0, 1) ∧ decode cX8_hasName 16 = .ok (.bipush 7, 2) ∧ decode cX8_hasName 18 = .ok (.if_icmp .ne 7, 3) ∧ decode cX8_hasName 21 = .ok (.iconst 1, 1) ∧ decode cX8_hasName 22 = .ok (.goto 4, 3) ∧ decode cX8_hasName 25 = .ok (.iconst 0, 1) ∧ decode cX8_hasName 26 = .ok (.ireturn, 1) ∧ True := dkl_ok (c := cX8_hasName) [(.if_icmp .eq 9, 3), (.iload_n 0, 1), (.bipush 7, 2), (.if_icmp .ne 7, 3), (.iconst 1, 1), (.goto 4, 3), (.iconst 0, 1), (.ireturn, 1)] 12 (by decide +kernel)
theorem dX8_hasName_12 : decode cX8_hasName 12 = .ok (.if_icmp .eq 9, 3) := eX8_hasName_12.1
theorem dX8_hasName_15 : decode cX8_hasName 15 = .ok (.iload_n 0, 1) := eX8_hasName_12.2.1
theorem dX8_hasName_16 : decode cX8_hasName 16 = .ok (.bipush 7, 2) := eX8_hasName_12.2.2.1
theorem dX8_hasName_18 : decode cX8_hasName 18 = .ok (.if_icmp .ne 7, 3) := eX8_hasName_12.2.2.2.1
theorem dX8_hasName_21 : decode cX8_hasName 21 = .ok (.iconst 1, 1) := eX8_hasName_12.2.2.2.2.1
theorem dX8_hasName_22 : decode cX8_hasName 22 = .ok (.goto 4, 3) := eX8_hasName_12.2.2.2.2.2.1
theorem dX8_hasName_25 : decode cX8_hasName 25 = .ok (.iconst 0, 1) := eX8_hasName_12.2.2.2.2.2.2.1
theorem dX8_hasName_26 : decode cX8_hasName 26 = .ok (.ireturn, 1) := eX8_hasName_12.2.2.2.2.2.2.2.1
theorem eX8_hasComparison_0 : decode cX8_hasComparison 0 = .ok (.iload_n 0, 1) ∧ decode cX8_hasComparison 1 = .ok (.invokestatic 55, 3) ∧ decode cX8_hasComparison 4 = .ok (.ifCond .eq 13, 3) ∧ decode cX8_hasComparison 7 = .ok (.iload_n 0, 1) ∧ decode cX8_hasComparison 8 = .ok (.bipush 8, 2) ∧ decode cX8_hasComparison 10 = .ok (.if_icmp .eq 7, 3) ∧ decode cX8_hasComparison 13 = .ok (.iconst 1, 1) ∧ decode cX8_hasComparison 14 = .ok (.goto 4, 3) ∧ True := dkl_ok (c := cX8_hasComparison) [(.iload_n 0, 1), (.invokestatic 55, 3), (.ifCond .eq 13, 3), (.iload_n 0, 1), (.bipush 8, 2), (.if_icmp .eq 7, 3), (.iconst 1, 1), (.goto 4, 3)] 0 (by decide +kernel)
theorem dX8_hasComparison_0 : decode cX8_hasComparison 0 = .ok (.iload_n 0, 1) := eX8_hasComparison_0.1
theorem dX8_hasComparison_1 : decode cX8_hasComparison 1 = .ok (.invokestatic 55, 3) := eX8_hasComparison_0.2.1
theorem dX8_hasComparison_4 : decode cX8_hasComparison 4 = .ok (.ifCond .eq 13, 3) := eX8_hasComparison_0.2.2.1
theorem dX8_hasComparison_7 : decode cX8_hasComparison 7 = .ok (.iload_n 0, 1) := eX8_hasComparison_0.2.2.2.1
theorem dX8_hasComparison_8 : decode cX8_hasComparison 8 = .ok (.bipush 8, 2) := eX8_hasComparison_0.2.2.2.2.1
theorem dX8_hasComparison_10 : decode cX8_hasComparison 10 = .ok (.if_icmp .eq 7, 3) := eX8_hasComparison_0.2.2.2.2.2.1
theorem dX8_hasComparison_13 : decode cX8_hasComparison 13 = .ok (.iconst 1, 1) := eX8_hasComparison_0.2.2.2.2.2.2.1
theorem dX8_hasComparison_14 : decode cX8_hasComparison 14 = .ok (.goto 4, 3) := eX8_hasComparison_0.2.2.2.2.2.2.2.1
theorem eX8_hasComparison_17 : decode cX8_hasComparison 17 = .ok (.iconst 0, 1) ∧ decode cX8_hasComparison 18 = .ok (.ireturn, 1) ∧ True := dkl_ok (c := cX8_hasComparison) [(.iconst 0, 1), (.ireturn, 1)] 17 (by decide +kernel)
theorem dX8_hasComparison_17 : decode cX8_hasComparison 17 = .ok (.iconst 0, 1) := eX8_hasComparison_17.1
theorem dX8_hasComparison_18 : decode cX8_hasComparison 18 = .ok (.ireturn, 1) := eX8_hasComparison_17.2.1
theorem eX8_highest_0 : decode cX8_highest 0 = .ok (.iload_n 0, 1) ∧ True := dkl_ok (c := cX8_highest) [(.iload_n 0, 1)] 0 (by decide +kernel)
theorem dX8_highest_0 : decode cX8_highest 0 = .ok (.iload_n 0, 1) := eX8_highest_0.1
theorem dX8_highest_1 : decode cX8_highest 1 = .ok (.tableswitch 56 1 7 #[43, 43, 56, 46, 49, 49, 52], 43) := d_of (by decide +kernel)
theorem eX8_highest_44 : decode cX8_highest 44 = .ok (.bipush 16, 2) ∧ decode cX8_highest 46 = .ok (.ireturn, 1) ∧ decode cX8_highest 47 = .ok (.bipush 99, 2) ∧ decode cX8_highest 49 = .ok (.ireturn, 1) ∧ decode cX8_highest 50 = .ok (.bipush 80, 2) ∧ decode cX8_highest 52 = .ok (.ireturn, 1) ∧ decode cX8_highest 53 = .ok (.sipush 999, 3) ∧ decode cX8_highest 56 = .ok (.ireturn, 1) ∧ True := dkl_ok (c := cX8_highest) [(.bipush 16, 2), (.ireturn, 1), (.bipush 99, 2), (.ireturn, 1), (.bipush 80, 2), (.ireturn, 1), (.sipush 999, 3), (.ireturn, 1)] 44 (by decide +kernel)
theorem dX8_highest_44 : decode cX8_highest 44 = .ok (.bipush 16, 2) := eX8_highest_44.1
theorem dX8_highest_46 : decode cX8_highest 46 = .ok (.ireturn, 1) := eX8_highest_44.2.1
theorem dX8_highest_47 : decode cX8_highest 47 = .ok (.bipush 99, 2) := eX8_highest_44.2.2.1
theorem dX8_highest_49 : decode cX8_highest 49 = .ok (.ireturn, 1) := eX8_highest_44.2.2.2.1
theorem dX8_highest_50 : decode cX8_highest 50 = .ok (.bipush 80, 2) := eX8_highest_44.2.2.2.2.1
theorem dX8_highest_52 : decode cX8_highest 52 = .ok (.ireturn, 1) := eX8_highest_44.2.2.2.2.2.1
theorem dX8_highest_53 : decode cX8_highest 53 = .ok (.sipush 999, 3) := eX8_highest_44.2.2.2.2.2.2.1
theorem dX8_highest_56 : decode cX8_highest 56 = .ok (.ireturn, 1) := eX8_highest_44.2.2.2.2.2.2.2.1
theorem eX8_highest_57 : decode cX8_highest 57 = .ok (.iconst (-1), 1) ∧ decode cX8_highest 58 = .ok (.ireturn, 1) ∧ True := dkl_ok (c := cX8_highest) [(.iconst (-1), 1), (.ireturn, 1)] 57 (by decide +kernel)
theorem dX8_highest_57 : decode cX8_highest 57 = .ok (.iconst (-1), 1) := eX8_highest_57.1
theorem dX8_highest_58 : decode cX8_highest 58 = .ok (.ireturn, 1) := eX8_highest_57.2.1
theorem eX9_init_0 : decode cX9_init 0 = .ok (.aload_n 0, 1) ∧ decode cX9_init 1 = .ok (.invokespecial 3, 3) ∧ decode cX9_init 4 = .ok (.aload_n 0, 1) ∧ decode cX9_init 5 = .ok (.new 9, 3) ∧ decode cX9_init 8 = .ok (.dup, 1) ∧ decode cX9_init 9 = .ok (.invokespecial 11, 3) ∧ decode cX9_init 12 = .ok (.putfield 12, 3) ∧ decode cX9_init 15 = .ok (.aload_n 0, 1) ∧ True := dkl_ok (c := cX9_init) [(.aload_n 0, 1), (.invokespecial 3, 3), (.aload_n 0, 1), (.new 9, 3), (.dup, 1), (.invokespecial 11, 3), (.putfield 12, 3), (.aload_n 0, 1)] 0 (by decide +kernel)
theorem dX9_init_0 : decode cX9_init 0 = .ok (.aload_n 0, 1) := eX9_init_0.1
theorem dX9_init_1 : decode cX9_init 1 = .ok (.invokespecial 3, 3) := eX9_init_0.2.1
theorem dX9_init_4 : decode cX9_init 4 = .ok (.aload_n 0, 1) := eX9_init_0.2.2.1
theorem dX9_init_5 : decode cX9_init 5 = .ok (.new 9, 3) := eX9_init_0.2.2.2.1
theorem dX9_init_8 : decode cX9_init 8 = .ok (.dup, 1) := eX9_init_0.2.2.2.2.1
theorem dX9_init_9 : decode cX9_init 9 = .ok (.invokespecial 11, 3) := eX9_init_0.2.2.2.2.2.1
theorem dX9_init_12 : decode cX9_init 12 = .ok (.putfield 12, 3) := eX9_init_0.2.2.2.2.2.2.1
theorem dX9_init_15 : decode cX9_init 15 = .ok (.aload_n 0, 1) := eX9_init_0.2.2.2.2.2.2.2.1
theorem eX9_init_16 : decode cX9_init 16 = .ok (.iconst 0, 1) ∧ decode cX9_init 17 = .ok (.putfield 18, 3) ∧ decode cX9_init 20 = .ok (.aload_n 0, 1) ∧ decode cX9_init 21 = .ok (.iconst 0, 1) ∧ decode cX9_init 22 = .ok (.putfield 22, 3) ∧ decode cX9_init 25 = .ok (.aload_n 0, 1) ∧ decode cX9_init 26 = .ok (.new 25, 3) ∧ decode cX9_init 29 = .ok (.dup, 1) ∧ True := dkl_ok (c := cX9_init) [(.iconst 0, 1), (.putfield 18, 3), (.aload_n 0, 1), (.iconst 0, 1), (.putfield 22, 3), (.aload_n 0, 1), (.new 25, 3), (.dup, 1)] 16 (by decide +kernel)
theorem dX9_init_16 : decode cX9_init 16 = .ok (.iconst 0, 1) := eX9_init_16.1
theorem dX9_init_17 : decode cX9_init 17 = .ok (.putfield 18, 3) := eX9_init_16.2.1
theorem dX9_init_20 : decode cX9_init 20 = .ok (.aload_n 0, 1) := eX9_init_16.2.2.1
theorem dX9_init_21 : decode cX9_init 21 = .ok (.iconst 0, 1) := eX9_init_16.2.2.2.1
theorem dX9_init_22 : decode cX9_init 22 = .ok (.putfield 22, 3) := eX9_init_16.2.2.2.2.1
theorem dX9_init_25 : decode cX9_init 25 = .ok (.aload_n 0, 1) := eX9_init_16.2.2.2.2.2.1
theorem dX9_init_26 : decode cX9_init 26 = .ok (.new 25, 3) := eX9_init_16.2.2.2.2.2.2.1
theorem dX9_init_29 : decode cX9_init 29 = .ok (.dup, 1) := eX9_init_16.2.2.2.2.2.2.2.1
theorem eX9_init_30 : decode cX9_init 30 = .ok (.bipush 6, 2) ∧ decode cX9_init 32 = .ok (.invokespecial 27, 3) ∧ decode cX9_init 35 = .ok (.putfield 30, 3) ∧ decode cX9_init 38 = .ok (.return_, 1) ∧ True := dkl_ok (c := cX9_init) [(.bipush 6, 2), (.invokespecial 27, 3), (.putfield 30, 3), (.return_, 1)] 30 (by decide +kernel)
theorem dX9_init_30 : decode cX9_init 30 = .ok (.bipush 6, 2) := eX9_init_30.1
theorem dX9_init_32 : decode cX9_init 32 = .ok (.invokespecial 27, 3) := eX9_init_30.2.1
theorem dX9_init_35 : decode cX9_init 35 = .ok (.putfield 30, 3) := eX9_init_30.2.2.1
theorem dX9_init_38 : decode cX9_init 38 = .ok (.return_, 1) := eX9_init_30.2.2.2.1
theorem eX9_takes_0 : decode cX9_takes 0 = .ok (.aload_n 0, 1) ∧ decode cX9_takes 1 = .ok (.getfield 12, 3) ∧ decode cX9_takes 4 = .ok (.invokevirtual 34, 3) ∧ decode cX9_takes 7 = .ok (.aload_n 0, 1) ∧ decode cX9_takes 8 = .ok (.iconst 0, 1) ∧ decode cX9_takes 9 = .ok (.putfield 18, 3) ∧ decode cX9_takes 12 = .ok (.aload_n 0, 1) ∧ decode cX9_takes 13 = .ok (.iconst 0, 1) ∧ True := dkl_ok (c := cX9_takes) [(.aload_n 0, 1), (.getfield 12, 3), (.invokevirtual 34, 3), (.aload_n 0, 1), (.iconst 0, 1), (.putfield 18, 3), (.aload_n 0, 1), (.iconst 0, 1)] 0 (by decide +kernel)
theorem dX9_takes_0 : decode cX9_takes 0 = .ok (.aload_n 0, 1) := eX9_takes_0.1
theorem dX9_takes_1 : decode cX9_takes 1 = .ok (.getfield 12, 3) := eX9_takes_0.2.1
theorem dX9_takes_4 : decode cX9_takes 4 = .ok (.invokevirtual 34, 3) := eX9_takes_0.2.2.1
theorem dX9_takes_7 : decode cX9_takes 7 = .ok (.aload_n 0, 1) := eX9_takes_0.2.2.2.1
theorem dX9_takes_8 : decode cX9_takes 8 = .ok (.iconst 0, 1) := eX9_takes_0.2.2.2.2.1
theorem dX9_takes_9 : decode cX9_takes 9 = .ok (.putfield 18, 3) := eX9_takes_0.2.2.2.2.2.1
theorem dX9_takes_12 : decode cX9_takes 12 = .ok (.aload_n 0, 1) := eX9_takes_0.2.2.2.2.2.2.1
theorem dX9_takes_13 : decode cX9_takes 13 = .ok (.iconst 0, 1) := eX9_takes_0.2.2.2.2.2.2.2.1
theorem eX9_takes_14 : decode cX9_takes 14 = .ok (.putfield 22, 3) ∧ decode cX9_takes 17 = .ok (.aload_n 0, 1) ∧ decode cX9_takes 18 = .ok (.getfield 30, 3) ∧ decode cX9_takes 21 = .ok (.invokevirtual 37, 3) ∧ decode cX9_takes 24 = .ok (.aload_n 0, 1) ∧ decode cX9_takes 25 = .ok (.aload_n 1, 1) ∧ decode cX9_takes 26 = .ok (.iload_n 2, 1) ∧ decode cX9_takes 27 = .ok (.invokevirtual 40, 3) ∧ True := dkl_ok (c := cX9_takes) [(.putfield 22, 3), (.aload_n 0, 1), (.getfield 30, 3), (.invokevirtual 37, 3), (.aload_n 0, 1), (.aload_n 1, 1), (.iload_n 2, 1), (.invokevirtual 40, 3)] 14 (by decide +kernel)
theorem dX9_takes_14 : decode cX9_takes 14 = .ok (.putfield 22, 3) := eX9_takes_14.1
theorem dX9_takes_17 : decode cX9_takes 17 = .ok (.aload_n 0, 1) := eX9_takes_14.2.1
theorem dX9_takes_18 : decode cX9_takes 18 = .ok (.getfield 30, 3) := eX9_takes_14.2.2.1
theorem dX9_takes_21 : decode cX9_takes 21 = .ok (.invokevirtual 37, 3) := eX9_takes_14.2.2.2.1
theorem dX9_takes_24 : decode cX9_takes 24 = .ok (.aload_n 0, 1) := eX9_takes_14.2.2.2.2.1
theorem dX9_takes_25 : decode cX9_takes 25 = .ok (.aload_n 1, 1) := eX9_takes_14.2.2.2.2.2.1
theorem dX9_takes_26 : decode cX9_takes 26 = .ok (.iload_n 2, 1) := eX9_takes_14.2.2.2.2.2.2.1
theorem dX9_takes_27 : decode cX9_takes 27 = .ok (.invokevirtual 40, 3) := eX9_takes_14.2.2.2.2.2.2.2.1
theorem eX9_takes_30 : decode cX9_takes 30 = .ok (.aload_n 0, 1) ∧ decode cX9_takes 31 = .ok (.invokevirtual 44, 3) ∧ decode cX9_takes 34 = .ok (.ifCond .ne 5, 3) ∧ decode cX9_takes 37 = .ok (.iconst 0, 1) ∧ decode cX9_takes 38 = .ok (.ireturn, 1) ∧ decode cX9_takes 39 = .ok (.iconst 0, 1) ∧ decode cX9_takes 40 = .ok (.istore_n 3, 1) ∧ decode cX9_takes 41 = .ok (.iload_n 3, 1) ∧ True := dkl_ok (c := cX9_takes) [(.aload_n 0, 1), (.invokevirtual 44, 3), (.ifCond .ne 5, 3), (.iconst 0, 1), (.ireturn, 1), (.iconst 0, 1), (.istore_n 3, 1), (.iload_n 3, 1)] 30 (by decide +kernel)
theorem dX9_takes_30 : decode cX9_takes 30 = .ok (.aload_n 0, 1) := eX9_takes_30.1
theorem dX9_takes_31 : decode cX9_takes 31 = .ok (.invokevirtual 44, 3) := eX9_takes_30.2.1
theorem dX9_takes_34 : decode cX9_takes 34 = .ok (.ifCond .ne 5, 3) := eX9_takes_30.2.2.1
theorem dX9_takes_37 : decode cX9_takes 37 = .ok (.iconst 0, 1) := eX9_takes_30.2.2.2.1
theorem dX9_takes_38 : decode cX9_takes 38 = .ok (.ireturn, 1) := eX9_takes_30.2.2.2.2.1
theorem dX9_takes_39 : decode cX9_takes 39 = .ok (.iconst 0, 1) := eX9_takes_30.2.2.2.2.2.1
theorem dX9_takes_40 : decode cX9_takes 40 = .ok (.istore_n 3, 1) := eX9_takes_30.2.2.2.2.2.2.1
theorem dX9_takes_41 : decode cX9_takes 41 = .ok (.iload_n 3, 1) := eX9_takes_30.2.2.2.2.2.2.2.1
theorem eX9_takes_42 : decode cX9_takes 42 = .ok (.sipush 900, 3) ∧ decode cX9_takes 45 = .ok (.if_icmp .ge 25, 3) ∧ decode cX9_takes 48 = .ok (.aload_n 0, 1) ∧ decode cX9_takes 49 = .ok (.getfield 48, 3) ∧ decode cX9_takes 52 = .ok (.ifCond .eq 18, 3) ∧ decode cX9_takes 55 = .ok (.aload_n 0, 1) ∧ decode cX9_takes 56 = .ok (.invokevirtual 52, 3) ∧ decode cX9_takes 59 = .ok (.ifCond .ne 5, 3) ∧ True := dkl_ok (c := cX9_takes) [(.sipush 900, 3), (.if_icmp .ge 25, 3), (.aload_n 0, 1), (.getfield 48, 3), (.ifCond .eq 18, 3), (.aload_n 0, 1), (.invokevirtual 52, 3), (.ifCond .ne 5, 3)] 42 (by decide +kernel)
theorem dX9_takes_42 : decode cX9_takes 42 = .ok (.sipush 900, 3) := eX9_takes_42.1
theorem dX9_takes_45 : decode cX9_takes 45 = .ok (.if_icmp .ge 25, 3) := eX9_takes_42.2.1
theorem dX9_takes_48 : decode cX9_takes 48 = .ok (.aload_n 0, 1) := eX9_takes_42.2.2.1
theorem dX9_takes_49 : decode cX9_takes 49 = .ok (.getfield 48, 3) := eX9_takes_42.2.2.2.1
theorem dX9_takes_52 : decode cX9_takes 52 = .ok (.ifCond .eq 18, 3) := eX9_takes_42.2.2.2.2.1
theorem dX9_takes_55 : decode cX9_takes 55 = .ok (.aload_n 0, 1) := eX9_takes_42.2.2.2.2.2.1
theorem dX9_takes_56 : decode cX9_takes 56 = .ok (.invokevirtual 52, 3) := eX9_takes_42.2.2.2.2.2.2.1
theorem dX9_takes_59 : decode cX9_takes 59 = .ok (.ifCond .ne 5, 3) := eX9_takes_42.2.2.2.2.2.2.2.1
theorem eX9_takes_62 : decode cX9_takes 62 = .ok (.iconst 0, 1) ∧ decode cX9_takes 63 = .ok (.ireturn, 1) ∧ decode cX9_takes 64 = .ok (.iinc 3 1, 3) ∧ decode cX9_takes 67 = .ok (.goto (-26), 3) ∧ decode cX9_takes 70 = .ok (.iconst 1, 1) ∧ decode cX9_takes 71 = .ok (.ireturn, 1) ∧ True := dkl_ok (c := cX9_takes) [(.iconst 0, 1), (.ireturn, 1), (.iinc 3 1, 3), (.goto (-26), 3), (.iconst 1, 1), (.ireturn, 1)] 62 (by decide +kernel)
theorem dX9_takes_62 : decode cX9_takes 62 = .ok (.iconst 0, 1) := eX9_takes_62.1
theorem dX9_takes_63 : decode cX9_takes 63 = .ok (.ireturn, 1) := eX9_takes_62.2.1
theorem dX9_takes_64 : decode cX9_takes 64 = .ok (.iinc 3 1, 3) := eX9_takes_62.2.2.1
theorem dX9_takes_67 : decode cX9_takes 67 = .ok (.goto (-26), 3) := eX9_takes_62.2.2.2.1
theorem dX9_takes_70 : decode cX9_takes 70 = .ok (.iconst 1, 1) := eX9_takes_62.2.2.2.2.1
theorem dX9_takes_71 : decode cX9_takes 71 = .ok (.ireturn, 1) := eX9_takes_62.2.2.2.2.2.1
theorem eX9_readHead_0 : decode cX9_readHead 0 = .ok (.aload_n 0, 1) ∧ decode cX9_readHead 1 = .ok (.ldc 55, 2) ∧ decode cX9_readHead 3 = .ok (.invokevirtual 57, 3) ∧ decode cX9_readHead 6 = .ok (.ifCond .ne 5, 3) ∧ decode cX9_readHead 9 = .ok (.iconst 0, 1) ∧ decode cX9_readHead 10 = .ok (.ireturn, 1) ∧ decode cX9_readHead 11 = .ok (.aload_n 0, 1) ∧ decode cX9_readHead 12 = .ok (.iconst 2, 1) ∧ True := dkl_ok (c := cX9_readHead) [(.aload_n 0, 1), (.ldc 55, 2), (.invokevirtual 57, 3), (.ifCond .ne 5, 3), (.iconst 0, 1), (.ireturn, 1), (.aload_n 0, 1), (.iconst 2, 1)] 0 (by decide +kernel)
theorem dX9_readHead_0 : decode cX9_readHead 0 = .ok (.aload_n 0, 1) := eX9_readHead_0.1
theorem dX9_readHead_1 : decode cX9_readHead 1 = .ok (.ldc 55, 2) := eX9_readHead_0.2.1
theorem dX9_readHead_3 : decode cX9_readHead 3 = .ok (.invokevirtual 57, 3) := eX9_readHead_0.2.2.1
theorem dX9_readHead_6 : decode cX9_readHead 6 = .ok (.ifCond .ne 5, 3) := eX9_readHead_0.2.2.2.1
theorem dX9_readHead_9 : decode cX9_readHead 9 = .ok (.iconst 0, 1) := eX9_readHead_0.2.2.2.2.1
theorem dX9_readHead_10 : decode cX9_readHead 10 = .ok (.ireturn, 1) := eX9_readHead_0.2.2.2.2.2.1
theorem dX9_readHead_11 : decode cX9_readHead 11 = .ok (.aload_n 0, 1) := eX9_readHead_0.2.2.2.2.2.2.1
theorem dX9_readHead_12 : decode cX9_readHead 12 = .ok (.iconst 2, 1) := eX9_readHead_0.2.2.2.2.2.2.2.1
theorem eX9_readHead_13 : decode cX9_readHead 13 = .ok (.bipush 10, 2) ∧ decode cX9_readHead 15 = .ok (.invokevirtual 61, 3) ∧ decode cX9_readHead 18 = .ok (.istore_n 1, 1) ∧ decode cX9_readHead 19 = .ok (.iload_n 1, 1) ∧ decode cX9_readHead 20 = .ok (.iconst (-1), 1) ∧ decode cX9_readHead 21 = .ok (.if_icmp .eq 12, 3) ∧ decode cX9_readHead 24 = .ok (.aload_n 0, 1) ∧ decode cX9_readHead 25 = .ok (.ldc 65, 2) ∧ True := dkl_ok (c := cX9_readHead) [(.bipush 10, 2), (.invokevirtual 61, 3), (.istore_n 1, 1), (.iload_n 1, 1), (.iconst (-1), 1), (.if_icmp .eq 12, 3), (.aload_n 0, 1), (.ldc 65, 2)] 13 (by decide +kernel)
theorem dX9_readHead_13 : decode cX9_readHead 13 = .ok (.bipush 10, 2) := eX9_readHead_13.1
theorem dX9_readHead_15 : decode cX9_readHead 15 = .ok (.invokevirtual 61, 3) := eX9_readHead_13.2.1
theorem dX9_readHead_18 : decode cX9_readHead 18 = .ok (.istore_n 1, 1) := eX9_readHead_13.2.2.1
theorem dX9_readHead_19 : decode cX9_readHead 19 = .ok (.iload_n 1, 1) := eX9_readHead_13.2.2.2.1
theorem dX9_readHead_20 : decode cX9_readHead 20 = .ok (.iconst (-1), 1) := eX9_readHead_13.2.2.2.2.1
theorem dX9_readHead_21 : decode cX9_readHead 21 = .ok (.if_icmp .eq 12, 3) := eX9_readHead_13.2.2.2.2.2.1
theorem dX9_readHead_24 : decode cX9_readHead 24 = .ok (.aload_n 0, 1) := eX9_readHead_13.2.2.2.2.2.2.1
theorem dX9_readHead_25 : decode cX9_readHead 25 = .ok (.ldc 65, 2) := eX9_readHead_13.2.2.2.2.2.2.2.1
theorem eX9_readHead_27 : decode cX9_readHead 27 = .ok (.invokevirtual 57, 3) ∧ decode cX9_readHead 30 = .ok (.ifCond .ne 5, 3) ∧ decode cX9_readHead 33 = .ok (.iconst 0, 1) ∧ decode cX9_readHead 34 = .ok (.ireturn, 1) ∧ decode cX9_readHead 35 = .ok (.aload_n 0, 1) ∧ decode cX9_readHead 36 = .ok (.iconst 1, 1) ∧ decode cX9_readHead 37 = .ok (.bipush 8, 2) ∧ decode cX9_readHead 39 = .ok (.invokevirtual 61, 3) ∧ True := dkl_ok (c := cX9_readHead) [(.invokevirtual 57, 3), (.ifCond .ne 5, 3), (.iconst 0, 1), (.ireturn, 1), (.aload_n 0, 1), (.iconst 1, 1), (.bipush 8, 2), (.invokevirtual 61, 3)] 27 (by decide +kernel)
theorem dX9_readHead_27 : decode cX9_readHead 27 = .ok (.invokevirtual 57, 3) := eX9_readHead_27.1
theorem dX9_readHead_30 : decode cX9_readHead 30 = .ok (.ifCond .ne 5, 3) := eX9_readHead_27.2.1
theorem dX9_readHead_33 : decode cX9_readHead 33 = .ok (.iconst 0, 1) := eX9_readHead_27.2.2.1
theorem dX9_readHead_34 : decode cX9_readHead 34 = .ok (.ireturn, 1) := eX9_readHead_27.2.2.2.1
theorem dX9_readHead_35 : decode cX9_readHead 35 = .ok (.aload_n 0, 1) := eX9_readHead_27.2.2.2.2.1
theorem dX9_readHead_36 : decode cX9_readHead 36 = .ok (.iconst 1, 1) := eX9_readHead_27.2.2.2.2.2.1
theorem dX9_readHead_37 : decode cX9_readHead 37 = .ok (.bipush 8, 2) := eX9_readHead_27.2.2.2.2.2.2.1
theorem dX9_readHead_39 : decode cX9_readHead 39 = .ok (.invokevirtual 61, 3) := eX9_readHead_27.2.2.2.2.2.2.2.1
theorem eX9_readHead_42 : decode cX9_readHead 42 = .ok (.istore_n 2, 1) ∧ decode cX9_readHead 43 = .ok (.iload_n 2, 1) ∧ decode cX9_readHead 44 = .ok (.iconst (-1), 1) ∧ decode cX9_readHead 45 = .ok (.if_icmp .ne 5, 3) ∧ decode cX9_readHead 48 = .ok (.iconst 0, 1) ∧ decode cX9_readHead 49 = .ok (.ireturn, 1) ∧ decode cX9_readHead 50 = .ok (.aload_n 0, 1) ∧ decode cX9_readHead 51 = .ok (.getfield 12, 3) ∧ True := dkl_ok (c := cX9_readHead) [(.istore_n 2, 1), (.iload_n 2, 1), (.iconst (-1), 1), (.if_icmp .ne 5, 3), (.iconst 0, 1), (.ireturn, 1), (.aload_n 0, 1), (.getfield 12, 3)] 42 (by decide +kernel)
theorem dX9_readHead_42 : decode cX9_readHead 42 = .ok (.istore_n 2, 1) := eX9_readHead_42.1
theorem dX9_readHead_43 : decode cX9_readHead 43 = .ok (.iload_n 2, 1) := eX9_readHead_42.2.1
theorem dX9_readHead_44 : decode cX9_readHead 44 = .ok (.iconst (-1), 1) := eX9_readHead_42.2.2.1
theorem dX9_readHead_45 : decode cX9_readHead 45 = .ok (.if_icmp .ne 5, 3) := eX9_readHead_42.2.2.2.1
theorem dX9_readHead_48 : decode cX9_readHead 48 = .ok (.iconst 0, 1) := eX9_readHead_42.2.2.2.2.1
theorem dX9_readHead_49 : decode cX9_readHead 49 = .ok (.ireturn, 1) := eX9_readHead_42.2.2.2.2.2.1
theorem dX9_readHead_50 : decode cX9_readHead 50 = .ok (.aload_n 0, 1) := eX9_readHead_42.2.2.2.2.2.2.1
theorem dX9_readHead_51 : decode cX9_readHead 51 = .ok (.getfield 12, 3) := eX9_readHead_42.2.2.2.2.2.2.2.1
theorem eX9_readHead_54 : decode cX9_readHead 54 = .ok (.getfield 67, 3) ∧ decode cX9_readHead 57 = .ok (.iload_n 1, 1) ∧ decode cX9_readHead 58 = .ok (.putfield 71, 3) ∧ decode cX9_readHead 61 = .ok (.aload_n 0, 1) ∧ decode cX9_readHead 62 = .ok (.getfield 12, 3) ∧ decode cX9_readHead 65 = .ok (.getfield 67, 3) ∧ decode cX9_readHead 68 = .ok (.iload_n 2, 1) ∧ decode cX9_readHead 69 = .ok (.putfield 75, 3) ∧ True := dkl_ok (c := cX9_readHead) [(.getfield 67, 3), (.iload_n 1, 1), (.putfield 71, 3), (.aload_n 0, 1), (.getfield 12, 3), (.getfield 67, 3), (.iload_n 2, 1), (.putfield 75, 3)] 54 (by decide +kernel)
theorem dX9_readHead_54 : decode cX9_readHead 54 = .ok (.getfield 67, 3) := eX9_readHead_54.1
theorem dX9_readHead_57 : decode cX9_readHead 57 = .ok (.iload_n 1, 1) := eX9_readHead_54.2.1
theorem dX9_readHead_58 : decode cX9_readHead 58 = .ok (.putfield 71, 3) := eX9_readHead_54.2.2.1
theorem dX9_readHead_61 : decode cX9_readHead 61 = .ok (.aload_n 0, 1) := eX9_readHead_54.2.2.2.1
theorem dX9_readHead_62 : decode cX9_readHead 62 = .ok (.getfield 12, 3) := eX9_readHead_54.2.2.2.2.1
theorem dX9_readHead_65 : decode cX9_readHead 65 = .ok (.getfield 67, 3) := eX9_readHead_54.2.2.2.2.2.1
theorem dX9_readHead_68 : decode cX9_readHead 68 = .ok (.iload_n 2, 1) := eX9_readHead_54.2.2.2.2.2.2.1
theorem dX9_readHead_69 : decode cX9_readHead 69 = .ok (.putfield 75, 3) := eX9_readHead_54.2.2.2.2.2.2.2.1
theorem eX9_readHead_72 : decode cX9_readHead 72 = .ok (.aload_n 0, 1) ∧ decode cX9_readHead 73 = .ok (.invokevirtual 77, 3) ∧ decode cX9_readHead 76 = .ok (.ireturn, 1) ∧ True := dkl_ok (c := cX9_readHead) [(.aload_n 0, 1), (.invokevirtual 77, 3), (.ireturn, 1)] 72 (by decide +kernel)
theorem dX9_readHead_72 : decode cX9_readHead 72 = .ok (.aload_n 0, 1) := eX9_readHead_72.1
theorem dX9_readHead_73 : decode cX9_readHead 73 = .ok (.invokevirtual 77, 3) := eX9_readHead_72.2.1
theorem dX9_readHead_76 : decode cX9_readHead 76 = .ok (.ireturn, 1) := eX9_readHead_72.2.2.1
theorem eX9_readPart_0 : decode cX9_readPart 0 = .ok (.aload_n 0, 1) ∧ decode cX9_readPart 1 = .ok (.ldc 80, 2) ∧ decode cX9_readPart 3 = .ok (.invokevirtual 82, 3) ∧ decode cX9_readPart 6 = .ok (.ifCond .eq 8, 3) ∧ decode cX9_readPart 9 = .ok (.aload_n 0, 1) ∧ decode cX9_readPart 10 = .ok (.invokevirtual 85, 3) ∧ decode cX9_readPart 13 = .ok (.ireturn, 1) ∧ decode cX9_readPart 14 = .ok (.aload_n 0, 1) ∧ True := dkl_ok (c := cX9_readPart) [(.aload_n 0, 1), (.ldc 80, 2), (.invokevirtual 82, 3), (.ifCond .eq 8, 3), (.aload_n 0, 1), (.invokevirtual 85, 3), (.ireturn, 1), (.aload_n 0, 1)] 0 (by decide +kernel)
theorem dX9_readPart_0 : decode cX9_readPart 0 = .ok (.aload_n 0, 1) := eX9_readPart_0.1
theorem dX9_readPart_1 : decode cX9_readPart 1 = .ok (.ldc 80, 2) := eX9_readPart_0.2.1
theorem dX9_readPart_3 : decode cX9_readPart 3 = .ok (.invokevirtual 82, 3) := eX9_readPart_0.2.2.1
theorem dX9_readPart_6 : decode cX9_readPart 6 = .ok (.ifCond .eq 8, 3) := eX9_readPart_0.2.2.2.1
theorem dX9_readPart_9 : decode cX9_readPart 9 = .ok (.aload_n 0, 1) := eX9_readPart_0.2.2.2.2.1
theorem dX9_readPart_10 : decode cX9_readPart 10 = .ok (.invokevirtual 85, 3) := eX9_readPart_0.2.2.2.2.2.1
theorem dX9_readPart_13 : decode cX9_readPart 13 = .ok (.ireturn, 1) := eX9_readPart_0.2.2.2.2.2.2.1
theorem dX9_readPart_14 : decode cX9_readPart 14 = .ok (.aload_n 0, 1) := eX9_readPart_0.2.2.2.2.2.2.2.1
theorem eX9_readPart_15 : decode cX9_readPart 15 = .ok (.ldc 88, 2) ∧ decode cX9_readPart 17 = .ok (.invokevirtual 82, 3) ∧ decode cX9_readPart 20 = .ok (.ifCond .eq 8, 3) ∧ decode cX9_readPart 23 = .ok (.aload_n 0, 1) ∧ decode cX9_readPart 24 = .ok (.invokevirtual 90, 3) ∧ decode cX9_readPart 27 = .ok (.ireturn, 1) ∧ decode cX9_readPart 28 = .ok (.aload_n 0, 1) ∧ decode cX9_readPart 29 = .ok (.ldc 93, 2) ∧ True := dkl_ok (c := cX9_readPart) [(.ldc 88, 2), (.invokevirtual 82, 3), (.ifCond .eq 8, 3), (.aload_n 0, 1), (.invokevirtual 90, 3), (.ireturn, 1), (.aload_n 0, 1), (.ldc 93, 2)] 15 (by decide +kernel)
theorem dX9_readPart_15 : decode cX9_readPart 15 = .ok (.ldc 88, 2) := eX9_readPart_15.1
theorem dX9_readPart_17 : decode cX9_readPart 17 = .ok (.invokevirtual 82, 3) := eX9_readPart_15.2.1
theorem dX9_readPart_20 : decode cX9_readPart 20 = .ok (.ifCond .eq 8, 3) := eX9_readPart_15.2.2.1
theorem dX9_readPart_23 : decode cX9_readPart 23 = .ok (.aload_n 0, 1) := eX9_readPart_15.2.2.2.1
theorem dX9_readPart_24 : decode cX9_readPart 24 = .ok (.invokevirtual 90, 3) := eX9_readPart_15.2.2.2.2.1
theorem dX9_readPart_27 : decode cX9_readPart 27 = .ok (.ireturn, 1) := eX9_readPart_15.2.2.2.2.2.1
theorem dX9_readPart_28 : decode cX9_readPart 28 = .ok (.aload_n 0, 1) := eX9_readPart_15.2.2.2.2.2.2.1
theorem dX9_readPart_29 : decode cX9_readPart 29 = .ok (.ldc 93, 2) := eX9_readPart_15.2.2.2.2.2.2.2.1
theorem eX9_readPart_31 : decode cX9_readPart 31 = .ok (.invokevirtual 82, 3) ∧ decode cX9_readPart 34 = .ok (.ifCond .eq 8, 3) ∧ decode cX9_readPart 37 = .ok (.aload_n 0, 1) ∧ decode cX9_readPart 38 = .ok (.invokevirtual 95, 3) ∧ decode cX9_readPart 41 = .ok (.ireturn, 1) ∧ decode cX9_readPart 42 = .ok (.aload_n 0, 1) ∧ decode cX9_readPart 43 = .ok (.ldc 98, 2) ∧ decode cX9_readPart 45 = .ok (.invokevirtual 82, 3) ∧ True := dkl_ok (c := cX9_readPart) [(.invokevirtual 82, 3), (.ifCond .eq 8, 3), (.aload_n 0, 1), (.invokevirtual 95, 3), (.ireturn, 1), (.aload_n 0, 1), (.ldc 98, 2), (.invokevirtual 82, 3)] 31 (by decide +kernel)
theorem dX9_readPart_31 : decode cX9_readPart 31 = .ok (.invokevirtual 82, 3) := eX9_readPart_31.1
theorem dX9_readPart_34 : decode cX9_readPart 34 = .ok (.ifCond .eq 8, 3) := eX9_readPart_31.2.1
theorem dX9_readPart_37 : decode cX9_readPart 37 = .ok (.aload_n 0, 1) := eX9_readPart_31.2.2.1
theorem dX9_readPart_38 : decode cX9_readPart 38 = .ok (.invokevirtual 95, 3) := eX9_readPart_31.2.2.2.1
theorem dX9_readPart_41 : decode cX9_readPart 41 = .ok (.ireturn, 1) := eX9_readPart_31.2.2.2.2.1
theorem dX9_readPart_42 : decode cX9_readPart 42 = .ok (.aload_n 0, 1) := eX9_readPart_31.2.2.2.2.2.1
theorem dX9_readPart_43 : decode cX9_readPart 43 = .ok (.ldc 98, 2) := eX9_readPart_31.2.2.2.2.2.2.1
theorem dX9_readPart_45 : decode cX9_readPart 45 = .ok (.invokevirtual 82, 3) := eX9_readPart_31.2.2.2.2.2.2.2.1
theorem eX9_readPart_48 : decode cX9_readPart 48 = .ok (.ifCond .eq 10, 3) ∧ decode cX9_readPart 51 = .ok (.aload_n 0, 1) ∧ decode cX9_readPart 52 = .ok (.invokevirtual 100, 3) ∧ decode cX9_readPart 55 = .ok (.goto 8, 3) ∧ decode cX9_readPart 58 = .ok (.aload_n 0, 1) ∧ decode cX9_readPart 59 = .ok (.iconst 2, 1) ∧ decode cX9_readPart 60 = .ok (.invokevirtual 103, 3) ∧ decode cX9_readPart 63 = .ok (.ireturn, 1) ∧ True := dkl_ok (c := cX9_readPart) [(.ifCond .eq 10, 3), (.aload_n 0, 1), (.invokevirtual 100, 3), (.goto 8, 3), (.aload_n 0, 1), (.iconst 2, 1), (.invokevirtual 103, 3), (.ireturn, 1)] 48 (by decide +kernel)
theorem dX9_readPart_48 : decode cX9_readPart 48 = .ok (.ifCond .eq 10, 3) := eX9_readPart_48.1
theorem dX9_readPart_51 : decode cX9_readPart 51 = .ok (.aload_n 0, 1) := eX9_readPart_48.2.1
theorem dX9_readPart_52 : decode cX9_readPart 52 = .ok (.invokevirtual 100, 3) := eX9_readPart_48.2.2.1
theorem dX9_readPart_55 : decode cX9_readPart 55 = .ok (.goto 8, 3) := eX9_readPart_48.2.2.2.1
theorem dX9_readPart_58 : decode cX9_readPart 58 = .ok (.aload_n 0, 1) := eX9_readPart_48.2.2.2.2.1
theorem dX9_readPart_59 : decode cX9_readPart 59 = .ok (.iconst 2, 1) := eX9_readPart_48.2.2.2.2.2.1
theorem dX9_readPart_60 : decode cX9_readPart 60 = .ok (.invokevirtual 103, 3) := eX9_readPart_48.2.2.2.2.2.2.1
theorem dX9_readPart_63 : decode cX9_readPart 63 = .ok (.ireturn, 1) := eX9_readPart_48.2.2.2.2.2.2.2.1
theorem eX9_readLaw_0 : decode cX9_readLaw 0 = .ok (.aload_n 0, 1) ∧ decode cX9_readLaw 1 = .ok (.getfield 18, 3) ∧ decode cX9_readLaw 4 = .ok (.ifCond .eq 9, 3) ∧ decode cX9_readLaw 7 = .ok (.aload_n 0, 1) ∧ decode cX9_readLaw 8 = .ok (.iconst 5, 1) ∧ decode cX9_readLaw 9 = .ok (.invokevirtual 103, 3) ∧ decode cX9_readLaw 12 = .ok (.ireturn, 1) ∧ decode cX9_readLaw 13 = .ok (.aload_n 0, 1) ∧ True := dkl_ok (c := cX9_readLaw) [(.aload_n 0, 1), (.getfield 18, 3), (.ifCond .eq 9, 3), (.aload_n 0, 1), (.iconst 5, 1), (.invokevirtual 103, 3), (.ireturn, 1), (.aload_n 0, 1)] 0 (by decide +kernel)
theorem dX9_readLaw_0 : decode cX9_readLaw 0 = .ok (.aload_n 0, 1) := eX9_readLaw_0.1
theorem dX9_readLaw_1 : decode cX9_readLaw 1 = .ok (.getfield 18, 3) := eX9_readLaw_0.2.1
theorem dX9_readLaw_4 : decode cX9_readLaw 4 = .ok (.ifCond .eq 9, 3) := eX9_readLaw_0.2.2.1
theorem dX9_readLaw_7 : decode cX9_readLaw 7 = .ok (.aload_n 0, 1) := eX9_readLaw_0.2.2.2.1
theorem dX9_readLaw_8 : decode cX9_readLaw 8 = .ok (.iconst 5, 1) := eX9_readLaw_0.2.2.2.2.1
theorem dX9_readLaw_9 : decode cX9_readLaw 9 = .ok (.invokevirtual 103, 3) := eX9_readLaw_0.2.2.2.2.2.1
theorem dX9_readLaw_12 : decode cX9_readLaw 12 = .ok (.ireturn, 1) := eX9_readLaw_0.2.2.2.2.2.2.1
theorem dX9_readLaw_13 : decode cX9_readLaw 13 = .ok (.aload_n 0, 1) := eX9_readLaw_0.2.2.2.2.2.2.2.1
theorem eX9_readLaw_14 : decode cX9_readLaw 14 = .ok (.iconst 1, 1) ∧ decode cX9_readLaw 15 = .ok (.putfield 18, 3) ∧ decode cX9_readLaw 18 = .ok (.aload_n 0, 1) ∧ decode cX9_readLaw 19 = .ok (.invokevirtual 107, 3) ∧ decode cX9_readLaw 22 = .ok (.aload_n 0, 1) ∧ decode cX9_readLaw 23 = .ok (.ldc 110, 2) ∧ decode cX9_readLaw 25 = .ok (.invokevirtual 82, 3) ∧ decode cX9_readLaw 28 = .ok (.ifCond .eq 17, 3) ∧ True := dkl_ok (c := cX9_readLaw) [(.iconst 1, 1), (.putfield 18, 3), (.aload_n 0, 1), (.invokevirtual 107, 3), (.aload_n 0, 1), (.ldc 110, 2), (.invokevirtual 82, 3), (.ifCond .eq 17, 3)] 14 (by decide +kernel)
theorem dX9_readLaw_14 : decode cX9_readLaw 14 = .ok (.iconst 1, 1) := eX9_readLaw_14.1
theorem dX9_readLaw_15 : decode cX9_readLaw 15 = .ok (.putfield 18, 3) := eX9_readLaw_14.2.1
theorem dX9_readLaw_18 : decode cX9_readLaw 18 = .ok (.aload_n 0, 1) := eX9_readLaw_14.2.2.1
theorem dX9_readLaw_19 : decode cX9_readLaw 19 = .ok (.invokevirtual 107, 3) := eX9_readLaw_14.2.2.2.1
theorem dX9_readLaw_22 : decode cX9_readLaw 22 = .ok (.aload_n 0, 1) := eX9_readLaw_14.2.2.2.2.1
theorem dX9_readLaw_23 : decode cX9_readLaw 23 = .ok (.ldc 110, 2) := eX9_readLaw_14.2.2.2.2.2.1
theorem dX9_readLaw_25 : decode cX9_readLaw 25 = .ok (.invokevirtual 82, 3) := eX9_readLaw_14.2.2.2.2.2.2.1
theorem dX9_readLaw_28 : decode cX9_readLaw 28 = .ok (.ifCond .eq 17, 3) := eX9_readLaw_14.2.2.2.2.2.2.2.1
theorem eX9_readLaw_31 : decode cX9_readLaw 31 = .ok (.aload_n 0, 1) ∧ decode cX9_readLaw 32 = .ok (.getfield 12, 3) ∧ decode cX9_readLaw 35 = .ok (.getfield 67, 3) ∧ decode cX9_readLaw 38 = .ok (.iconst 0, 1) ∧ decode cX9_readLaw 39 = .ok (.putfield 112, 3) ∧ decode cX9_readLaw 42 = .ok (.goto 55, 3) ∧ decode cX9_readLaw 45 = .ok (.aload_n 0, 1) ∧ decode cX9_readLaw 46 = .ok (.ldc 114, 2) ∧ True := dkl_ok (c := cX9_readLaw) [(.aload_n 0, 1), (.getfield 12, 3), (.getfield 67, 3), (.iconst 0, 1), (.putfield 112, 3), (.goto 55, 3), (.aload_n 0, 1), (.ldc 114, 2)] 31 (by decide +kernel)
theorem dX9_readLaw_31 : decode cX9_readLaw 31 = .ok (.aload_n 0, 1) := eX9_readLaw_31.1
theorem dX9_readLaw_32 : decode cX9_readLaw 32 = .ok (.getfield 12, 3) := eX9_readLaw_31.2.1
theorem dX9_readLaw_35 : decode cX9_readLaw 35 = .ok (.getfield 67, 3) := eX9_readLaw_31.2.2.1
theorem dX9_readLaw_38 : decode cX9_readLaw 38 = .ok (.iconst 0, 1) := eX9_readLaw_31.2.2.2.1
theorem dX9_readLaw_39 : decode cX9_readLaw 39 = .ok (.putfield 112, 3) := eX9_readLaw_31.2.2.2.2.1
theorem dX9_readLaw_42 : decode cX9_readLaw 42 = .ok (.goto 55, 3) := eX9_readLaw_31.2.2.2.2.2.1
theorem dX9_readLaw_45 : decode cX9_readLaw 45 = .ok (.aload_n 0, 1) := eX9_readLaw_31.2.2.2.2.2.2.1
theorem dX9_readLaw_46 : decode cX9_readLaw 46 = .ok (.ldc 114, 2) := eX9_readLaw_31.2.2.2.2.2.2.2.1
theorem eX9_readLaw_48 : decode cX9_readLaw 48 = .ok (.invokevirtual 82, 3) ∧ decode cX9_readLaw 51 = .ok (.ifCond .eq 17, 3) ∧ decode cX9_readLaw 54 = .ok (.aload_n 0, 1) ∧ decode cX9_readLaw 55 = .ok (.getfield 12, 3) ∧ decode cX9_readLaw 58 = .ok (.getfield 67, 3) ∧ decode cX9_readLaw 61 = .ok (.iconst 1, 1) ∧ decode cX9_readLaw 62 = .ok (.putfield 112, 3) ∧ decode cX9_readLaw 65 = .ok (.goto 32, 3) ∧ True := dkl_ok (c := cX9_readLaw) [(.invokevirtual 82, 3), (.ifCond .eq 17, 3), (.aload_n 0, 1), (.getfield 12, 3), (.getfield 67, 3), (.iconst 1, 1), (.putfield 112, 3), (.goto 32, 3)] 48 (by decide +kernel)
theorem dX9_readLaw_48 : decode cX9_readLaw 48 = .ok (.invokevirtual 82, 3) := eX9_readLaw_48.1
theorem dX9_readLaw_51 : decode cX9_readLaw 51 = .ok (.ifCond .eq 17, 3) := eX9_readLaw_48.2.1
theorem dX9_readLaw_54 : decode cX9_readLaw 54 = .ok (.aload_n 0, 1) := eX9_readLaw_48.2.2.1
theorem dX9_readLaw_55 : decode cX9_readLaw 55 = .ok (.getfield 12, 3) := eX9_readLaw_48.2.2.2.1
theorem dX9_readLaw_58 : decode cX9_readLaw 58 = .ok (.getfield 67, 3) := eX9_readLaw_48.2.2.2.2.1
theorem dX9_readLaw_61 : decode cX9_readLaw 61 = .ok (.iconst 1, 1) := eX9_readLaw_48.2.2.2.2.2.1
theorem dX9_readLaw_62 : decode cX9_readLaw 62 = .ok (.putfield 112, 3) := eX9_readLaw_48.2.2.2.2.2.2.1
theorem dX9_readLaw_65 : decode cX9_readLaw 65 = .ok (.goto 32, 3) := eX9_readLaw_48.2.2.2.2.2.2.2.1
theorem eX9_readLaw_68 : decode cX9_readLaw 68 = .ok (.aload_n 0, 1) ∧ decode cX9_readLaw 69 = .ok (.ldc 116, 2) ∧ decode cX9_readLaw 71 = .ok (.invokevirtual 82, 3) ∧ decode cX9_readLaw 74 = .ok (.ifCond .eq 17, 3) ∧ decode cX9_readLaw 77 = .ok (.aload_n 0, 1) ∧ decode cX9_readLaw 78 = .ok (.getfield 12, 3) ∧ decode cX9_readLaw 81 = .ok (.getfield 67, 3) ∧ decode cX9_readLaw 84 = .ok (.iconst 2, 1) ∧ True := dkl_ok (c := cX9_readLaw) [(.aload_n 0, 1), (.ldc 116, 2), (.invokevirtual 82, 3), (.ifCond .eq 17, 3), (.aload_n 0, 1), (.getfield 12, 3), (.getfield 67, 3), (.iconst 2, 1)] 68 (by decide +kernel)
theorem dX9_readLaw_68 : decode cX9_readLaw 68 = .ok (.aload_n 0, 1) := eX9_readLaw_68.1
theorem dX9_readLaw_69 : decode cX9_readLaw 69 = .ok (.ldc 116, 2) := eX9_readLaw_68.2.1
theorem dX9_readLaw_71 : decode cX9_readLaw 71 = .ok (.invokevirtual 82, 3) := eX9_readLaw_68.2.2.1
theorem dX9_readLaw_74 : decode cX9_readLaw 74 = .ok (.ifCond .eq 17, 3) := eX9_readLaw_68.2.2.2.1
theorem dX9_readLaw_77 : decode cX9_readLaw 77 = .ok (.aload_n 0, 1) := eX9_readLaw_68.2.2.2.2.1
theorem dX9_readLaw_78 : decode cX9_readLaw 78 = .ok (.getfield 12, 3) := eX9_readLaw_68.2.2.2.2.2.1
theorem dX9_readLaw_81 : decode cX9_readLaw 81 = .ok (.getfield 67, 3) := eX9_readLaw_68.2.2.2.2.2.2.1
theorem dX9_readLaw_84 : decode cX9_readLaw 84 = .ok (.iconst 2, 1) := eX9_readLaw_68.2.2.2.2.2.2.2.1
theorem eX9_readLaw_85 : decode cX9_readLaw 85 = .ok (.putfield 112, 3) ∧ decode cX9_readLaw 88 = .ok (.goto 9, 3) ∧ decode cX9_readLaw 91 = .ok (.aload_n 0, 1) ∧ decode cX9_readLaw 92 = .ok (.iconst 2, 1) ∧ decode cX9_readLaw 93 = .ok (.invokevirtual 103, 3) ∧ decode cX9_readLaw 96 = .ok (.ireturn, 1) ∧ decode cX9_readLaw 97 = .ok (.aload_n 0, 1) ∧ decode cX9_readLaw 98 = .ok (.invokevirtual 107, 3) ∧ True := dkl_ok (c := cX9_readLaw) [(.putfield 112, 3), (.goto 9, 3), (.aload_n 0, 1), (.iconst 2, 1), (.invokevirtual 103, 3), (.ireturn, 1), (.aload_n 0, 1), (.invokevirtual 107, 3)] 85 (by decide +kernel)
theorem dX9_readLaw_85 : decode cX9_readLaw 85 = .ok (.putfield 112, 3) := eX9_readLaw_85.1
theorem dX9_readLaw_88 : decode cX9_readLaw 88 = .ok (.goto 9, 3) := eX9_readLaw_85.2.1
theorem dX9_readLaw_91 : decode cX9_readLaw 91 = .ok (.aload_n 0, 1) := eX9_readLaw_85.2.2.1
theorem dX9_readLaw_92 : decode cX9_readLaw 92 = .ok (.iconst 2, 1) := eX9_readLaw_85.2.2.2.1
theorem dX9_readLaw_93 : decode cX9_readLaw 93 = .ok (.invokevirtual 103, 3) := eX9_readLaw_85.2.2.2.2.1
theorem dX9_readLaw_96 : decode cX9_readLaw 96 = .ok (.ireturn, 1) := eX9_readLaw_85.2.2.2.2.2.1
theorem dX9_readLaw_97 : decode cX9_readLaw 97 = .ok (.aload_n 0, 1) := eX9_readLaw_85.2.2.2.2.2.2.1
theorem dX9_readLaw_98 : decode cX9_readLaw 98 = .ok (.invokevirtual 107, 3) := eX9_readLaw_85.2.2.2.2.2.2.2.1
theorem eX9_readLaw_101 : decode cX9_readLaw 101 = .ok (.aload_n 0, 1) ∧ decode cX9_readLaw 102 = .ok (.invokevirtual 77, 3) ∧ decode cX9_readLaw 105 = .ok (.ireturn, 1) ∧ True := dkl_ok (c := cX9_readLaw) [(.aload_n 0, 1), (.invokevirtual 77, 3), (.ireturn, 1)] 101 (by decide +kernel)
theorem dX9_readLaw_101 : decode cX9_readLaw 101 = .ok (.aload_n 0, 1) := eX9_readLaw_101.1
theorem dX9_readLaw_102 : decode cX9_readLaw 102 = .ok (.invokevirtual 77, 3) := eX9_readLaw_101.2.1
theorem dX9_readLaw_105 : decode cX9_readLaw 105 = .ok (.ireturn, 1) := eX9_readLaw_101.2.2.1
theorem eX9_readMost_0 : decode cX9_readMost 0 = .ok (.aload_n 0, 1) ∧ decode cX9_readMost 1 = .ok (.getfield 22, 3) ∧ decode cX9_readMost 4 = .ok (.ifCond .eq 9, 3) ∧ decode cX9_readMost 7 = .ok (.aload_n 0, 1) ∧ decode cX9_readMost 8 = .ok (.iconst 5, 1) ∧ decode cX9_readMost 9 = .ok (.invokevirtual 103, 3) ∧ decode cX9_readMost 12 = .ok (.ireturn, 1) ∧ decode cX9_readMost 13 = .ok (.aload_n 0, 1) ∧ True := dkl_ok (c := cX9_readMost) [(.aload_n 0, 1), (.getfield 22, 3), (.ifCond .eq 9, 3), (.aload_n 0, 1), (.iconst 5, 1), (.invokevirtual 103, 3), (.ireturn, 1), (.aload_n 0, 1)] 0 (by decide +kernel)
theorem dX9_readMost_0 : decode cX9_readMost 0 = .ok (.aload_n 0, 1) := eX9_readMost_0.1
theorem dX9_readMost_1 : decode cX9_readMost 1 = .ok (.getfield 22, 3) := eX9_readMost_0.2.1
theorem dX9_readMost_4 : decode cX9_readMost 4 = .ok (.ifCond .eq 9, 3) := eX9_readMost_0.2.2.1
theorem dX9_readMost_7 : decode cX9_readMost 7 = .ok (.aload_n 0, 1) := eX9_readMost_0.2.2.2.1
theorem dX9_readMost_8 : decode cX9_readMost 8 = .ok (.iconst 5, 1) := eX9_readMost_0.2.2.2.2.1
theorem dX9_readMost_9 : decode cX9_readMost 9 = .ok (.invokevirtual 103, 3) := eX9_readMost_0.2.2.2.2.2.1
theorem dX9_readMost_12 : decode cX9_readMost 12 = .ok (.ireturn, 1) := eX9_readMost_0.2.2.2.2.2.2.1
theorem dX9_readMost_13 : decode cX9_readMost 13 = .ok (.aload_n 0, 1) := eX9_readMost_0.2.2.2.2.2.2.2.1
theorem eX9_readMost_14 : decode cX9_readMost 14 = .ok (.iconst 1, 1) ∧ decode cX9_readMost 15 = .ok (.putfield 22, 3) ∧ decode cX9_readMost 18 = .ok (.aload_n 0, 1) ∧ decode cX9_readMost 19 = .ok (.invokevirtual 107, 3) ∧ decode cX9_readMost 22 = .ok (.aload_n 0, 1) ∧ decode cX9_readMost 23 = .ok (.iconst 1, 1) ∧ decode cX9_readMost 24 = .ok (.iconst 4, 1) ∧ decode cX9_readMost 25 = .ok (.invokevirtual 61, 3) ∧ True := dkl_ok (c := cX9_readMost) [(.iconst 1, 1), (.putfield 22, 3), (.aload_n 0, 1), (.invokevirtual 107, 3), (.aload_n 0, 1), (.iconst 1, 1), (.iconst 4, 1), (.invokevirtual 61, 3)] 14 (by decide +kernel)
theorem dX9_readMost_14 : decode cX9_readMost 14 = .ok (.iconst 1, 1) := eX9_readMost_14.1
theorem dX9_readMost_15 : decode cX9_readMost 15 = .ok (.putfield 22, 3) := eX9_readMost_14.2.1
theorem dX9_readMost_18 : decode cX9_readMost 18 = .ok (.aload_n 0, 1) := eX9_readMost_14.2.2.1
theorem dX9_readMost_19 : decode cX9_readMost 19 = .ok (.invokevirtual 107, 3) := eX9_readMost_14.2.2.2.1
theorem dX9_readMost_22 : decode cX9_readMost 22 = .ok (.aload_n 0, 1) := eX9_readMost_14.2.2.2.2.1
theorem dX9_readMost_23 : decode cX9_readMost 23 = .ok (.iconst 1, 1) := eX9_readMost_14.2.2.2.2.2.1
theorem dX9_readMost_24 : decode cX9_readMost 24 = .ok (.iconst 4, 1) := eX9_readMost_14.2.2.2.2.2.2.1
theorem dX9_readMost_25 : decode cX9_readMost 25 = .ok (.invokevirtual 61, 3) := eX9_readMost_14.2.2.2.2.2.2.2.1
theorem eX9_readMost_28 : decode cX9_readMost 28 = .ok (.istore_n 1, 1) ∧ decode cX9_readMost 29 = .ok (.iload_n 1, 1) ∧ decode cX9_readMost 30 = .ok (.iconst (-1), 1) ∧ decode cX9_readMost 31 = .ok (.if_icmp .ne 5, 3) ∧ decode cX9_readMost 34 = .ok (.iconst 0, 1) ∧ decode cX9_readMost 35 = .ok (.ireturn, 1) ∧ decode cX9_readMost 36 = .ok (.aload_n 0, 1) ∧ decode cX9_readMost 37 = .ok (.getfield 12, 3) ∧ True := dkl_ok (c := cX9_readMost) [(.istore_n 1, 1), (.iload_n 1, 1), (.iconst (-1), 1), (.if_icmp .ne 5, 3), (.iconst 0, 1), (.ireturn, 1), (.aload_n 0, 1), (.getfield 12, 3)] 28 (by decide +kernel)
theorem dX9_readMost_28 : decode cX9_readMost 28 = .ok (.istore_n 1, 1) := eX9_readMost_28.1
theorem dX9_readMost_29 : decode cX9_readMost 29 = .ok (.iload_n 1, 1) := eX9_readMost_28.2.1
theorem dX9_readMost_30 : decode cX9_readMost 30 = .ok (.iconst (-1), 1) := eX9_readMost_28.2.2.1
theorem dX9_readMost_31 : decode cX9_readMost 31 = .ok (.if_icmp .ne 5, 3) := eX9_readMost_28.2.2.2.1
theorem dX9_readMost_34 : decode cX9_readMost 34 = .ok (.iconst 0, 1) := eX9_readMost_28.2.2.2.2.1
theorem dX9_readMost_35 : decode cX9_readMost 35 = .ok (.ireturn, 1) := eX9_readMost_28.2.2.2.2.2.1
theorem dX9_readMost_36 : decode cX9_readMost 36 = .ok (.aload_n 0, 1) := eX9_readMost_28.2.2.2.2.2.2.1
theorem dX9_readMost_37 : decode cX9_readMost 37 = .ok (.getfield 12, 3) := eX9_readMost_28.2.2.2.2.2.2.2.1
theorem eX9_readMost_40 : decode cX9_readMost 40 = .ok (.getfield 67, 3) ∧ decode cX9_readMost 43 = .ok (.iload_n 1, 1) ∧ decode cX9_readMost 44 = .ok (.putfield 118, 3) ∧ decode cX9_readMost 47 = .ok (.aload_n 0, 1) ∧ decode cX9_readMost 48 = .ok (.invokevirtual 77, 3) ∧ decode cX9_readMost 51 = .ok (.ireturn, 1) ∧ True := dkl_ok (c := cX9_readMost) [(.getfield 67, 3), (.iload_n 1, 1), (.putfield 118, 3), (.aload_n 0, 1), (.invokevirtual 77, 3), (.ireturn, 1)] 40 (by decide +kernel)
theorem dX9_readMost_40 : decode cX9_readMost 40 = .ok (.getfield 67, 3) := eX9_readMost_40.1
theorem dX9_readMost_43 : decode cX9_readMost 43 = .ok (.iload_n 1, 1) := eX9_readMost_40.2.1
theorem dX9_readMost_44 : decode cX9_readMost 44 = .ok (.putfield 118, 3) := eX9_readMost_40.2.2.1
theorem dX9_readMost_47 : decode cX9_readMost 47 = .ok (.aload_n 0, 1) := eX9_readMost_40.2.2.2.1
theorem dX9_readMost_48 : decode cX9_readMost 48 = .ok (.invokevirtual 77, 3) := eX9_readMost_40.2.2.2.2.1
theorem dX9_readMost_51 : decode cX9_readMost 51 = .ok (.ireturn, 1) := eX9_readMost_40.2.2.2.2.2.1
theorem eX9_readPlayer_0 : decode cX9_readPlayer 0 = .ok (.aload_n 0, 1) ∧ decode cX9_readPlayer 1 = .ok (.getfield 12, 3) ∧ decode cX9_readPlayer 4 = .ok (.getfield 67, 3) ∧ decode cX9_readPlayer 7 = .ok (.getfield 120, 3) ∧ decode cX9_readPlayer 10 = .ok (.istore_n 1, 1) ∧ decode cX9_readPlayer 11 = .ok (.iload_n 1, 1) ∧ decode cX9_readPlayer 12 = .ok (.bipush 6, 2) ∧ decode cX9_readPlayer 14 = .ok (.if_icmp .lt 10, 3) ∧ True := dkl_ok (c := cX9_readPlayer) [(.aload_n 0, 1), (.getfield 12, 3), (.getfield 67, 3), (.getfield 120, 3), (.istore_n 1, 1), (.iload_n 1, 1), (.bipush 6, 2), (.if_icmp .lt 10, 3)] 0 (by decide +kernel)
theorem dX9_readPlayer_0 : decode cX9_readPlayer 0 = .ok (.aload_n 0, 1) := eX9_readPlayer_0.1
theorem dX9_readPlayer_1 : decode cX9_readPlayer 1 = .ok (.getfield 12, 3) := eX9_readPlayer_0.2.1
theorem dX9_readPlayer_4 : decode cX9_readPlayer 4 = .ok (.getfield 67, 3) := eX9_readPlayer_0.2.2.1
theorem dX9_readPlayer_7 : decode cX9_readPlayer 7 = .ok (.getfield 120, 3) := eX9_readPlayer_0.2.2.2.1
theorem dX9_readPlayer_10 : decode cX9_readPlayer 10 = .ok (.istore_n 1, 1) := eX9_readPlayer_0.2.2.2.2.1
theorem dX9_readPlayer_11 : decode cX9_readPlayer 11 = .ok (.iload_n 1, 1) := eX9_readPlayer_0.2.2.2.2.2.1
theorem dX9_readPlayer_12 : decode cX9_readPlayer 12 = .ok (.bipush 6, 2) := eX9_readPlayer_0.2.2.2.2.2.2.1
theorem dX9_readPlayer_14 : decode cX9_readPlayer 14 = .ok (.if_icmp .lt 10, 3) := eX9_readPlayer_0.2.2.2.2.2.2.2.1
theorem eX9_readPlayer_17 : decode cX9_readPlayer 17 = .ok (.aload_n 0, 1) ∧ decode cX9_readPlayer 18 = .ok (.bipush 6, 2) ∧ decode cX9_readPlayer 20 = .ok (.invokevirtual 103, 3) ∧ decode cX9_readPlayer 23 = .ok (.ireturn, 1) ∧ decode cX9_readPlayer 24 = .ok (.aload_n 0, 1) ∧ decode cX9_readPlayer 25 = .ok (.invokevirtual 107, 3) ∧ decode cX9_readPlayer 28 = .ok (.aload_n 0, 1) ∧ decode cX9_readPlayer 29 = .ok (.invokevirtual 123, 3) ∧ True := dkl_ok (c := cX9_readPlayer) [(.aload_n 0, 1), (.bipush 6, 2), (.invokevirtual 103, 3), (.ireturn, 1), (.aload_n 0, 1), (.invokevirtual 107, 3), (.aload_n 0, 1), (.invokevirtual 123, 3)] 17 (by decide +kernel)
theorem dX9_readPlayer_17 : decode cX9_readPlayer 17 = .ok (.aload_n 0, 1) := eX9_readPlayer_17.1
theorem dX9_readPlayer_18 : decode cX9_readPlayer 18 = .ok (.bipush 6, 2) := eX9_readPlayer_17.2.1
theorem dX9_readPlayer_20 : decode cX9_readPlayer 20 = .ok (.invokevirtual 103, 3) := eX9_readPlayer_17.2.2.1
theorem dX9_readPlayer_23 : decode cX9_readPlayer 23 = .ok (.ireturn, 1) := eX9_readPlayer_17.2.2.2.1
theorem dX9_readPlayer_24 : decode cX9_readPlayer 24 = .ok (.aload_n 0, 1) := eX9_readPlayer_17.2.2.2.2.1
theorem dX9_readPlayer_25 : decode cX9_readPlayer 25 = .ok (.invokevirtual 107, 3) := eX9_readPlayer_17.2.2.2.2.2.1
theorem dX9_readPlayer_28 : decode cX9_readPlayer 28 = .ok (.aload_n 0, 1) := eX9_readPlayer_17.2.2.2.2.2.2.1
theorem dX9_readPlayer_29 : decode cX9_readPlayer 29 = .ok (.invokevirtual 123, 3) := eX9_readPlayer_17.2.2.2.2.2.2.2.1
theorem eX9_readPlayer_32 : decode cX9_readPlayer 32 = .ok (.ifCond .ne 5, 3) ∧ decode cX9_readPlayer 35 = .ok (.iconst 0, 1) ∧ decode cX9_readPlayer 36 = .ok (.ireturn, 1) ∧ decode cX9_readPlayer 37 = .ok (.aload_n 0, 1) ∧ decode cX9_readPlayer 38 = .ok (.getfield 12, 3) ∧ decode cX9_readPlayer 41 = .ok (.getfield 67, 3) ∧ decode cX9_readPlayer 44 = .ok (.aload_n 0, 1) ∧ decode cX9_readPlayer 45 = .ok (.invokevirtual 126, 3) ∧ True := dkl_ok (c := cX9_readPlayer) [(.ifCond .ne 5, 3), (.iconst 0, 1), (.ireturn, 1), (.aload_n 0, 1), (.getfield 12, 3), (.getfield 67, 3), (.aload_n 0, 1), (.invokevirtual 126, 3)] 32 (by decide +kernel)
theorem dX9_readPlayer_32 : decode cX9_readPlayer 32 = .ok (.ifCond .ne 5, 3) := eX9_readPlayer_32.1
theorem dX9_readPlayer_35 : decode cX9_readPlayer 35 = .ok (.iconst 0, 1) := eX9_readPlayer_32.2.1
theorem dX9_readPlayer_36 : decode cX9_readPlayer 36 = .ok (.ireturn, 1) := eX9_readPlayer_32.2.2.1
theorem dX9_readPlayer_37 : decode cX9_readPlayer 37 = .ok (.aload_n 0, 1) := eX9_readPlayer_32.2.2.2.1
theorem dX9_readPlayer_38 : decode cX9_readPlayer 38 = .ok (.getfield 12, 3) := eX9_readPlayer_32.2.2.2.2.1
theorem dX9_readPlayer_41 : decode cX9_readPlayer 41 = .ok (.getfield 67, 3) := eX9_readPlayer_32.2.2.2.2.2.1
theorem dX9_readPlayer_44 : decode cX9_readPlayer 44 = .ok (.aload_n 0, 1) := eX9_readPlayer_32.2.2.2.2.2.2.1
theorem dX9_readPlayer_45 : decode cX9_readPlayer 45 = .ok (.invokevirtual 126, 3) := eX9_readPlayer_32.2.2.2.2.2.2.2.1
theorem eX9_readPlayer_48 : decode cX9_readPlayer 48 = .ok (.iconst (-1), 1) ∧ decode cX9_readPlayer 49 = .ok (.if_icmp .eq 9, 3) ∧ decode cX9_readPlayer 52 = .ok (.aload_n 0, 1) ∧ decode cX9_readPlayer 53 = .ok (.iconst 3, 1) ∧ decode cX9_readPlayer 54 = .ok (.invokevirtual 103, 3) ∧ decode cX9_readPlayer 57 = .ok (.ireturn, 1) ∧ decode cX9_readPlayer 58 = .ok (.aload_n 0, 1) ∧ decode cX9_readPlayer 59 = .ok (.getfield 12, 3) ∧ True := dkl_ok (c := cX9_readPlayer) [(.iconst (-1), 1), (.if_icmp .eq 9, 3), (.aload_n 0, 1), (.iconst 3, 1), (.invokevirtual 103, 3), (.ireturn, 1), (.aload_n 0, 1), (.getfield 12, 3)] 48 (by decide +kernel)
theorem dX9_readPlayer_48 : decode cX9_readPlayer 48 = .ok (.iconst (-1), 1) := eX9_readPlayer_48.1
theorem dX9_readPlayer_49 : decode cX9_readPlayer 49 = .ok (.if_icmp .eq 9, 3) := eX9_readPlayer_48.2.1
theorem dX9_readPlayer_52 : decode cX9_readPlayer 52 = .ok (.aload_n 0, 1) := eX9_readPlayer_48.2.2.1
theorem dX9_readPlayer_53 : decode cX9_readPlayer 53 = .ok (.iconst 3, 1) := eX9_readPlayer_48.2.2.2.1
theorem dX9_readPlayer_54 : decode cX9_readPlayer 54 = .ok (.invokevirtual 103, 3) := eX9_readPlayer_48.2.2.2.2.1
theorem dX9_readPlayer_57 : decode cX9_readPlayer 57 = .ok (.ireturn, 1) := eX9_readPlayer_48.2.2.2.2.2.1
theorem dX9_readPlayer_58 : decode cX9_readPlayer 58 = .ok (.aload_n 0, 1) := eX9_readPlayer_48.2.2.2.2.2.2.1
theorem dX9_readPlayer_59 : decode cX9_readPlayer 59 = .ok (.getfield 12, 3) := eX9_readPlayer_48.2.2.2.2.2.2.2.1
theorem eX9_readPlayer_62 : decode cX9_readPlayer 62 = .ok (.getfield 67, 3) ∧ decode cX9_readPlayer 65 = .ok (.aload_n 0, 1) ∧ decode cX9_readPlayer 66 = .ok (.invokevirtual 130, 3) ∧ decode cX9_readPlayer 69 = .ok (.aload_n 0, 1) ∧ decode cX9_readPlayer 70 = .ok (.invokevirtual 107, 3) ∧ decode cX9_readPlayer 73 = .ok (.aload_n 0, 1) ∧ decode cX9_readPlayer 74 = .ok (.ldc 134, 2) ∧ decode cX9_readPlayer 76 = .ok (.aload_n 0, 1) ∧ True := dkl_ok (c := cX9_readPlayer) [(.getfield 67, 3), (.aload_n 0, 1), (.invokevirtual 130, 3), (.aload_n 0, 1), (.invokevirtual 107, 3), (.aload_n 0, 1), (.ldc 134, 2), (.aload_n 0, 1)] 62 (by decide +kernel)
theorem dX9_readPlayer_62 : decode cX9_readPlayer 62 = .ok (.getfield 67, 3) := eX9_readPlayer_62.1
theorem dX9_readPlayer_65 : decode cX9_readPlayer 65 = .ok (.aload_n 0, 1) := eX9_readPlayer_62.2.1
theorem dX9_readPlayer_66 : decode cX9_readPlayer 66 = .ok (.invokevirtual 130, 3) := eX9_readPlayer_62.2.2.1
theorem dX9_readPlayer_69 : decode cX9_readPlayer 69 = .ok (.aload_n 0, 1) := eX9_readPlayer_62.2.2.2.1
theorem dX9_readPlayer_70 : decode cX9_readPlayer 70 = .ok (.invokevirtual 107, 3) := eX9_readPlayer_62.2.2.2.2.1
theorem dX9_readPlayer_73 : decode cX9_readPlayer 73 = .ok (.aload_n 0, 1) := eX9_readPlayer_62.2.2.2.2.2.1
theorem dX9_readPlayer_74 : decode cX9_readPlayer 74 = .ok (.ldc 134, 2) := eX9_readPlayer_62.2.2.2.2.2.2.1
theorem dX9_readPlayer_76 : decode cX9_readPlayer 76 = .ok (.aload_n 0, 1) := eX9_readPlayer_62.2.2.2.2.2.2.2.1
theorem eX9_readPlayer_77 : decode cX9_readPlayer 77 = .ok (.getfield 12, 3) ∧ decode cX9_readPlayer 80 = .ok (.getfield 136, 3) ∧ decode cX9_readPlayer 83 = .ok (.getfield 140, 3) ∧ decode cX9_readPlayer 86 = .ok (.iload_n 1, 1) ∧ decode cX9_readPlayer 87 = .ok (.invokevirtual 145, 3) ∧ decode cX9_readPlayer 90 = .ok (.ifCond .eq 34, 3) ∧ decode cX9_readPlayer 93 = .ok (.aload_n 0, 1) ∧ decode cX9_readPlayer 94 = .ok (.ldc 149, 2) ∧ True := dkl_ok (c := cX9_readPlayer) [(.getfield 12, 3), (.getfield 136, 3), (.getfield 140, 3), (.iload_n 1, 1), (.invokevirtual 145, 3), (.ifCond .eq 34, 3), (.aload_n 0, 1), (.ldc 149, 2)] 77 (by decide +kernel)
theorem dX9_readPlayer_77 : decode cX9_readPlayer 77 = .ok (.getfield 12, 3) := eX9_readPlayer_77.1
theorem dX9_readPlayer_80 : decode cX9_readPlayer 80 = .ok (.getfield 136, 3) := eX9_readPlayer_77.2.1
theorem dX9_readPlayer_83 : decode cX9_readPlayer 83 = .ok (.getfield 140, 3) := eX9_readPlayer_77.2.2.1
theorem dX9_readPlayer_86 : decode cX9_readPlayer 86 = .ok (.iload_n 1, 1) := eX9_readPlayer_77.2.2.2.1
theorem dX9_readPlayer_87 : decode cX9_readPlayer 87 = .ok (.invokevirtual 145, 3) := eX9_readPlayer_77.2.2.2.2.1
theorem dX9_readPlayer_90 : decode cX9_readPlayer 90 = .ok (.ifCond .eq 34, 3) := eX9_readPlayer_77.2.2.2.2.2.1
theorem dX9_readPlayer_93 : decode cX9_readPlayer 93 = .ok (.aload_n 0, 1) := eX9_readPlayer_77.2.2.2.2.2.2.1
theorem dX9_readPlayer_94 : decode cX9_readPlayer 94 = .ok (.ldc 149, 2) := eX9_readPlayer_77.2.2.2.2.2.2.2.1
theorem eX9_readPlayer_96 : decode cX9_readPlayer 96 = .ok (.aload_n 0, 1) ∧ decode cX9_readPlayer 97 = .ok (.getfield 12, 3) ∧ decode cX9_readPlayer 100 = .ok (.getfield 136, 3) ∧ decode cX9_readPlayer 103 = .ok (.getfield 151, 3) ∧ decode cX9_readPlayer 106 = .ok (.iload_n 1, 1) ∧ decode cX9_readPlayer 107 = .ok (.invokevirtual 145, 3) ∧ decode cX9_readPlayer 110 = .ok (.ifCond .eq 14, 3) ∧ decode cX9_readPlayer 113 = .ok (.aload_n 0, 1) ∧ True := dkl_ok (c := cX9_readPlayer) [(.aload_n 0, 1), (.getfield 12, 3), (.getfield 136, 3), (.getfield 151, 3), (.iload_n 1, 1), (.invokevirtual 145, 3), (.ifCond .eq 14, 3), (.aload_n 0, 1)] 96 (by decide +kernel)
theorem dX9_readPlayer_96 : decode cX9_readPlayer 96 = .ok (.aload_n 0, 1) := eX9_readPlayer_96.1
theorem dX9_readPlayer_97 : decode cX9_readPlayer 97 = .ok (.getfield 12, 3) := eX9_readPlayer_96.2.1
theorem dX9_readPlayer_100 : decode cX9_readPlayer 100 = .ok (.getfield 136, 3) := eX9_readPlayer_96.2.2.1
theorem dX9_readPlayer_103 : decode cX9_readPlayer 103 = .ok (.getfield 151, 3) := eX9_readPlayer_96.2.2.2.1
theorem dX9_readPlayer_106 : decode cX9_readPlayer 106 = .ok (.iload_n 1, 1) := eX9_readPlayer_96.2.2.2.2.1
theorem dX9_readPlayer_107 : decode cX9_readPlayer 107 = .ok (.invokevirtual 145, 3) := eX9_readPlayer_96.2.2.2.2.2.1
theorem dX9_readPlayer_110 : decode cX9_readPlayer 110 = .ok (.ifCond .eq 14, 3) := eX9_readPlayer_96.2.2.2.2.2.2.1
theorem dX9_readPlayer_113 : decode cX9_readPlayer 113 = .ok (.aload_n 0, 1) := eX9_readPlayer_96.2.2.2.2.2.2.2.1
theorem eX9_readPlayer_114 : decode cX9_readPlayer 114 = .ok (.invokevirtual 77, 3) ∧ decode cX9_readPlayer 117 = .ok (.ifCond .eq 7, 3) ∧ decode cX9_readPlayer 120 = .ok (.iconst 1, 1) ∧ decode cX9_readPlayer 121 = .ok (.goto 4, 3) ∧ decode cX9_readPlayer 124 = .ok (.iconst 0, 1) ∧ decode cX9_readPlayer 125 = .ok (.ireturn, 1) ∧ True := dkl_ok (c := cX9_readPlayer) [(.invokevirtual 77, 3), (.ifCond .eq 7, 3), (.iconst 1, 1), (.goto 4, 3), (.iconst 0, 1), (.ireturn, 1)] 114 (by decide +kernel)
theorem dX9_readPlayer_114 : decode cX9_readPlayer 114 = .ok (.invokevirtual 77, 3) := eX9_readPlayer_114.1
theorem dX9_readPlayer_117 : decode cX9_readPlayer 117 = .ok (.ifCond .eq 7, 3) := eX9_readPlayer_114.2.1
theorem dX9_readPlayer_120 : decode cX9_readPlayer 120 = .ok (.iconst 1, 1) := eX9_readPlayer_114.2.2.1
theorem dX9_readPlayer_121 : decode cX9_readPlayer 121 = .ok (.goto 4, 3) := eX9_readPlayer_114.2.2.2.1
theorem dX9_readPlayer_124 : decode cX9_readPlayer 124 = .ok (.iconst 0, 1) := eX9_readPlayer_114.2.2.2.2.1
theorem dX9_readPlayer_125 : decode cX9_readPlayer 125 = .ok (.ireturn, 1) := eX9_readPlayer_114.2.2.2.2.2.1
theorem eX9_readSixteenths_0 : decode cX9_readSixteenths 0 = .ok (.aload_n 0, 1) ∧ decode cX9_readSixteenths 1 = .ok (.aload_n 1, 1) ∧ decode cX9_readSixteenths 2 = .ok (.invokevirtual 82, 3) ∧ decode cX9_readSixteenths 5 = .ok (.ifCond .ne 5, 3) ∧ decode cX9_readSixteenths 8 = .ok (.iconst 1, 1) ∧ decode cX9_readSixteenths 9 = .ok (.ireturn, 1) ∧ decode cX9_readSixteenths 10 = .ok (.aload_n 0, 1) ∧ decode cX9_readSixteenths 11 = .ok (.invokevirtual 107, 3) ∧ True := dkl_ok (c := cX9_readSixteenths) [(.aload_n 0, 1), (.aload_n 1, 1), (.invokevirtual 82, 3), (.ifCond .ne 5, 3), (.iconst 1, 1), (.ireturn, 1), (.aload_n 0, 1), (.invokevirtual 107, 3)] 0 (by decide +kernel)
theorem dX9_readSixteenths_0 : decode cX9_readSixteenths 0 = .ok (.aload_n 0, 1) := eX9_readSixteenths_0.1
theorem dX9_readSixteenths_1 : decode cX9_readSixteenths 1 = .ok (.aload_n 1, 1) := eX9_readSixteenths_0.2.1
theorem dX9_readSixteenths_2 : decode cX9_readSixteenths 2 = .ok (.invokevirtual 82, 3) := eX9_readSixteenths_0.2.2.1
theorem dX9_readSixteenths_5 : decode cX9_readSixteenths 5 = .ok (.ifCond .ne 5, 3) := eX9_readSixteenths_0.2.2.2.1
theorem dX9_readSixteenths_8 : decode cX9_readSixteenths 8 = .ok (.iconst 1, 1) := eX9_readSixteenths_0.2.2.2.2.1
theorem dX9_readSixteenths_9 : decode cX9_readSixteenths 9 = .ok (.ireturn, 1) := eX9_readSixteenths_0.2.2.2.2.2.1
theorem dX9_readSixteenths_10 : decode cX9_readSixteenths 10 = .ok (.aload_n 0, 1) := eX9_readSixteenths_0.2.2.2.2.2.2.1
theorem dX9_readSixteenths_11 : decode cX9_readSixteenths 11 = .ok (.invokevirtual 107, 3) := eX9_readSixteenths_0.2.2.2.2.2.2.2.1
theorem eX9_readSixteenths_14 : decode cX9_readSixteenths 14 = .ok (.aload_n 0, 1) ∧ decode cX9_readSixteenths 15 = .ok (.iconst 0, 1) ∧ decode cX9_readSixteenths 16 = .ok (.bipush 16, 2) ∧ decode cX9_readSixteenths 18 = .ok (.invokevirtual 61, 3) ∧ decode cX9_readSixteenths 21 = .ok (.istore 4, 2) ∧ decode cX9_readSixteenths 23 = .ok (.aload_n 2, 1) ∧ decode cX9_readSixteenths 24 = .ok (.iload_n 3, 1) ∧ decode cX9_readSixteenths 25 = .ok (.iload 4, 2) ∧ True := dkl_ok (c := cX9_readSixteenths) [(.aload_n 0, 1), (.iconst 0, 1), (.bipush 16, 2), (.invokevirtual 61, 3), (.istore 4, 2), (.aload_n 2, 1), (.iload_n 3, 1), (.iload 4, 2)] 14 (by decide +kernel)
theorem dX9_readSixteenths_14 : decode cX9_readSixteenths 14 = .ok (.aload_n 0, 1) := eX9_readSixteenths_14.1
theorem dX9_readSixteenths_15 : decode cX9_readSixteenths 15 = .ok (.iconst 0, 1) := eX9_readSixteenths_14.2.1
theorem dX9_readSixteenths_16 : decode cX9_readSixteenths 16 = .ok (.bipush 16, 2) := eX9_readSixteenths_14.2.2.1
theorem dX9_readSixteenths_18 : decode cX9_readSixteenths 18 = .ok (.invokevirtual 61, 3) := eX9_readSixteenths_14.2.2.2.1
theorem dX9_readSixteenths_21 : decode cX9_readSixteenths 21 = .ok (.istore 4, 2) := eX9_readSixteenths_14.2.2.2.2.1
theorem dX9_readSixteenths_23 : decode cX9_readSixteenths 23 = .ok (.aload_n 2, 1) := eX9_readSixteenths_14.2.2.2.2.2.1
theorem dX9_readSixteenths_24 : decode cX9_readSixteenths 24 = .ok (.iload_n 3, 1) := eX9_readSixteenths_14.2.2.2.2.2.2.1
theorem dX9_readSixteenths_25 : decode cX9_readSixteenths 25 = .ok (.iload 4, 2) := eX9_readSixteenths_14.2.2.2.2.2.2.2.1
theorem eX9_readSixteenths_27 : decode cX9_readSixteenths 27 = .ok (.invokevirtual 154, 3) ∧ decode cX9_readSixteenths 30 = .ok (.iload 4, 2) ∧ decode cX9_readSixteenths 32 = .ok (.iconst (-1), 1) ∧ decode cX9_readSixteenths 33 = .ok (.if_icmp .eq 7, 3) ∧ decode cX9_readSixteenths 36 = .ok (.iconst 1, 1) ∧ decode cX9_readSixteenths 37 = .ok (.goto 4, 3) ∧ decode cX9_readSixteenths 40 = .ok (.iconst 0, 1) ∧ decode cX9_readSixteenths 41 = .ok (.ireturn, 1) ∧ True := dkl_ok (c := cX9_readSixteenths) [(.invokevirtual 154, 3), (.iload 4, 2), (.iconst (-1), 1), (.if_icmp .eq 7, 3), (.iconst 1, 1), (.goto 4, 3), (.iconst 0, 1), (.ireturn, 1)] 27 (by decide +kernel)
theorem dX9_readSixteenths_27 : decode cX9_readSixteenths 27 = .ok (.invokevirtual 154, 3) := eX9_readSixteenths_27.1
theorem dX9_readSixteenths_30 : decode cX9_readSixteenths 30 = .ok (.iload 4, 2) := eX9_readSixteenths_27.2.1
theorem dX9_readSixteenths_32 : decode cX9_readSixteenths 32 = .ok (.iconst (-1), 1) := eX9_readSixteenths_27.2.2.1
theorem dX9_readSixteenths_33 : decode cX9_readSixteenths 33 = .ok (.if_icmp .eq 7, 3) := eX9_readSixteenths_27.2.2.2.1
theorem dX9_readSixteenths_36 : decode cX9_readSixteenths 36 = .ok (.iconst 1, 1) := eX9_readSixteenths_27.2.2.2.2.1
theorem dX9_readSixteenths_37 : decode cX9_readSixteenths 37 = .ok (.goto 4, 3) := eX9_readSixteenths_27.2.2.2.2.2.1
theorem dX9_readSixteenths_40 : decode cX9_readSixteenths 40 = .ok (.iconst 0, 1) := eX9_readSixteenths_27.2.2.2.2.2.2.1
theorem dX9_readSixteenths_41 : decode cX9_readSixteenths 41 = .ok (.ireturn, 1) := eX9_readSixteenths_27.2.2.2.2.2.2.2.1
theorem eX9_readHand_0 : decode cX9_readHand 0 = .ok (.aload_n 0, 1) ∧ decode cX9_readHand 1 = .ok (.invokevirtual 107, 3) ∧ decode cX9_readHand 4 = .ok (.aload_n 0, 1) ∧ decode cX9_readHand 5 = .ok (.aload_n 0, 1) ∧ decode cX9_readHand 6 = .ok (.getfield 12, 3) ∧ decode cX9_readHand 9 = .ok (.getfield 67, 3) ∧ decode cX9_readHand 12 = .ok (.invokevirtual 158, 3) ∧ decode cX9_readHand 15 = .ok (.istore_n 1, 1) ∧ True := dkl_ok (c := cX9_readHand) [(.aload_n 0, 1), (.invokevirtual 107, 3), (.aload_n 0, 1), (.aload_n 0, 1), (.getfield 12, 3), (.getfield 67, 3), (.invokevirtual 158, 3), (.istore_n 1, 1)] 0 (by decide +kernel)
theorem dX9_readHand_0 : decode cX9_readHand 0 = .ok (.aload_n 0, 1) := eX9_readHand_0.1
theorem dX9_readHand_1 : decode cX9_readHand 1 = .ok (.invokevirtual 107, 3) := eX9_readHand_0.2.1
theorem dX9_readHand_4 : decode cX9_readHand 4 = .ok (.aload_n 0, 1) := eX9_readHand_0.2.2.1
theorem dX9_readHand_5 : decode cX9_readHand 5 = .ok (.aload_n 0, 1) := eX9_readHand_0.2.2.2.1
theorem dX9_readHand_6 : decode cX9_readHand 6 = .ok (.getfield 12, 3) := eX9_readHand_0.2.2.2.2.1
theorem dX9_readHand_9 : decode cX9_readHand 9 = .ok (.getfield 67, 3) := eX9_readHand_0.2.2.2.2.2.1
theorem dX9_readHand_12 : decode cX9_readHand 12 = .ok (.invokevirtual 158, 3) := eX9_readHand_0.2.2.2.2.2.2.1
theorem dX9_readHand_15 : decode cX9_readHand 15 = .ok (.istore_n 1, 1) := eX9_readHand_0.2.2.2.2.2.2.2.1
theorem eX9_readHand_16 : decode cX9_readHand 16 = .ok (.iload_n 1, 1) ∧ decode cX9_readHand 17 = .ok (.iconst (-1), 1) ∧ decode cX9_readHand 18 = .ok (.if_icmp .ne 5, 3) ∧ decode cX9_readHand 21 = .ok (.iconst 0, 1) ∧ decode cX9_readHand 22 = .ok (.ireturn, 1) ∧ decode cX9_readHand 23 = .ok (.aload_n 0, 1) ∧ decode cX9_readHand 24 = .ok (.iconst 0, 1) ∧ decode cX9_readHand 25 = .ok (.bipush 8, 2) ∧ True := dkl_ok (c := cX9_readHand) [(.iload_n 1, 1), (.iconst (-1), 1), (.if_icmp .ne 5, 3), (.iconst 0, 1), (.ireturn, 1), (.aload_n 0, 1), (.iconst 0, 1), (.bipush 8, 2)] 16 (by decide +kernel)
theorem dX9_readHand_16 : decode cX9_readHand 16 = .ok (.iload_n 1, 1) := eX9_readHand_16.1
theorem dX9_readHand_17 : decode cX9_readHand 17 = .ok (.iconst (-1), 1) := eX9_readHand_16.2.1
theorem dX9_readHand_18 : decode cX9_readHand 18 = .ok (.if_icmp .ne 5, 3) := eX9_readHand_16.2.2.1
theorem dX9_readHand_21 : decode cX9_readHand 21 = .ok (.iconst 0, 1) := eX9_readHand_16.2.2.2.1
theorem dX9_readHand_22 : decode cX9_readHand 22 = .ok (.ireturn, 1) := eX9_readHand_16.2.2.2.2.1
theorem dX9_readHand_23 : decode cX9_readHand 23 = .ok (.aload_n 0, 1) := eX9_readHand_16.2.2.2.2.2.1
theorem dX9_readHand_24 : decode cX9_readHand 24 = .ok (.iconst 0, 1) := eX9_readHand_16.2.2.2.2.2.2.1
theorem dX9_readHand_25 : decode cX9_readHand 25 = .ok (.bipush 8, 2) := eX9_readHand_16.2.2.2.2.2.2.2.1
theorem eX9_readHand_27 : decode cX9_readHand 27 = .ok (.invokevirtual 61, 3) ∧ decode cX9_readHand 30 = .ok (.istore_n 2, 1) ∧ decode cX9_readHand 31 = .ok (.iload_n 2, 1) ∧ decode cX9_readHand 32 = .ok (.iconst (-1), 1) ∧ decode cX9_readHand 33 = .ok (.if_icmp .eq 32, 3) ∧ decode cX9_readHand 36 = .ok (.aload_n 0, 1) ∧ decode cX9_readHand 37 = .ok (.ldc 162, 2) ∧ decode cX9_readHand 39 = .ok (.invokevirtual 57, 3) ∧ True := dkl_ok (c := cX9_readHand) [(.invokevirtual 61, 3), (.istore_n 2, 1), (.iload_n 2, 1), (.iconst (-1), 1), (.if_icmp .eq 32, 3), (.aload_n 0, 1), (.ldc 162, 2), (.invokevirtual 57, 3)] 27 (by decide +kernel)
theorem dX9_readHand_27 : decode cX9_readHand 27 = .ok (.invokevirtual 61, 3) := eX9_readHand_27.1
theorem dX9_readHand_30 : decode cX9_readHand 30 = .ok (.istore_n 2, 1) := eX9_readHand_27.2.1
theorem dX9_readHand_31 : decode cX9_readHand 31 = .ok (.iload_n 2, 1) := eX9_readHand_27.2.2.1
theorem dX9_readHand_32 : decode cX9_readHand 32 = .ok (.iconst (-1), 1) := eX9_readHand_27.2.2.2.1
theorem dX9_readHand_33 : decode cX9_readHand 33 = .ok (.if_icmp .eq 32, 3) := eX9_readHand_27.2.2.2.2.1
theorem dX9_readHand_36 : decode cX9_readHand 36 = .ok (.aload_n 0, 1) := eX9_readHand_27.2.2.2.2.2.1
theorem dX9_readHand_37 : decode cX9_readHand 37 = .ok (.ldc 162, 2) := eX9_readHand_27.2.2.2.2.2.2.1
theorem dX9_readHand_39 : decode cX9_readHand 39 = .ok (.invokevirtual 57, 3) := eX9_readHand_27.2.2.2.2.2.2.2.1
theorem eX9_readHand_42 : decode cX9_readHand 42 = .ok (.ifCond .eq 23, 3) ∧ decode cX9_readHand 45 = .ok (.aload_n 0, 1) ∧ decode cX9_readHand 46 = .ok (.iconst 0, 1) ∧ decode cX9_readHand 47 = .ok (.aload_n 0, 1) ∧ decode cX9_readHand 48 = .ok (.getfield 12, 3) ∧ decode cX9_readHand 51 = .ok (.getfield 67, 3) ∧ decode cX9_readHand 54 = .ok (.getfield 71, 3) ∧ decode cX9_readHand 57 = .ok (.iconst 1, 1) ∧ True := dkl_ok (c := cX9_readHand) [(.ifCond .eq 23, 3), (.aload_n 0, 1), (.iconst 0, 1), (.aload_n 0, 1), (.getfield 12, 3), (.getfield 67, 3), (.getfield 71, 3), (.iconst 1, 1)] 42 (by decide +kernel)
theorem dX9_readHand_42 : decode cX9_readHand 42 = .ok (.ifCond .eq 23, 3) := eX9_readHand_42.1
theorem dX9_readHand_45 : decode cX9_readHand 45 = .ok (.aload_n 0, 1) := eX9_readHand_42.2.1
theorem dX9_readHand_46 : decode cX9_readHand 46 = .ok (.iconst 0, 1) := eX9_readHand_42.2.2.1
theorem dX9_readHand_47 : decode cX9_readHand 47 = .ok (.aload_n 0, 1) := eX9_readHand_42.2.2.2.1
theorem dX9_readHand_48 : decode cX9_readHand 48 = .ok (.getfield 12, 3) := eX9_readHand_42.2.2.2.2.1
theorem dX9_readHand_51 : decode cX9_readHand 51 = .ok (.getfield 67, 3) := eX9_readHand_42.2.2.2.2.2.1
theorem dX9_readHand_54 : decode cX9_readHand 54 = .ok (.getfield 71, 3) := eX9_readHand_42.2.2.2.2.2.2.1
theorem dX9_readHand_57 : decode cX9_readHand 57 = .ok (.iconst 1, 1) := eX9_readHand_42.2.2.2.2.2.2.2.1
theorem eX9_readHand_58 : decode cX9_readHand 58 = .ok (.isub, 1) ∧ decode cX9_readHand 59 = .ok (.invokevirtual 164, 3) ∧ decode cX9_readHand 62 = .ok (.ifCond .ne 5, 3) ∧ decode cX9_readHand 65 = .ok (.iconst 0, 1) ∧ decode cX9_readHand 66 = .ok (.ireturn, 1) ∧ decode cX9_readHand 67 = .ok (.aload_n 0, 1) ∧ decode cX9_readHand 68 = .ok (.getfield 168, 3) ∧ decode cX9_readHand 71 = .ok (.istore_n 3, 1) ∧ True := dkl_ok (c := cX9_readHand) [(.isub, 1), (.invokevirtual 164, 3), (.ifCond .ne 5, 3), (.iconst 0, 1), (.ireturn, 1), (.aload_n 0, 1), (.getfield 168, 3), (.istore_n 3, 1)] 58 (by decide +kernel)
theorem dX9_readHand_58 : decode cX9_readHand 58 = .ok (.isub, 1) := eX9_readHand_58.1
theorem dX9_readHand_59 : decode cX9_readHand 59 = .ok (.invokevirtual 164, 3) := eX9_readHand_58.2.1
theorem dX9_readHand_62 : decode cX9_readHand 62 = .ok (.ifCond .ne 5, 3) := eX9_readHand_58.2.2.1
theorem dX9_readHand_65 : decode cX9_readHand 65 = .ok (.iconst 0, 1) := eX9_readHand_58.2.2.2.1
theorem dX9_readHand_66 : decode cX9_readHand 66 = .ok (.ireturn, 1) := eX9_readHand_58.2.2.2.2.1
theorem dX9_readHand_67 : decode cX9_readHand 67 = .ok (.aload_n 0, 1) := eX9_readHand_58.2.2.2.2.2.1
theorem dX9_readHand_68 : decode cX9_readHand 68 = .ok (.getfield 168, 3) := eX9_readHand_58.2.2.2.2.2.2.1
theorem dX9_readHand_71 : decode cX9_readHand 71 = .ok (.istore_n 3, 1) := eX9_readHand_58.2.2.2.2.2.2.2.1
theorem eX9_readHand_72 : decode cX9_readHand 72 = .ok (.aload_n 0, 1) ∧ decode cX9_readHand 73 = .ok (.getfield 30, 3) ∧ decode cX9_readHand 76 = .ok (.iload_n 1, 1) ∧ decode cX9_readHand 77 = .ok (.invokevirtual 171, 3) ∧ decode cX9_readHand 80 = .ok (.iload_n 3, 1) ∧ decode cX9_readHand 81 = .ok (.ishr, 1) ∧ decode cX9_readHand 82 = .ok (.iconst 1, 1) ∧ decode cX9_readHand 83 = .ok (.iand, 1) ∧ True := dkl_ok (c := cX9_readHand) [(.aload_n 0, 1), (.getfield 30, 3), (.iload_n 1, 1), (.invokevirtual 171, 3), (.iload_n 3, 1), (.ishr, 1), (.iconst 1, 1), (.iand, 1)] 72 (by decide +kernel)
theorem dX9_readHand_72 : decode cX9_readHand 72 = .ok (.aload_n 0, 1) := eX9_readHand_72.1
theorem dX9_readHand_73 : decode cX9_readHand 73 = .ok (.getfield 30, 3) := eX9_readHand_72.2.1
theorem dX9_readHand_76 : decode cX9_readHand 76 = .ok (.iload_n 1, 1) := eX9_readHand_72.2.2.1
theorem dX9_readHand_77 : decode cX9_readHand 77 = .ok (.invokevirtual 171, 3) := eX9_readHand_72.2.2.2.1
theorem dX9_readHand_80 : decode cX9_readHand 80 = .ok (.iload_n 3, 1) := eX9_readHand_72.2.2.2.2.1
theorem dX9_readHand_81 : decode cX9_readHand 81 = .ok (.ishr, 1) := eX9_readHand_72.2.2.2.2.2.1
theorem dX9_readHand_82 : decode cX9_readHand 82 = .ok (.iconst 1, 1) := eX9_readHand_72.2.2.2.2.2.2.1
theorem dX9_readHand_83 : decode cX9_readHand 83 = .ok (.iand, 1) := eX9_readHand_72.2.2.2.2.2.2.2.1
theorem eX9_readHand_84 : decode cX9_readHand 84 = .ok (.ifCond .eq 7, 3) ∧ decode cX9_readHand 87 = .ok (.iconst 1, 1) ∧ decode cX9_readHand 88 = .ok (.goto 4, 3) ∧ decode cX9_readHand 91 = .ok (.iconst 0, 1) ∧ decode cX9_readHand 92 = .ok (.istore 4, 2) ∧ decode cX9_readHand 94 = .ok (.iload 4, 2) ∧ decode cX9_readHand 96 = .ok (.ifCond .ne 32, 3) ∧ decode cX9_readHand 99 = .ok (.aload_n 0, 1) ∧ True := dkl_ok (c := cX9_readHand) [(.ifCond .eq 7, 3), (.iconst 1, 1), (.goto 4, 3), (.iconst 0, 1), (.istore 4, 2), (.iload 4, 2), (.ifCond .ne 32, 3), (.aload_n 0, 1)] 84 (by decide +kernel)
theorem dX9_readHand_84 : decode cX9_readHand 84 = .ok (.ifCond .eq 7, 3) := eX9_readHand_84.1
theorem dX9_readHand_87 : decode cX9_readHand 87 = .ok (.iconst 1, 1) := eX9_readHand_84.2.1
theorem dX9_readHand_88 : decode cX9_readHand 88 = .ok (.goto 4, 3) := eX9_readHand_84.2.2.1
theorem dX9_readHand_91 : decode cX9_readHand 91 = .ok (.iconst 0, 1) := eX9_readHand_84.2.2.2.1
theorem dX9_readHand_92 : decode cX9_readHand 92 = .ok (.istore 4, 2) := eX9_readHand_84.2.2.2.2.1
theorem dX9_readHand_94 : decode cX9_readHand 94 = .ok (.iload 4, 2) := eX9_readHand_84.2.2.2.2.2.1
theorem dX9_readHand_96 : decode cX9_readHand 96 = .ok (.ifCond .ne 32, 3) := eX9_readHand_84.2.2.2.2.2.2.1
theorem dX9_readHand_99 : decode cX9_readHand 99 = .ok (.aload_n 0, 1) := eX9_readHand_84.2.2.2.2.2.2.2.1
theorem eX9_readHand_100 : decode cX9_readHand 100 = .ok (.getfield 12, 3) ∧ decode cX9_readHand 103 = .ok (.getfield 67, 3) ∧ True := dkl_ok (c := cX9_readHand) [(.getfield 12, 3), (.getfield 67, 3)] 100 (by decide +kernel)
theorem dX9_readHand_100 : decode cX9_readHand 100 = .ok (.getfield 12, 3) := eX9_readHand_100.1
theorem dX9_readHand_103 : decode cX9_readHand 103 = .ok (.getfield 67, 3) := eX9_readHand_100.2.1
end

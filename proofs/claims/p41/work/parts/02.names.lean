/-! ===== BEGIN printed: names, fields, word lists, decode rows ===== -/
def RX0 : String := "HeapGames$Game"
def TX0 : u_T := fun k => match k with
  | 0 => ("HeapGames$Game", "rules", "[LHeapGames$Rule;", true)
  | 1 => ("HeapGames$Game", "ruleCount", "I", false)
  | 2 => ("HeapGames$Game", "shared", "I", false)
  | _ => ("HeapGames$Game", "state", "LHeapGames$State;", true)
def tyX0 : Nat → FieldType := fun k => match k with
  | 0 => .array (.object "HeapGames$Rule")
  | 1 => .int
  | 2 => .int
  | _ => .object "HeapGames$State"
abbrev wsX00 : List Cond := u_ws RX0 TX0 4
theorem nmX0 : ∀ a, a < 4 → ∀ b, b < 4 → a ≠ b → (TX0 a).2.1 ≠ (TX0 b).2.1 := by decide +kernel
theorem tyX0_ok : ∀ k, k < 4 → parseFieldDescriptor (TX0 k).2.2.1 = some (tyX0 k) := by decide +kernel
abbrev cX0_init : ByteArray := prog_2_method_1_code
def yX0_init : MethodName := ⟨RX0, "<init>", "()V"⟩
abbrev cX0_clear : ByteArray := prog_2_method_2_code
def yX0_clear : MethodName := ⟨RX0, "clear", "()V"⟩
abbrev cX0_ruleAt : ByteArray := prog_2_method_3_code
def yX0_ruleAt : MethodName := ⟨RX0, "ruleAt", "(I)LHeapGames$Rule;"⟩
abbrev cX0_ruleOfHeap : ByteArray := prog_2_method_4_code
def yX0_ruleOfHeap : MethodName := ⟨RX0, "ruleOfHeap", "(I)LHeapGames$Rule;"⟩
abbrev cX0_ruleNamed : ByteArray := prog_2_method_5_code
def yX0_ruleNamed : MethodName := ⟨RX0, "ruleNamed", "(J)I"⟩
abbrev cX0_addRule : ByteArray := prog_2_method_6_code
def yX0_addRule : MethodName := ⟨RX0, "addRule", "(JIJ)V"⟩
abbrev cX0_fillValues : ByteArray := prog_2_method_7_code
def yX0_fillValues : MethodName := ⟨RX0, "fillValues", "()V"⟩
def RX1 : String := "HeapGames$History"
def TX1 : u_T := fun k => match k with
  | 0 => ("HeapGames$History", "states", "[LHeapGames$State;", true)
  | 1 => ("HeapGames$History", "next", "I", false)
  | _ => ("HeapGames$History", "count", "I", false)
def tyX1 : Nat → FieldType := fun k => match k with
  | 0 => .array (.object "HeapGames$State")
  | 1 => .int
  | _ => .int
abbrev wsX10 : List Cond := u_ws RX1 TX1 3
theorem nmX1 : ∀ a, a < 3 → ∀ b, b < 3 → a ≠ b → (TX1 a).2.1 ≠ (TX1 b).2.1 := by decide +kernel
theorem tyX1_ok : ∀ k, k < 3 → parseFieldDescriptor (TX1 k).2.2.1 = some (tyX1 k) := by decide +kernel
abbrev cX1_init : ByteArray := prog_3_method_1_code
def yX1_init : MethodName := ⟨RX1, "<init>", "()V"⟩
abbrev cX1_clear : ByteArray := prog_3_method_2_code
def yX1_clear : MethodName := ⟨RX1, "clear", "()V"⟩
abbrev cX1_remember : ByteArray := prog_3_method_3_code
def yX1_remember : MethodName := ⟨RX1, "remember", "(LHeapGames$State;)V"⟩
abbrev cX1_stateAt : ByteArray := prog_3_method_5_code
def yX1_stateAt : MethodName := ⟨RX1, "stateAt", "(I)LHeapGames$State;"⟩
def RX2 : String := "HeapGames$Rule"
def TX2 : u_T := fun k => match k with
  | 0 => ("HeapGames$Rule", "name", "J", false)
  | 1 => ("HeapGames$Rule", "ruleKind", "I", false)
  | 2 => ("HeapGames$Rule", "set", "J", false)
  | 3 => ("HeapGames$Rule", "values", "[I", true)
  | _ => ("HeapGames$Rule", "lastWith", "[I", true)
def tyX2 : Nat → FieldType := fun k => match k with
  | 0 => .long
  | 1 => .int
  | 2 => .long
  | 3 => .array .int
  | _ => .array .int
abbrev wsX20 : List Cond := u_ws RX2 TX2 5
theorem nmX2 : ∀ a, a < 5 → ∀ b, b < 5 → a ≠ b → (TX2 a).2.1 ≠ (TX2 b).2.1 := by decide +kernel
theorem tyX2_ok : ∀ k, k < 5 → parseFieldDescriptor (TX2 k).2.2.1 = some (tyX2 k) := by decide +kernel
abbrev cX2_init : ByteArray := prog_4_method_1_code
def yX2_init : MethodName := ⟨RX2, "<init>", "()V"⟩
abbrev cX2_allows : ByteArray := prog_4_method_2_code
def yX2_allows : MethodName := ⟨RX2, "allows", "(II)Z"⟩
abbrev cX2_isSquare : ByteArray := prog_4_method_3_code
def yX2_isSquare : MethodName := ⟨RX2, "isSquare", "(I)Z"⟩
abbrev cX2_valueOf : ByteArray := prog_4_method_6_code
def yX2_valueOf : MethodName := ⟨RX2, "valueOf", "(I)I"⟩
abbrev cX2_fillValues : ByteArray := prog_4_method_7_code
def yX2_fillValues : MethodName := ⟨RX2, "fillValues", "()V"⟩
abbrev cX2_noteValue : ByteArray := prog_4_method_8_code
def yX2_noteValue : MethodName := ⟨RX2, "noteValue", "(II)V"⟩
abbrev cX2_leastWithout : ByteArray := prog_4_method_9_code
def yX2_leastWithout : MethodName := ⟨RX2, "leastWithout", "(I)I"⟩
def RX3 : String := "HeapGames$Solver"
def TX3 : u_T := fun k => match k with
  | 0 => ("HeapGames$Solver", "table", "[I", true)
  | 1 => ("HeapGames$Solver", "allowed", "[I", true)
  | 2 => ("HeapGames$Solver", "next", "[I", true)
  | 3 => ("HeapGames$Solver", "nextCount", "I", false)
  | 4 => ("HeapGames$Solver", "preparedFor", "I", false)
  | 5 => ("HeapGames$Solver", "stamp", "I", false)
  | 6 => ("HeapGames$Solver", "heaps", "I", false)
  | 7 => ("HeapGames$Solver", "shared", "I", false)
  | _ => ("HeapGames$Solver", "misere", "Z", false)
def tyX3 : Nat → FieldType := fun k => match k with
  | 0 => .array .int
  | 1 => .array .int
  | 2 => .array .int
  | 3 => .int
  | 4 => .int
  | 5 => .int
  | 6 => .int
  | 7 => .int
  | _ => .boolean
abbrev wsX30 : List Cond := u_ws RX3 TX3 9
theorem nmX3 : ∀ a, a < 9 → ∀ b, b < 9 → a ≠ b → (TX3 a).2.1 ≠ (TX3 b).2.1 := by decide +kernel
theorem tyX3_ok : ∀ k, k < 9 → parseFieldDescriptor (TX3 k).2.2.1 = some (tyX3 k) := by decide +kernel
abbrev cX3_init : ByteArray := prog_5_method_1_code
def yX3_init : MethodName := ⟨RX3, "<init>", "()V"⟩
abbrev cX3_forget : ByteArray := prog_5_method_2_code
def yX3_forget : MethodName := ⟨RX3, "forget", "()V"⟩
abbrev cX3_prepare : ByteArray := prog_5_method_3_code
def yX3_prepare : MethodName := ⟨RX3, "prepare", "(LHeapGames$Game;)V"⟩
abbrev cX3_fillAllowed : ByteArray := prog_5_method_4_code
def yX3_fillAllowed : MethodName := ⟨RX3, "fillAllowed", "(ILHeapGames$Rule;)V"⟩
abbrev cX3_listNext : ByteArray := prog_5_method_5_code
def yX3_listNext : MethodName := ⟨RX3, "listNext", "(I)I"⟩
abbrev cX3_addTakes : ByteArray := prog_5_method_6_code
def yX3_addTakes : MethodName := ⟨RX3, "addTakes", "(II)V"⟩
abbrev cX3_addShared : ByteArray := prog_5_method_7_code
def yX3_addShared : MethodName := ⟨RX3, "addShared", "(III)V"⟩
abbrev cX3_addNext : ByteArray := prog_5_method_8_code
def yX3_addNext : MethodName := ⟨RX3, "addNext", "(I)V"⟩
abbrev cX3_nextAt : ByteArray := prog_5_method_9_code
def yX3_nextAt : MethodName := ⟨RX3, "nextAt", "(I)I"⟩
abbrev cX3_solveBelow : ByteArray := prog_5_method_10_code
def yX3_solveBelow : MethodName := ⟨RX3, "solveBelow", "(I)V"⟩
abbrev cX3_countHeapsBelow : ByteArray := prog_5_method_11_code
def yX3_countHeapsBelow : MethodName := ⟨RX3, "countHeapsBelow", "(I)I"⟩
abbrev cX3_followingBelow : ByteArray := prog_5_method_12_code
def yX3_followingBelow : MethodName := ⟨RX3, "followingBelow", "(II)I"⟩
abbrev cX3_solve : ByteArray := prog_5_method_13_code
def yX3_solve : MethodName := ⟨RX3, "solve", "(I)I"⟩
abbrev cX3_leastOutside : ByteArray := prog_5_method_14_code
def yX3_leastOutside : MethodName := ⟨RX3, "leastOutside", "(J)I"⟩
abbrev cX3_keep : ByteArray := prog_5_method_15_code
def yX3_keep : MethodName := ⟨RX3, "keep", "(II)V"⟩
abbrev cX3_foundAt : ByteArray := prog_5_method_16_code
def yX3_foundAt : MethodName := ⟨RX3, "foundAt", "(I)I"⟩
abbrev cX3_valueAt : ByteArray := prog_5_method_17_code
def yX3_valueAt : MethodName := ⟨RX3, "valueAt", "(I)I"⟩
abbrev cX3_isWonAt : ByteArray := prog_5_method_18_code
def yX3_isWonAt : MethodName := ⟨RX3, "isWonAt", "(I)Z"⟩
abbrev cX3_lengthAt : ByteArray := prog_5_method_19_code
def yX3_lengthAt : MethodName := ⟨RX3, "lengthAt", "(I)I"⟩
def RX4 : String := "HeapGames$State"
def TX4 : u_T := fun k => match k with
  | 0 => ("HeapGames$State", "heaps", "I", false)
  | 1 => ("HeapGames$State", "heapRules", "I", false)
  | 2 => ("HeapGames$State", "position", "I", false)
  | 3 => ("HeapGames$State", "misere", "Z", false)
  | 4 => ("HeapGames$State", "playedCount", "I", false)
  | _ => ("HeapGames$State", "playedMoves", "[I", true)
def tyX4 : Nat → FieldType := fun k => match k with
  | 0 => .int
  | 1 => .int
  | 2 => .int
  | 3 => .boolean
  | 4 => .int
  | _ => .array .int
abbrev wsX40 : List Cond := u_ws RX4 TX4 6
theorem nmX4 : ∀ a, a < 6 → ∀ b, b < 6 → a ≠ b → (TX4 a).2.1 ≠ (TX4 b).2.1 := by decide +kernel
theorem tyX4_ok : ∀ k, k < 6 → parseFieldDescriptor (TX4 k).2.2.1 = some (tyX4 k) := by decide +kernel
abbrev cX4_init : ByteArray := prog_6_method_1_code
def yX4_init : MethodName := ⟨RX4, "<init>", "()V"⟩
abbrev cX4_clear : ByteArray := prog_6_method_2_code
def yX4_clear : MethodName := ⟨RX4, "clear", "()V"⟩
abbrev cX4_copyFrom : ByteArray := prog_6_method_3_code
def yX4_copyFrom : MethodName := ⟨RX4, "copyFrom", "(LHeapGames$State;)V"⟩
abbrev cX4_addLast : ByteArray := prog_6_method_4_code
def yX4_addLast : MethodName := ⟨RX4, "addLast", "(II)I"⟩
abbrev cX4_addPlayed : ByteArray := prog_6_method_6_code
def yX4_addPlayed : MethodName := ⟨RX4, "addPlayed", "(I)V"⟩
abbrev cX4_playedAt : ByteArray := prog_6_method_7_code
def yX4_playedAt : MethodName := ⟨RX4, "playedAt", "(I)I"⟩
def RX5 : String := "HeapGames$TextReader"
def TX5 : u_T := fun k => match k with
  | 0 => ("HeapGames$TextReader", "bytes", "[B", true)
  | 1 => ("HeapGames$TextReader", "inputLength", "I", false)
  | 2 => ("HeapGames$TextReader", "limit", "I", false)
  | 3 => ("HeapGames$TextReader", "tokenStart", "I", false)
  | 4 => ("HeapGames$TextReader", "tokenEnd", "I", false)
  | 5 => ("HeapGames$TextReader", "token", "I", false)
  | 6 => ("HeapGames$TextReader", "draft", "LHeapGames$Game;", false)
  | 7 => ("HeapGames$TextReader", "hasPasses", "Z", false)
  | 8 => ("HeapGames$TextReader", "amountSet", "J", false)
  | _ => ("HeapGames$TextReader", "failure", "I", false)
def tyX5 : Nat → FieldType := fun k => match k with
  | 0 => .array .byte
  | 1 => .int
  | 2 => .int
  | 3 => .int
  | 4 => .int
  | 5 => .int
  | 6 => .object "HeapGames$Game"
  | 7 => .boolean
  | 8 => .long
  | _ => .int
abbrev wsX50 : List Cond := u_ws RX5 TX5 10
theorem nmX5 : ∀ a, a < 10 → ∀ b, b < 10 → a ≠ b → (TX5 a).2.1 ≠ (TX5 b).2.1 := by decide +kernel
theorem tyX5_ok : ∀ k, k < 10 → parseFieldDescriptor (TX5 k).2.2.1 = some (tyX5 k) := by decide +kernel
abbrev cX5_init : ByteArray := prog_7_method_1_code
def yX5_init : MethodName := ⟨RX5, "<init>", "()V"⟩
abbrev cX5_addBytes : ByteArray := prog_7_method_2_code
def yX5_addBytes : MethodName := ⟨RX5, "addBytes", "(I)V"⟩
abbrev cX5_readText : ByteArray := prog_7_method_3_code
def yX5_readText : MethodName := ⟨RX5, "readText", "(I)Z"⟩
abbrev cX5_readStatement : ByteArray := prog_7_method_4_code
def yX5_readStatement : MethodName := ⟨RX5, "readStatement", "()Z"⟩
abbrev cX5_readRule : ByteArray := prog_7_method_5_code
def yX5_readRule : MethodName := ⟨RX5, "readRule", "()Z"⟩
abbrev cX5_readHeap : ByteArray := prog_7_method_6_code
def yX5_readHeap : MethodName := ⟨RX5, "readHeap", "()Z"⟩
abbrev cX5_readShared : ByteArray := prog_7_method_7_code
def yX5_readShared : MethodName := ⟨RX5, "readShared", "()Z"⟩
abbrev cX5_readPasses : ByteArray := prog_7_method_8_code
def yX5_readPasses : MethodName := ⟨RX5, "readPasses", "()Z"⟩
abbrev cX5_readMisere : ByteArray := prog_7_method_9_code
def yX5_readMisere : MethodName := ⟨RX5, "readMisere", "()Z"⟩
abbrev cX5_readAmounts : ByteArray := prog_7_method_10_code
def yX5_readAmounts : MethodName := ⟨RX5, "readAmounts", "(I)Z"⟩
abbrev cX5_fail : ByteArray := prog_7_method_11_code
def yX5_fail : MethodName := ⟨RX5, "fail", "(I)Z"⟩
abbrev cX5_nextToken : ByteArray := prog_7_method_12_code
def yX5_nextToken : MethodName := ⟨RX5, "nextToken", "()V"⟩
abbrev cX5_kindOfByte : ByteArray := prog_7_method_13_code
def yX5_kindOfByte : MethodName := ⟨RX5, "kindOfByte", "(I)I"⟩
abbrev cX5_byteAt : ByteArray := prog_7_method_14_code
def yX5_byteAt : MethodName := ⟨RX5, "byteAt", "(I)I"⟩
abbrev cX5_tokenLength : ByteArray := prog_7_method_15_code
def yX5_tokenLength : MethodName := ⟨RX5, "tokenLength", "()I"⟩
abbrev cX5_isWord : ByteArray := prog_7_method_16_code
def yX5_isWord : MethodName := ⟨RX5, "isWord", "(Ljava/lang/String;)Z"⟩
abbrev cX5_isName : ByteArray := prog_7_method_17_code
def yX5_isName : MethodName := ⟨RX5, "isName", "()Z"⟩
abbrev cX5_nameOfToken : ByteArray := prog_7_method_18_code
def yX5_nameOfToken : MethodName := ⟨RX5, "nameOfToken", "()J"⟩
abbrev cX5_isNumber : ByteArray := prog_7_method_19_code
def yX5_isNumber : MethodName := ⟨RX5, "isNumber", "()Z"⟩
abbrev cX5_numberOfToken : ByteArray := prog_7_method_20_code
def yX5_numberOfToken : MethodName := ⟨RX5, "numberOfToken", "()I"⟩
abbrev cX5_kindOfToken : ByteArray := prog_7_method_21_code
def yX5_kindOfToken : MethodName := ⟨RX5, "kindOfToken", "()I"⟩
def RX6 : String := "HeapGames"
def TX6 : u_T := fun k => match k with
  | 0 => ("HeapGames", "game", "LHeapGames$Game;", false)
  | 1 => ("HeapGames", "reader", "LHeapGames$TextReader;", true)
  | 2 => ("HeapGames", "solver", "LHeapGames$Solver;", true)
  | 3 => ("HeapGames", "history", "LHeapGames$History;", true)
  | 4 => ("HeapGames", "snapshots", "[LHeapGames$State;", true)
  | _ => ("HeapGames", "isSaved", "[Z", true)
def tyX6 : Nat → FieldType := fun k => match k with
  | 0 => .object "HeapGames$Game"
  | 1 => .object "HeapGames$TextReader"
  | 2 => .object "HeapGames$Solver"
  | 3 => .object "HeapGames$History"
  | 4 => .array (.object "HeapGames$State")
  | _ => .array .boolean
abbrev wsX60 : List Cond := u_ws RX6 TX6 6
theorem nmX6 : ∀ a, a < 6 → ∀ b, b < 6 → a ≠ b → (TX6 a).2.1 ≠ (TX6 b).2.1 := by decide +kernel
theorem tyX6_ok : ∀ k, k < 6 → parseFieldDescriptor (TX6 k).2.2.1 = some (tyX6 k) := by decide +kernel
abbrev cX6_init : ByteArray := prog_1_method_1_code
def yX6_init : MethodName := ⟨RX6, "<init>", "()V"⟩
abbrev cX6_append : ByteArray := prog_1_method_2_code
def yX6_append : MethodName := ⟨RX6, "append", "(IIIII)I"⟩
abbrev cX6_parse : ByteArray := prog_1_method_3_code
def yX6_parse : MethodName := ⟨RX6, "parse", "(I)I"⟩
abbrev cX6_size : ByteArray := prog_1_method_4_code
def yX6_size : MethodName := ⟨RX6, "size", "(I)I"⟩
abbrev cX6_playerToMove : ByteArray := prog_1_method_5_code
def yX6_playerToMove : MethodName := ⟨RX6, "playerToMove", "()I"⟩
abbrev cX6_winner : ByteArray := prog_1_method_6_code
def yX6_winner : MethodName := ⟨RX6, "winner", "()I"⟩
abbrev cX6_requireRule : ByteArray := prog_1_method_17_code
def yX6_requireRule : MethodName := ⟨RX6, "requireRule", "(I)LHeapGames$Rule;"⟩
abbrev cX6_nimSum : ByteArray := prog_1_method_20_code
def yX6_nimSum : MethodName := ⟨RX6, "nimSum", "()I"⟩
abbrev cX6_positionValue : ByteArray := prog_1_method_21_code
def yX6_positionValue : MethodName := ⟨RX6, "positionValue", "()I"⟩
abbrev cX6_isWon : ByteArray := prog_1_method_22_code
def yX6_isWon : MethodName := ⟨RX6, "isWon", "()Z"⟩
abbrev cX6_length : ByteArray := prog_1_method_23_code
def yX6_length : MethodName := ⟨RX6, "length", "()I"⟩
abbrev cX6_moves : ByteArray := prog_1_method_24_code
def yX6_moves : MethodName := ⟨RX6, "moves", "()I"⟩
abbrev cX6_move : ByteArray := prog_1_method_25_code
def yX6_move : MethodName := ⟨RX6, "move", "(II)I"⟩
abbrev cX6_winning : ByteArray := prog_1_method_26_code
def yX6_winning : MethodName := ⟨RX6, "winning", "()I"⟩
abbrev cX6_best : ByteArray := prog_1_method_27_code
def yX6_best : MethodName := ⟨RX6, "best", "()I"⟩
abbrev cX6_findBest : ByteArray := prog_1_method_28_code
def yX6_findBest : MethodName := ⟨RX6, "findBest", "()I"⟩
abbrev cX6_isBetter : ByteArray := prog_1_method_29_code
def yX6_isBetter : MethodName := ⟨RX6, "isBetter", "(II)Z"⟩
abbrev cX6_requireHeap : ByteArray := prog_1_method_33_code
def yX6_requireHeap : MethodName := ⟨RX6, "requireHeap", "(I)V"⟩
abbrev cX6_countersOf : ByteArray := prog_1_method_34_code
def yX6_countersOf : MethodName := ⟨RX6, "countersOf", "(I)I"⟩
abbrev cX6_solvePosition : ByteArray := prog_1_method_35_code
def yX6_solvePosition : MethodName := ⟨RX6, "solvePosition", "()V"⟩
abbrev cX6_listMoves : ByteArray := prog_1_method_36_code
def yX6_listMoves : MethodName := ⟨RX6, "listMoves", "()I"⟩
abbrev cX6_pass : ByteArray := prog_1_method_39_code
def yX6_pass : MethodName := ⟨RX6, "pass", "()I"⟩
abbrev cX6_setSize : ByteArray := prog_1_method_41_code
def yX6_setSize : MethodName := ⟨RX6, "setSize", "(II)I"⟩
abbrev cX6_setPasses : ByteArray := prog_1_method_42_code
def yX6_setPasses : MethodName := ⟨RX6, "setPasses", "(I)I"⟩
abbrev cX6_setMisere : ByteArray := prog_1_method_43_code
def yX6_setMisere : MethodName := ⟨RX6, "setMisere", "(Z)Z"⟩
abbrev cX6_addHeap : ByteArray := prog_1_method_44_code
def yX6_addHeap : MethodName := ⟨RX6, "addHeap", "(II)I"⟩
abbrev cX6_requireSize : ByteArray := prog_1_method_46_code
def yX6_requireSize : MethodName := ⟨RX6, "requireSize", "(I)V"⟩
abbrev cX6_isRecordFull : ByteArray := prog_1_method_47_code
def yX6_isRecordFull : MethodName := ⟨RX6, "isRecordFull", "()Z"⟩
abbrev cX6_playMove : ByteArray := prog_1_method_48_code
def yX6_playMove : MethodName := ⟨RX6, "playMove", "(I)V"⟩
abbrev cX6_checksum : ByteArray := prog_1_method_54_code
def yX6_checksum : MethodName := ⟨RX6, "checksum", "()J"⟩
abbrev cX6_bitsOf : ByteArray := prog_1_method_55_code
def yX6_bitsOf : MethodName := ⟨RX6, "bitsOf", "(II)I"⟩
abbrev cX6_withBits : ByteArray := prog_1_method_56_code
def yX6_withBits : MethodName := ⟨RX6, "withBits", "(III)I"⟩
abbrev cX6_passesOf : ByteArray := prog_1_method_58_code
def yX6_passesOf : MethodName := ⟨RX6, "passesOf", "(I)I"⟩
abbrev cX6_describe : ByteArray := prog_1_method_59_code
def yX6_describe : MethodName := ⟨RX6, "describe", "(II)I"⟩
abbrev cX6_heapTakenFrom : ByteArray := prog_1_method_60_code
def yX6_heapTakenFrom : MethodName := ⟨RX6, "heapTakenFrom", "(II)I"⟩
def RX7 : String := "HeapGamesModel"
def TX7 : u_T := fun k => match k with
  | _ => ("", "", "", false)
def tyX7 : Nat → FieldType := fun k => match k with
  | _ => .int
abbrev wsX70 : List Cond := u_ws RX7 TX7 0
theorem nmX7 : ∀ a, a < 0 → ∀ b, b < 0 → a ≠ b → (TX7 a).2.1 ≠ (TX7 b).2.1 := by decide +kernel
theorem tyX7_ok : ∀ k, k < 0 → parseFieldDescriptor (TX7 k).2.2.1 = some (tyX7 k) := by decide +kernel
def RJx145de : String := "java/io/Serializable"
def TJx145de : u_T := fun k => match k with
  | _ => ("", "", "", false)
def tyJx145de : Nat → FieldType := fun k => match k with
  | _ => .int
abbrev wsJx145de0 : List Cond := u_ws RJx145de TJx145de 0
theorem nmJx145de : ∀ a, a < 0 → ∀ b, b < 0 → a ≠ b → (TJx145de a).2.1 ≠ (TJx145de b).2.1 := by decide +kernel
theorem tyJx145de_ok : ∀ k, k < 0 → parseFieldDescriptor (TJx145de k).2.2.1 = some (tyJx145de k) := by decide +kernel
def RJ5 : String := "java/lang/AbstractStringBuilder"
def TJ5 : u_T := fun k => match k with
  | _ => ("", "", "", false)
def tyJ5 : Nat → FieldType := fun k => match k with
  | _ => .int
abbrev wsJ50 : List Cond := u_ws RJ5 TJ5 0
theorem nmJ5 : ∀ a, a < 0 → ∀ b, b < 0 → a ≠ b → (TJ5 a).2.1 ≠ (TJ5 b).2.1 := by decide +kernel
theorem tyJ5_ok : ∀ k, k < 0 → parseFieldDescriptor (TJ5 k).2.2.1 = some (tyJ5 k) := by decide +kernel
abbrev cJ5_init_d00df : ByteArray := prog_10_method_2_code
def yJ5_init_d00df : MethodName := ⟨RJ5, "<init>", "(I)V"⟩
abbrev cJ5_length_8abf5 : ByteArray := prog_10_method_6_code
def yJ5_length_8abf5 : MethodName := ⟨RJ5, "length", "()I"⟩
abbrev cJ5_ensureCapacityInternal_d00df : ByteArray := prog_10_method_9_code
def yJ5_ensureCapacityInternal_d00df : MethodName := ⟨RJ5, "ensureCapacityInternal", "(I)V"⟩
abbrev cJ5_newCapacity_0f7a4 : ByteArray := prog_10_method_10_code
def yJ5_newCapacity_0f7a4 : MethodName := ⟨RJ5, "newCapacity", "(I)I"⟩
abbrev cJ5_inflate_da8c8 : ByteArray := prog_10_method_11_code
def yJ5_inflate_da8c8 : MethodName := ⟨RJ5, "inflate", "()V"⟩
abbrev cJ5_charAt_5068e : ByteArray := prog_10_method_14_code
def yJ5_charAt_5068e : MethodName := ⟨RJ5, "charAt", "(I)C"⟩
abbrev cJ5_append_cf1ce : ByteArray := prog_10_method_22_code
def yJ5_append_cf1ce : MethodName := ⟨RJ5, "append", "(Ljava/lang/String;)Ljava/lang/AbstractStringBuilder;"⟩
abbrev cJ5_appendNull_278bc : ByteArray := prog_10_method_26_code
def yJ5_appendNull_278bc : MethodName := ⟨RJ5, "appendNull", "()Ljava/lang/AbstractStringBuilder;"⟩
abbrev cJ5_append_3fe6f : ByteArray := prog_10_method_31_code
def yJ5_append_3fe6f : MethodName := ⟨RJ5, "append", "(C)Ljava/lang/AbstractStringBuilder;"⟩
abbrev cJ5_append_c97b9 : ByteArray := prog_10_method_32_code
def yJ5_append_c97b9 : MethodName := ⟨RJ5, "append", "(I)Ljava/lang/AbstractStringBuilder;"⟩
abbrev cJ5_isLatin1_aae02 : ByteArray := prog_10_method_68_code
def yJ5_isLatin1_aae02 : MethodName := ⟨RJ5, "isLatin1", "()Z"⟩
abbrev cJ5_inflateIfNeededFor_a7421 : ByteArray := prog_10_method_71_code
def yJ5_inflateIfNeededFor_a7421 : MethodName := ⟨RJ5, "inflateIfNeededFor", "(Ljava/lang/String;)V"⟩
abbrev cJ5_putStringAt_47b60 : ByteArray := prog_10_method_73_code
def yJ5_putStringAt_47b60 : MethodName := ⟨RJ5, "putStringAt", "(ILjava/lang/String;)V"⟩
def RJx2cfe8 : String := "java/lang/Appendable"
def TJx2cfe8 : u_T := fun k => match k with
  | _ => ("", "", "", false)
def tyJx2cfe8 : Nat → FieldType := fun k => match k with
  | _ => .int
abbrev wsJx2cfe80 : List Cond := u_ws RJx2cfe8 TJx2cfe8 0
theorem nmJx2cfe8 : ∀ a, a < 0 → ∀ b, b < 0 → a ≠ b → (TJx2cfe8 a).2.1 ≠ (TJx2cfe8 b).2.1 := by decide +kernel
theorem tyJx2cfe8_ok : ∀ k, k < 0 → parseFieldDescriptor (TJx2cfe8 k).2.2.1 = some (tyJx2cfe8 k) := by decide +kernel
def RJx9f9b0 : String := "java/lang/CharSequence"
def TJx9f9b0 : u_T := fun k => match k with
  | _ => ("", "", "", false)
def tyJx9f9b0 : Nat → FieldType := fun k => match k with
  | _ => .int
abbrev wsJx9f9b00 : List Cond := u_ws RJx9f9b0 TJx9f9b0 0
theorem nmJx9f9b0 : ∀ a, a < 0 → ∀ b, b < 0 → a ≠ b → (TJx9f9b0 a).2.1 ≠ (TJx9f9b0 b).2.1 := by decide +kernel
theorem tyJx9f9b0_ok : ∀ k, k < 0 → parseFieldDescriptor (TJx9f9b0 k).2.2.1 = some (tyJx9f9b0 k) := by decide +kernel
def RJx8e188 : String := "java/lang/Cloneable"
def TJx8e188 : u_T := fun k => match k with
  | _ => ("", "", "", false)
def tyJx8e188 : Nat → FieldType := fun k => match k with
  | _ => .int
abbrev wsJx8e1880 : List Cond := u_ws RJx8e188 TJx8e188 0
theorem nmJx8e188 : ∀ a, a < 0 → ∀ b, b < 0 → a ≠ b → (TJx8e188 a).2.1 ≠ (TJx8e188 b).2.1 := by decide +kernel
theorem tyJx8e188_ok : ∀ k, k < 0 → parseFieldDescriptor (TJx8e188 k).2.2.1 = some (tyJx8e188 k) := by decide +kernel
def RJxb160c : String := "java/lang/Comparable"
def TJxb160c : u_T := fun k => match k with
  | _ => ("", "", "", false)
def tyJxb160c : Nat → FieldType := fun k => match k with
  | _ => .int
abbrev wsJxb160c0 : List Cond := u_ws RJxb160c TJxb160c 0
theorem nmJxb160c : ∀ a, a < 0 → ∀ b, b < 0 → a ≠ b → (TJxb160c a).2.1 ≠ (TJxb160c b).2.1 := by decide +kernel
theorem tyJxb160c_ok : ∀ k, k < 0 → parseFieldDescriptor (TJxb160c k).2.2.1 = some (tyJxb160c k) := by decide +kernel
def RJ6 : String := "java/lang/Integer"
def TJ6 : u_T := fun k => match k with
  | _ => ("", "", "", false)
def tyJ6 : Nat → FieldType := fun k => match k with
  | _ => .int
abbrev wsJ60 : List Cond := u_ws RJ6 TJ6 0
theorem nmJ6 : ∀ a, a < 0 → ∀ b, b < 0 → a ≠ b → (TJ6 a).2.1 ≠ (TJ6 b).2.1 := by decide +kernel
theorem tyJ6_ok : ∀ k, k < 0 → parseFieldDescriptor (TJ6 k).2.2.1 = some (tyJ6 k) := by decide +kernel
abbrev cJ6_getChars_ba4f3 : ByteArray := prog_16_method_12_code
def yJ6_getChars_ba4f3 : MethodName := ⟨RJ6, "getChars", "(II[B)I"⟩
abbrev cJ6_stringSize_0f7a4 : ByteArray := prog_16_method_13_code
def yJ6_stringSize_0f7a4 : MethodName := ⟨RJ6, "stringSize", "(I)I"⟩
def RJ9 : String := "java/lang/Math"
def TJ9 : u_T := fun k => match k with
  | _ => ("", "", "", false)
def tyJ9 : Nat → FieldType := fun k => match k with
  | _ => .int
abbrev wsJ90 : List Cond := u_ws RJ9 TJ9 0
theorem nmJ9 : ∀ a, a < 0 → ∀ b, b < 0 → a ≠ b → (TJ9 a).2.1 ≠ (TJ9 b).2.1 := by decide +kernel
theorem tyJ9_ok : ∀ k, k < 0 → parseFieldDescriptor (TJ9 k).2.2.1 = some (tyJ9 k) := by decide +kernel
abbrev cJ9_max_7cf53 : ByteArray := prog_17_method_65_code
def yJ9_max_7cf53 : MethodName := ⟨RJ9, "max", "(II)I"⟩
abbrev cJ9_min_7cf53 : ByteArray := prog_17_method_69_code
def yJ9_min_7cf53 : MethodName := ⟨RJ9, "min", "(II)I"⟩
def RJxd2413 : String := "java/lang/Number"
def TJxd2413 : u_T := fun k => match k with
  | _ => ("", "", "", false)
def tyJxd2413 : Nat → FieldType := fun k => match k with
  | _ => .int
abbrev wsJxd24130 : List Cond := u_ws RJxd2413 TJxd2413 0
theorem nmJxd2413 : ∀ a, a < 0 → ∀ b, b < 0 → a ≠ b → (TJxd2413 a).2.1 ≠ (TJxd2413 b).2.1 := by decide +kernel
theorem tyJxd2413_ok : ∀ k, k < 0 → parseFieldDescriptor (TJxd2413 k).2.2.1 = some (tyJxd2413 k) := by decide +kernel
def RJ0 : String := "java/lang/String"
def TJ0 : u_T := fun k => match k with
  | _ => ("", "", "", false)
def tyJ0 : Nat → FieldType := fun k => match k with
  | _ => .int
abbrev wsJ00 : List Cond := u_ws RJ0 TJ0 0
theorem nmJ0 : ∀ a, a < 0 → ∀ b, b < 0 → a ≠ b → (TJ0 a).2.1 ≠ (TJ0 b).2.1 := by decide +kernel
theorem tyJ0_ok : ∀ k, k < 0 → parseFieldDescriptor (TJ0 k).2.2.1 = some (tyJ0 k) := by decide +kernel
abbrev cJ0_length_8abf5 : ByteArray := prog_20_method_54_code
def yJ0_length_8abf5 : MethodName := ⟨RJ0, "length", "()I"⟩
abbrev cJ0_charAt_5068e : ByteArray := prog_20_method_56_code
def yJ0_charAt_5068e : MethodName := ⟨RJ0, "charAt", "(I)C"⟩
abbrev cJ0_getBytes_840e7 : ByteArray := prog_20_method_147_code
def yJ0_getBytes_840e7 : MethodName := ⟨RJ0, "getBytes", "([BIB)V"⟩
abbrev cJ0_coder_7d493 : ByteArray := prog_20_method_152_code
def yJ0_coder_7d493 : MethodName := ⟨RJ0, "coder", "()B"⟩
abbrev cJ0_isLatin1_aae02 : ByteArray := prog_20_method_154_code
def yJ0_isLatin1_aae02 : MethodName := ⟨RJ0, "isLatin1", "()Z"⟩
abbrev cJ0_checkIndex_df160 : ByteArray := prog_20_method_155_code
def yJ0_checkIndex_df160 : MethodName := ⟨RJ0, "checkIndex", "(II)V"⟩
abbrev cJ0_checkBoundsOffCount_cabcc : ByteArray := prog_20_method_157_code
def yJ0_checkBoundsOffCount_cabcc : MethodName := ⟨RJ0, "checkBoundsOffCount", "(III)I"⟩
abbrev cJ0_checkBoundsBeginEnd_23922 : ByteArray := prog_20_method_158_code
def yJ0_checkBoundsBeginEnd_23922 : MethodName := ⟨RJ0, "checkBoundsBeginEnd", "(III)V"⟩
def RJ4 : String := "java/lang/StringBuilder"
def TJ4 : u_T := fun k => match k with
  | 0 => ("java/lang/AbstractStringBuilder", "value", "[B", false)
  | 1 => ("java/lang/AbstractStringBuilder", "coder", "B", false)
  | 2 => ("java/lang/AbstractStringBuilder", "maybeLatin1", "Z", false)
  | _ => ("java/lang/AbstractStringBuilder", "count", "I", false)
def tyJ4 : Nat → FieldType := fun k => match k with
  | 0 => .array .byte
  | 1 => .byte
  | 2 => .boolean
  | _ => .int
abbrev wsJ40 : List Cond := u_ws RJ4 TJ4 4
theorem nmJ4 : ∀ a, a < 4 → ∀ b, b < 4 → a ≠ b → (TJ4 a).2.1 ≠ (TJ4 b).2.1 := by decide +kernel
theorem tyJ4_ok : ∀ k, k < 4 → parseFieldDescriptor (TJ4 k).2.2.1 = some (tyJ4 k) := by decide +kernel
abbrev cJ4_init_da8c8 : ByteArray := prog_21_method_1_code
def yJ4_init_da8c8 : MethodName := ⟨RJ4, "<init>", "()V"⟩
abbrev cJ4_append_15ec4 : ByteArray := prog_21_method_7_code
def yJ4_append_15ec4 : MethodName := ⟨RJ4, "append", "(Ljava/lang/String;)Ljava/lang/StringBuilder;"⟩
abbrev cJ4_append_cf468 : ByteArray := prog_21_method_14_code
def yJ4_append_cf468 : MethodName := ⟨RJ4, "append", "(C)Ljava/lang/StringBuilder;"⟩
abbrev cJ4_append_bf812 : ByteArray := prog_21_method_15_code
def yJ4_append_bf812 : MethodName := ⟨RJ4, "append", "(I)Ljava/lang/StringBuilder;"⟩
abbrev cJ4_charAt_5068e : ByteArray := prog_21_method_88_code
def yJ4_charAt_5068e : MethodName := ⟨RJ4, "charAt", "(I)C"⟩
abbrev cJ4_length_8abf5 : ByteArray := prog_21_method_93_code
def yJ4_length_8abf5 : MethodName := ⟨RJ4, "length", "()I"⟩
def RJ1 : String := "java/lang/StringLatin1"
def TJ1 : u_T := fun k => match k with
  | _ => ("", "", "", false)
def tyJ1 : Nat → FieldType := fun k => match k with
  | _ => .int
abbrev wsJ10 : List Cond := u_ws RJ1 TJ1 0
theorem nmJ1 : ∀ a, a < 0 → ∀ b, b < 0 → a ≠ b → (TJ1 a).2.1 ≠ (TJ1 b).2.1 := by decide +kernel
theorem tyJ1_ok : ∀ k, k < 0 → parseFieldDescriptor (TJ1 k).2.2.1 = some (tyJ1 k) := by decide +kernel
abbrev cJ1_charAt_3b067 : ByteArray := prog_22_method_2_code
def yJ1_charAt_3b067 : MethodName := ⟨RJ1, "charAt", "([BI)C"⟩
abbrev cJ1_canEncode_fc78d : ByteArray := prog_22_method_3_code
def yJ1_canEncode_fc78d : MethodName := ⟨RJ1, "canEncode", "(C)Z"⟩
abbrev cJ1_inflate_0e8fd : ByteArray := prog_22_method_50_code
def yJ1_inflate_0e8fd : MethodName := ⟨RJ1, "inflate", "([BI[BII)V"⟩
def RJ2 : String := "java/lang/StringUTF16"
def TJ2 : u_T := fun k => match k with
  | _ => ("", "", "", false)
def tyJ2 : Nat → FieldType := fun k => match k with
  | _ => .int
abbrev wsJ20 : List Cond := u_ws RJ2 TJ2 0
theorem nmJ2 : ∀ a, a < 0 → ∀ b, b < 0 → a ≠ b → (TJ2 a).2.1 ≠ (TJ2 b).2.1 := by decide +kernel
theorem tyJ2_ok : ∀ k, k < 0 → parseFieldDescriptor (TJ2 k).2.2.1 = some (tyJ2 k) := by decide +kernel
abbrev cJ2_newBytesFor_77867 : ByteArray := prog_23_method_2_code
def yJ2_newBytesFor_77867 : MethodName := ⟨RJ2, "newBytesFor", "(I)[B"⟩
abbrev cJ2_newBytesLength_0f7a4 : ByteArray := prog_23_method_3_code
def yJ2_newBytesLength_0f7a4 : MethodName := ⟨RJ2, "newBytesLength", "(I)I"⟩
abbrev cJ2_putChar_b72d1 : ByteArray := prog_23_method_4_code
def yJ2_putChar_b72d1 : MethodName := ⟨RJ2, "putChar", "([BII)V"⟩
abbrev cJ2_getChar_3b067 : ByteArray := prog_23_method_5_code
def yJ2_getChar_3b067 : MethodName := ⟨RJ2, "getChar", "([BI)C"⟩
abbrev cJ2_length_9d52b : ByteArray := prog_23_method_6_code
def yJ2_length_9d52b : MethodName := ⟨RJ2, "length", "([B)I"⟩
abbrev cJ2_putCharSB_b72d1 : ByteArray := prog_23_method_71_code
def yJ2_putCharSB_b72d1 : MethodName := ⟨RJ2, "putCharSB", "([BII)V"⟩
abbrev cJ2_getChars_46870 : ByteArray := prog_23_method_77_code
def yJ2_getChars_46870 : MethodName := ⟨RJ2, "getChars", "(III[B)I"⟩
abbrev cJ2_putCharsAt_cd4e5 : ByteArray := prog_23_method_81_code
def yJ2_putCharsAt_cd4e5 : MethodName := ⟨RJ2, "putCharsAt", "([BICCCC)I"⟩
abbrev cJ2_charAt_3b067 : ByteArray := prog_23_method_83_code
def yJ2_charAt_3b067 : MethodName := ⟨RJ2, "charAt", "([BI)C"⟩
abbrev cJ2_inflate_0e8fd : ByteArray := prog_23_method_86_code
def yJ2_inflate_0e8fd : MethodName := ⟨RJ2, "inflate", "([BI[BII)V"⟩
abbrev cJ2_getChars_ba4f3 : ByteArray := prog_23_method_89_code
def yJ2_getChars_ba4f3 : MethodName := ⟨RJ2, "getChars", "(II[B)I"⟩
abbrev cJ2_checkIndex_2214a : ByteArray := prog_23_method_91_code
def yJ2_checkIndex_2214a : MethodName := ⟨RJ2, "checkIndex", "(I[B)V"⟩
abbrev cJ2_checkBoundsBeginEnd_d044e : ByteArray := prog_23_method_93_code
def yJ2_checkBoundsBeginEnd_d044e : MethodName := ⟨RJ2, "checkBoundsBeginEnd", "(II[B)V"⟩
abbrev cJ2_checkBoundsOffCount_d044e : ByteArray := prog_23_method_94_code
def yJ2_checkBoundsOffCount_d044e : MethodName := ⟨RJ2, "checkBoundsOffCount", "(II[B)V"⟩
def RJ10 : String := "java/lang/System"
def TJ10 : u_T := fun k => match k with
  | _ => ("", "", "", false)
def tyJ10 : Nat → FieldType := fun k => match k with
  | _ => .int
abbrev wsJ100 : List Cond := u_ws RJ10 TJ10 0
theorem nmJ10 : ∀ a, a < 0 → ∀ b, b < 0 → a ≠ b → (TJ10 a).2.1 ≠ (TJ10 b).2.1 := by decide +kernel
theorem tyJ10_ok : ∀ k, k < 0 → parseFieldDescriptor (TJ10 k).2.2.1 = some (tyJ10 k) := by decide +kernel
def RJxfd54e : String := "java/lang/constant/Constable"
def TJxfd54e : u_T := fun k => match k with
  | _ => ("", "", "", false)
def tyJxfd54e : Nat → FieldType := fun k => match k with
  | _ => .int
abbrev wsJxfd54e0 : List Cond := u_ws RJxfd54e TJxfd54e 0
theorem nmJxfd54e : ∀ a, a < 0 → ∀ b, b < 0 → a ≠ b → (TJxfd54e a).2.1 ≠ (TJxfd54e b).2.1 := by decide +kernel
theorem tyJxfd54e_ok : ∀ k, k < 0 → parseFieldDescriptor (TJxfd54e k).2.2.1 = some (tyJxfd54e k) := by decide +kernel
def RJx3cf43 : String := "java/lang/constant/ConstantDesc"
def TJx3cf43 : u_T := fun k => match k with
  | _ => ("", "", "", false)
def tyJx3cf43 : Nat → FieldType := fun k => match k with
  | _ => .int
abbrev wsJx3cf430 : List Cond := u_ws RJx3cf43 TJx3cf43 0
theorem nmJx3cf43 : ∀ a, a < 0 → ∀ b, b < 0 → a ≠ b → (TJx3cf43 a).2.1 ≠ (TJx3cf43 b).2.1 := by decide +kernel
theorem tyJx3cf43_ok : ∀ k, k < 0 → parseFieldDescriptor (TJx3cf43 k).2.2.1 = some (tyJx3cf43 k) := by decide +kernel
def RJ7 : String := "java/util/Arrays"
def TJ7 : u_T := fun k => match k with
  | _ => ("", "", "", false)
def tyJ7 : Nat → FieldType := fun k => match k with
  | _ => .int
abbrev wsJ70 : List Cond := u_ws RJ7 TJ7 0
theorem nmJ7 : ∀ a, a < 0 → ∀ b, b < 0 → a ≠ b → (TJ7 a).2.1 ≠ (TJ7 b).2.1 := by decide +kernel
theorem tyJ7_ok : ∀ k, k < 0 → parseFieldDescriptor (TJ7 k).2.2.1 = some (tyJ7 k) := by decide +kernel
abbrev cJ7_fill_53178 : ByteArray := prog_26_method_103_code
def yJ7_fill_53178 : MethodName := ⟨RJ7, "fill", "([II)V"⟩
abbrev cJ7_copyOf_9075b : ByteArray := prog_26_method_121_code
def yJ7_copyOf_9075b : MethodName := ⟨RJ7, "copyOf", "([BI)[B"⟩
def RJ8 : String := "jdk/internal/util/ArraysSupport"
def TJ8 : u_T := fun k => match k with
  | _ => ("", "", "", false)
def tyJ8 : Nat → FieldType := fun k => match k with
  | _ => .int
abbrev wsJ80 : List Cond := u_ws RJ8 TJ8 0
theorem nmJ8 : ∀ a, a < 0 → ∀ b, b < 0 → a ≠ b → (TJ8 a).2.1 ≠ (TJ8 b).2.1 := by decide +kernel
theorem tyJ8_ok : ∀ k, k < 0 → parseFieldDescriptor (TJ8 k).2.2.1 = some (tyJ8 k) := by decide +kernel
abbrev cJ8_newLength_cabcc : ByteArray := prog_27_method_27_code
def yJ8_newLength_cabcc : MethodName := ⟨RJ8, "newLength", "(III)I"⟩
abbrev cJ8_hugeLength_7cf53 : ByteArray := prog_27_method_28_code
def yJ8_hugeLength_7cf53 : MethodName := ⟨RJ8, "hugeLength", "(II)I"⟩
def RJ3 : String := "jdk/internal/util/Preconditions"
def TJ3 : u_T := fun k => match k with
  | _ => ("", "", "", false)
def tyJ3 : Nat → FieldType := fun k => match k with
  | _ => .int
abbrev wsJ30 : List Cond := u_ws RJ3 TJ3 0
theorem nmJ3 : ∀ a, a < 0 → ∀ b, b < 0 → a ≠ b → (TJ3 a).2.1 ≠ (TJ3 b).2.1 := by decide +kernel
theorem tyJ3_ok : ∀ k, k < 0 → parseFieldDescriptor (TJ3 k).2.2.1 = some (tyJ3 k) := by decide +kernel
abbrev cJ3_checkIndex_8e157 : ByteArray := prog_28_method_11_code
def yJ3_checkIndex_8e157 : MethodName := ⟨RJ3, "checkIndex", "(IILjava/util/function/BiFunction;)I"⟩
abbrev cJ3_checkFromToIndex_8c36e : ByteArray := prog_28_method_12_code
def yJ3_checkFromToIndex_8c36e : MethodName := ⟨RJ3, "checkFromToIndex", "(IIILjava/util/function/BiFunction;)I"⟩
abbrev cJ3_checkFromIndexSize_8c36e : ByteArray := prog_28_method_13_code
def yJ3_checkFromIndexSize_8c36e : MethodName := ⟨RJ3, "checkFromIndexSize", "(IIILjava/util/function/BiFunction;)I"⟩
def RL : String := "HeapGamesLaw"
abbrev cL_cell : ByteArray := method_2_code
def yL_cell : MethodName := ⟨RL, "cell", "([II)I"⟩
abbrev cL_pick : ByteArray := method_3_code
def yL_pick : MethodName := ⟨RL, "pick", "([III)I"⟩
abbrev cL_rule : ByteArray := method_4_code
def yL_rule : MethodName := ⟨RL, "rule", "(Ljava/lang/StringBuilder;[II)V"⟩
abbrev cL_begins : ByteArray := method_5_code
def yL_begins : MethodName := ⟨RL, "begins", "(LHeapGames;[I)Z"⟩
abbrev cL_isPosition : ByteArray := method_6_code
def yL_isPosition : MethodName := ⟨RL, "isPosition", "(LHeapGames;)Z"⟩
abbrev cL_isSum : ByteArray := method_7_code
def yL_isSum : MethodName := ⟨RL, "isSum", "(LHeapGames;)Z"⟩
abbrev cL_refuses : ByteArray := method_8_code
def yL_refuses : MethodName := ⟨RL, "refuses", "(LHeapGames;)Z"⟩
abbrev cL_law : ByteArray := code
def yL_law : MethodName := ⟨RL, "law", "([I)Z"⟩
abbrev vwCl : List vw_C := [(RX0, TX0, 4), (RX1, TX1, 3), (RX2, TX2, 5), (RX3, TX3, 9), (RX4, TX4, 6), (RX5, TX5, 10), (RX6, TX6, 6), (RJ4, TJ4, 4)]

def RX0 : String := "LastPenny$Bold"
def TX0 : u_T := fun k => match k with
  | 0 => ("LastPenny$Penny", "kind", "I", true)
  | 1 => ("LastPenny$Penny", "number", "I", true)
  | 2 => ("LastPenny$Penny", "v", "I", true)
  | _ => ("LastPenny$Penny", "goal", "I", true)
def tyX0 : Nat → FieldType := fun k => match k with
  | 0 => .int
  | 1 => .int
  | 2 => .int
  | _ => .int
abbrev wsX00 : List Cond := u_ws RX0 TX0 4
theorem nmX0 : ∀ a, a < 4 → ∀ b, b < 4 → a ≠ b → (TX0 a).2.1 ≠ (TX0 b).2.1 := by decide +kernel
theorem tyX0_ok : ∀ k, k < 4 → parseFieldDescriptor (TX0 k).2.2.1 = some (tyX0 k) := by decide +kernel
abbrev cX0_init : ByteArray := prog_2_method_1_code
def yX0_init : MethodName := ⟨RX0, "<init>", "(IIII)V"⟩
abbrev cX0_wish : ByteArray := prog_2_method_2_code
def yX0_wish : MethodName := ⟨RX0, "wish", "(II)I"⟩
abbrev cX0_stakesAct : ByteArray := prog_2_method_3_code
def yX0_stakesAct : MethodName := ⟨RX0, "stakesAct", "(I[I)I"⟩
def RX1 : String := "LastPenny$Careful"
def TX1 : u_T := fun k => match k with
  | 0 => ("LastPenny$Penny", "kind", "I", true)
  | 1 => ("LastPenny$Penny", "number", "I", true)
  | 2 => ("LastPenny$Penny", "v", "I", true)
  | _ => ("LastPenny$Penny", "goal", "I", true)
def tyX1 : Nat → FieldType := fun k => match k with
  | 0 => .int
  | 1 => .int
  | 2 => .int
  | _ => .int
abbrev wsX10 : List Cond := u_ws RX1 TX1 4
theorem nmX1 : ∀ a, a < 4 → ∀ b, b < 4 → a ≠ b → (TX1 a).2.1 ≠ (TX1 b).2.1 := by decide +kernel
theorem tyX1_ok : ∀ k, k < 4 → parseFieldDescriptor (TX1 k).2.2.1 = some (tyX1 k) := by decide +kernel
abbrev cX1_init : ByteArray := prog_3_method_1_code
def yX1_init : MethodName := ⟨RX1, "<init>", "(IIII)V"⟩
abbrev cX1_wish : ByteArray := prog_3_method_2_code
def yX1_wish : MethodName := ⟨RX1, "wish", "(II)I"⟩
abbrev cX1_stakesAct : ByteArray := prog_3_method_3_code
def yX1_stakesAct : MethodName := ⟨RX1, "stakesAct", "(I[I)I"⟩
def RX2 : String := "LastPenny$Chances"
def TX2 : u_T := fun k => match k with
  | 0 => ("LastPenny$Chances", "now", "[J", true)
  | 1 => ("LastPenny$Chances", "next", "[J", true)
  | 2 => ("LastPenny$Chances", "ways", "J", false)
  | 3 => ("LastPenny$Chances", "made", "J", false)
  | 4 => ("LastPenny$Chances", "firstStakes", "[I", true)
  | 5 => ("LastPenny$Chances", "stakes", "[I", true)
  | 6 => ("LastPenny$Chances", "odds", "[I", true)
  | 7 => ("LastPenny$Chances", "anyOdds", "[I", true)
  | 8 => ("LastPenny$Chances", "trioNow", "[J", false)
  | 9 => ("LastPenny$Chances", "trioNext", "[J", false)
  | 10 => ("LastPenny$Chances", "trioHas", "[I", true)
  | _ => ("LastPenny$Chances", "outs", "[J", true)
def tyX2 : Nat → FieldType := fun k => match k with
  | 0 => .array .long
  | 1 => .array .long
  | 2 => .long
  | 3 => .long
  | 4 => .array .int
  | 5 => .array .int
  | 6 => .array .int
  | 7 => .array .int
  | 8 => .array .long
  | 9 => .array .long
  | 10 => .array .int
  | _ => .array .long
abbrev wsX20 : List Cond := u_ws RX2 TX2 12
theorem nmX2 : ∀ a, a < 12 → ∀ b, b < 12 → a ≠ b → (TX2 a).2.1 ≠ (TX2 b).2.1 := by decide +kernel
theorem tyX2_ok : ∀ k, k < 12 → parseFieldDescriptor (TX2 k).2.2.1 = some (tyX2 k) := by decide +kernel
abbrev cX2_init : ByteArray := prog_4_method_1_code
def yX2_init : MethodName := ⟨RX2, "<init>", "()V"⟩
abbrev cX2_spread : ByteArray := prog_4_method_2_code
def yX2_spread : MethodName := ⟨RX2, "spread", "(LLastPenny$State;LLastPenny$Penny;I)V"⟩
abbrev cX2_spreadOnce : ByteArray := prog_4_method_3_code
def yX2_spreadOnce : MethodName := ⟨RX2, "spreadOnce", "(I)V"⟩
abbrev cX2_pennies : ByteArray := prog_4_method_4_code
def yX2_pennies : MethodName := ⟨RX2, "pennies", "(I)J"⟩
abbrev cX2_lookAtPennyOdds : ByteArray := prog_4_method_5_code
def yX2_lookAtPennyOdds : MethodName := ⟨RX2, "lookAtPennyOdds", "(LLastPenny$State;LLastPenny$Penny;)V"⟩
abbrev cX2_climbed : ByteArray := prog_4_method_6_code
def yX2_climbed : MethodName := ⟨RX2, "climbed", "(II)J"⟩
abbrev cX2_lookAtOdds : ByteArray := prog_4_method_7_code
def yX2_lookAtOdds : MethodName := ⟨RX2, "lookAtOdds", "(LLastPenny$State;LLastPenny$Penny;)V"⟩
abbrev cX2_search : ByteArray := prog_4_method_8_code
def yX2_search : MethodName := ⟨RX2, "search", "(III)V"⟩
abbrev cX2_chooseStake : ByteArray := prog_4_method_9_code
def yX2_chooseStake : MethodName := ⟨RX2, "chooseStake", "(II)V"⟩
abbrev cX2_playTrio : ByteArray := prog_4_method_10_code
def yX2_playTrio : MethodName := ⟨RX2, "playTrio", "(IIII)V"⟩
abbrev cX2_playTrioOnce : ByteArray := prog_4_method_11_code
def yX2_playTrioOnce : MethodName := ⟨RX2, "playTrioOnce", "(I)V"⟩
abbrev cX2_giveAPenny : ByteArray := prog_4_method_12_code
def yX2_giveAPenny : MethodName := ⟨RX2, "giveAPenny", "(III)V"⟩
abbrev cX2_streaks : ByteArray := prog_4_method_13_code
def yX2_streaks : MethodName := ⟨RX2, "streaks", "(III)J"⟩
def RX3 : String := "LastPenny$Drunk"
def TX3 : u_T := fun k => match k with
  | 0 => ("LastPenny$Penny", "kind", "I", true)
  | 1 => ("LastPenny$Penny", "number", "I", true)
  | 2 => ("LastPenny$Penny", "v", "I", true)
  | _ => ("LastPenny$Penny", "goal", "I", true)
def tyX3 : Nat → FieldType := fun k => match k with
  | 0 => .int
  | 1 => .int
  | 2 => .int
  | _ => .int
abbrev wsX30 : List Cond := u_ws RX3 TX3 4
theorem nmX3 : ∀ a, a < 4 → ∀ b, b < 4 → a ≠ b → (TX3 a).2.1 ≠ (TX3 b).2.1 := by decide +kernel
theorem tyX3_ok : ∀ k, k < 4 → parseFieldDescriptor (TX3 k).2.2.1 = some (tyX3 k) := by decide +kernel
abbrev cX3_init : ByteArray := prog_5_method_1_code
def yX3_init : MethodName := ⟨RX3, "<init>", "(IIII)V"⟩
abbrev cX3_wish : ByteArray := prog_5_method_2_code
def yX3_wish : MethodName := ⟨RX3, "wish", "(II)I"⟩
abbrev cX3_countsAct : ByteArray := prog_5_method_3_code
def yX3_countsAct : MethodName := ⟨RX3, "countsAct", "(I[I)I"⟩
def RX4 : String := "LastPenny$Penny"
def TX4 : u_T := fun k => match k with
  | 0 => ("LastPenny$Penny", "kind", "I", true)
  | 1 => ("LastPenny$Penny", "number", "I", true)
  | 2 => ("LastPenny$Penny", "v", "I", true)
  | _ => ("LastPenny$Penny", "goal", "I", true)
def tyX4 : Nat → FieldType := fun k => match k with
  | 0 => .int
  | 1 => .int
  | 2 => .int
  | _ => .int
abbrev wsX40 : List Cond := u_ws RX4 TX4 4
theorem nmX4 : ∀ a, a < 4 → ∀ b, b < 4 → a ≠ b → (TX4 a).2.1 ≠ (TX4 b).2.1 := by decide +kernel
theorem tyX4_ok : ∀ k, k < 4 → parseFieldDescriptor (TX4 k).2.2.1 = some (tyX4 k) := by decide +kernel
abbrev cX4_init : ByteArray := prog_6_method_1_code
def yX4_init : MethodName := ⟨RX4, "<init>", "(IIII)V"⟩
abbrev cX4_isOver : ByteArray := prog_6_method_2_code
def yX4_isOver : MethodName := ⟨RX4, "isOver", "(I)Z"⟩
abbrev cX4_wish : ByteArray := prog_6_method_3_code
def yX4_wish : MethodName := ⟨RX4, "wish", "(II)I"⟩
abbrev cX4_stakesAct : ByteArray := prog_6_method_4_code
def yX4_stakesAct : MethodName := ⟨RX4, "stakesAct", "(I[I)I"⟩
abbrev cX4_throwsAct : ByteArray := prog_6_method_5_code
def yX4_throwsAct : MethodName := ⟨RX4, "throwsAct", "(I[I)I"⟩
abbrev cX4_countsAct : ByteArray := prog_6_method_6_code
def yX4_countsAct : MethodName := ⟨RX4, "countsAct", "(I[I)I"⟩
abbrev cX4_began : ByteArray := prog_6_method_7_code
def yX4_began : MethodName := ⟨RX4, "began", "(I[I)V"⟩
def RX5 : String := "LastPenny$Reader"
def TX5 : u_T := fun k => match k with
  | 0 => ("LastPenny$Reader", "text", "[B", false)
  | 1 => ("LastPenny$Reader", "size", "I", false)
  | 2 => ("LastPenny$Reader", "at", "I", false)
  | 3 => ("LastPenny$Reader", "weights", "[I", true)
  | 4 => ("LastPenny$Reader", "ends", "[I", true)
  | 5 => ("LastPenny$Reader", "leanings", "I", false)
  | 6 => ("LastPenny$Reader", "code", "[I", true)
  | 7 => ("LastPenny$Reader", "codeSize", "I", false)
  | _ => ("LastPenny$Reader", "limit", "I", false)
def tyX5 : Nat → FieldType := fun k => match k with
  | 0 => .array .byte
  | 1 => .int
  | 2 => .int
  | 3 => .array .int
  | 4 => .array .int
  | 5 => .int
  | 6 => .array .int
  | 7 => .int
  | _ => .int
abbrev wsX50 : List Cond := u_ws RX5 TX5 9
theorem nmX5 : ∀ a, a < 9 → ∀ b, b < 9 → a ≠ b → (TX5 a).2.1 ≠ (TX5 b).2.1 := by decide +kernel
theorem tyX5_ok : ∀ k, k < 9 → parseFieldDescriptor (TX5 k).2.2.1 = some (tyX5 k) := by decide +kernel
abbrev cX5_init : ByteArray := prog_7_method_1_code
def yX5_init : MethodName := ⟨RX5, "<init>", "()V"⟩
abbrev cX5_read : ByteArray := prog_7_method_2_code
def yX5_read : MethodName := ⟨RX5, "read", "([BI)Z"⟩
abbrev cX5_made : ByteArray := prog_7_method_3_code
def yX5_made : MethodName := ⟨RX5, "made", "()LLastPenny$Table;"⟩
abbrev cX5_take : ByteArray := prog_7_method_4_code
def yX5_take : MethodName := ⟨RX5, "take", "(C)Z"⟩
abbrev cX5_takeAll : ByteArray := prog_7_method_5_code
def yX5_takeAll : MethodName := ⟨RX5, "takeAll", "(Ljava/lang/String;)Z"⟩
abbrev cX5_takeOneOf : ByteArray := prog_7_method_6_code
def yX5_takeOneOf : MethodName := ⟨RX5, "takeOneOf", "(Ljava/lang/String;)I"⟩
abbrev cX5_readNumber : ByteArray := prog_7_method_7_code
def yX5_readNumber : MethodName := ⟨RX5, "readNumber", "()I"⟩
abbrev cX5_readClause : ByteArray := prog_7_method_8_code
def yX5_readClause : MethodName := ⟨RX5, "readClause", "()Z"⟩
abbrev cX5_readWord : ByteArray := prog_7_method_9_code
def yX5_readWord : MethodName := ⟨RX5, "readWord", "()I"⟩
abbrev cX5_readEither : ByteArray := prog_7_method_10_code
def yX5_readEither : MethodName := ⟨RX5, "readEither", "(I)Z"⟩
abbrev cX5_readSingle : ByteArray := prog_7_method_11_code
def yX5_readSingle : MethodName := ⟨RX5, "readSingle", "(I)Z"⟩
abbrev cX5_readTest : ByteArray := prog_7_method_12_code
def yX5_readTest : MethodName := ⟨RX5, "readTest", "()Z"⟩
abbrev cX5_put : ByteArray := prog_7_method_13_code
def yX5_put : MethodName := ⟨RX5, "put", "(I)V"⟩
def RX6 : String := "LastPenny$State"
def TX6 : u_T := fun k => match k with
  | 0 => ("LastPenny$State", "tape", "[B", true)
  | 1 => ("LastPenny$State", "signs", "I", false)
  | 2 => ("LastPenny$State", "tables", "[LLastPenny$Table;", true)
  | 3 => ("LastPenny$State", "tableCount", "I", false)
  | 4 => ("LastPenny$State", "players", "[LLastPenny$Penny;", true)
  | 5 => ("LastPenny$State", "purses", "[I", true)
  | 6 => ("LastPenny$State", "rows", "[I", true)
  | 7 => ("LastPenny$State", "playerCount", "I", false)
  | 8 => ("LastPenny$State", "today", "I", false)
  | 9 => ("LastPenny$State", "tosses", "I", false)
  | 10 => ("LastPenny$State", "wonTosses", "I", false)
  | _ => ("LastPenny$State", "sight", "[I", true)
def tyX6 : Nat → FieldType := fun k => match k with
  | 0 => .array .byte
  | 1 => .int
  | 2 => .array (.object "LastPenny$Table")
  | 3 => .int
  | 4 => .array (.object "LastPenny$Penny")
  | 5 => .array .int
  | 6 => .array .int
  | 7 => .int
  | 8 => .int
  | 9 => .int
  | 10 => .int
  | _ => .array .int
abbrev wsX60 : List Cond := u_ws RX6 TX6 12
theorem nmX6 : ∀ a, a < 12 → ∀ b, b < 12 → a ≠ b → (TX6 a).2.1 ≠ (TX6 b).2.1 := by decide +kernel
theorem tyX6_ok : ∀ k, k < 12 → parseFieldDescriptor (TX6 k).2.2.1 = some (tyX6 k) := by decide +kernel
abbrev cX6_init : ByteArray := prog_8_method_1_code
def yX6_init : MethodName := ⟨RX6, "<init>", "()V"⟩
abbrev cX6_become : ByteArray := prog_8_method_2_code
def yX6_become : MethodName := ⟨RX6, "become", "(LLastPenny$State;)V"⟩
abbrev cX6_playerAt : ByteArray := prog_8_method_3_code
def yX6_playerAt : MethodName := ⟨RX6, "playerAt", "(I)LLastPenny$Penny;"⟩
abbrev cX6_holding : ByteArray := prog_8_method_4_code
def yX6_holding : MethodName := ⟨RX6, "holding", "()LLastPenny$Table;"⟩
abbrev cX6_limit : ByteArray := prog_8_method_5_code
def yX6_limit : MethodName := ⟨RX6, "limit", "()I"⟩
abbrev cX6_stake : ByteArray := prog_8_method_6_code
def yX6_stake : MethodName := ⟨RX6, "stake", "(LLastPenny$Penny;I)I"⟩
abbrev cX6_odds : ByteArray := prog_8_method_7_code
def yX6_odds : MethodName := ⟨RX6, "odds", "(LLastPenny$Penny;II)I"⟩
abbrev cX6_thrown : ByteArray := prog_8_method_8_code
def yX6_thrown : MethodName := ⟨RX6, "thrown", "(LLastPenny$Penny;IZ)I"⟩
abbrev cX6_addToss : ByteArray := prog_8_method_9_code
def yX6_addToss : MethodName := ⟨RX6, "addToss", "(Z)V"⟩
abbrev cX6_isWon : ByteArray := prog_8_method_10_code
def yX6_isWon : MethodName := ⟨RX6, "isWon", "(I)Z"⟩
abbrev cX6_seemingOdds : ByteArray := prog_8_method_11_code
def yX6_seemingOdds : MethodName := ⟨RX6, "seemingOdds", "()I"⟩
abbrev cX6_longestRun : ByteArray := prog_8_method_12_code
def yX6_longestRun : MethodName := ⟨RX6, "longestRun", "()I"⟩
def RX7 : String := "LastPenny$Systematic"
def TX7 : u_T := fun k => match k with
  | 0 => ("LastPenny$Penny", "kind", "I", true)
  | 1 => ("LastPenny$Penny", "number", "I", true)
  | 2 => ("LastPenny$Penny", "v", "I", true)
  | _ => ("LastPenny$Penny", "goal", "I", true)
def tyX7 : Nat → FieldType := fun k => match k with
  | 0 => .int
  | 1 => .int
  | 2 => .int
  | _ => .int
abbrev wsX70 : List Cond := u_ws RX7 TX7 4
theorem nmX7 : ∀ a, a < 4 → ∀ b, b < 4 → a ≠ b → (TX7 a).2.1 ≠ (TX7 b).2.1 := by decide +kernel
theorem tyX7_ok : ∀ k, k < 4 → parseFieldDescriptor (TX7 k).2.2.1 = some (tyX7 k) := by decide +kernel
abbrev cX7_init : ByteArray := prog_9_method_1_code
def yX7_init : MethodName := ⟨RX7, "<init>", "(IIII)V"⟩
abbrev cX7_wish : ByteArray := prog_9_method_2_code
def yX7_wish : MethodName := ⟨RX7, "wish", "(II)I"⟩
abbrev cX7_countsAct : ByteArray := prog_9_method_3_code
def yX7_countsAct : MethodName := ⟨RX7, "countsAct", "(I[I)I"⟩
def RX8 : String := "LastPenny$Table"
def TX8 : u_T := fun k => match k with
  | 0 => ("LastPenny$Table", "weights", "[I", true)
  | 1 => ("LastPenny$Table", "ends", "[I", true)
  | 2 => ("LastPenny$Table", "code", "[I", true)
  | _ => ("LastPenny$Table", "limit", "I", true)
def tyX8 : Nat → FieldType := fun k => match k with
  | 0 => .array .int
  | 1 => .array .int
  | 2 => .array .int
  | _ => .int
abbrev wsX80 : List Cond := u_ws RX8 TX8 4
theorem nmX8 : ∀ a, a < 4 → ∀ b, b < 4 → a ≠ b → (TX8 a).2.1 ≠ (TX8 b).2.1 := by decide +kernel
theorem tyX8_ok : ∀ k, k < 4 → parseFieldDescriptor (TX8 k).2.2.1 = some (tyX8 k) := by decide +kernel
abbrev cX8_init : ByteArray := prog_10_method_1_code
def yX8_init : MethodName := ⟨RX8, "<init>", "([I[I[II)V"⟩
abbrev cX8_leaning : ByteArray := prog_10_method_2_code
def yX8_leaning : MethodName := ⟨RX8, "leaning", "([I)I"⟩
abbrev cX8_holds : ByteArray := prog_10_method_3_code
def yX8_holds : MethodName := ⟨RX8, "holds", "(II[I)Z"⟩
abbrev cX8_passes : ByteArray := prog_10_method_4_code
def yX8_passes : MethodName := ⟨RX8, "passes", "(I[I)Z"⟩
def RX9 : String := "LastPenny$Timid"
def TX9 : u_T := fun k => match k with
  | 0 => ("LastPenny$Penny", "kind", "I", true)
  | 1 => ("LastPenny$Penny", "number", "I", true)
  | 2 => ("LastPenny$Penny", "v", "I", true)
  | _ => ("LastPenny$Penny", "goal", "I", true)
def tyX9 : Nat → FieldType := fun k => match k with
  | 0 => .int
  | 1 => .int
  | 2 => .int
  | _ => .int
abbrev wsX90 : List Cond := u_ws RX9 TX9 4
theorem nmX9 : ∀ a, a < 4 → ∀ b, b < 4 → a ≠ b → (TX9 a).2.1 ≠ (TX9 b).2.1 := by decide +kernel
theorem tyX9_ok : ∀ k, k < 4 → parseFieldDescriptor (TX9 k).2.2.1 = some (tyX9 k) := by decide +kernel
abbrev cX9_init : ByteArray := prog_11_method_1_code
def yX9_init : MethodName := ⟨RX9, "<init>", "(IIII)V"⟩
abbrev cX9_wish : ByteArray := prog_11_method_2_code
def yX9_wish : MethodName := ⟨RX9, "wish", "(II)I"⟩
abbrev cX9_throwsAct : ByteArray := prog_11_method_3_code
def yX9_throwsAct : MethodName := ⟨RX9, "throwsAct", "(I[I)I"⟩
def RX10 : String := "LastPenny$Told"
def TX10 : u_T := fun k => match k with
  | 0 => ("LastPenny$Penny", "kind", "I", true)
  | 1 => ("LastPenny$Penny", "number", "I", true)
  | 2 => ("LastPenny$Penny", "v", "I", true)
  | _ => ("LastPenny$Penny", "goal", "I", true)
def tyX10 : Nat → FieldType := fun k => match k with
  | 0 => .int
  | 1 => .int
  | 2 => .int
  | _ => .int
abbrev wsX100 : List Cond := u_ws RX10 TX10 4
theorem nmX10 : ∀ a, a < 4 → ∀ b, b < 4 → a ≠ b → (TX10 a).2.1 ≠ (TX10 b).2.1 := by decide +kernel
theorem tyX10_ok : ∀ k, k < 4 → parseFieldDescriptor (TX10 k).2.2.1 = some (tyX10 k) := by decide +kernel
abbrev cX10_init : ByteArray := prog_12_method_1_code
def yX10_init : MethodName := ⟨RX10, "<init>", "(IIII)V"⟩
abbrev cX10_wish : ByteArray := prog_12_method_2_code
def yX10_wish : MethodName := ⟨RX10, "wish", "(II)I"⟩
abbrev cX10_throwsAct : ByteArray := prog_12_method_3_code
def yX10_throwsAct : MethodName := ⟨RX10, "throwsAct", "(I[I)I"⟩
def RX11 : String := "LastPenny"
def TX11 : u_T := fun k => match k with
  | 0 => ("LastPenny", "all", "LLastPenny$State;", true)
  | 1 => ("LastPenny", "kept", "LLastPenny$State;", true)
  | 2 => ("LastPenny", "hasImage", "Z", false)
  | 3 => ("LastPenny", "chances", "LLastPenny$Chances;", true)
  | 4 => ("LastPenny", "reader", "LLastPenny$Reader;", true)
  | _ => ("LastPenny", "ran", "[I", true)
def tyX11 : Nat → FieldType := fun k => match k with
  | 0 => .object "LastPenny$State"
  | 1 => .object "LastPenny$State"
  | 2 => .boolean
  | 3 => .object "LastPenny$Chances"
  | 4 => .object "LastPenny$Reader"
  | _ => .array .int
abbrev wsX110 : List Cond := u_ws RX11 TX11 6
theorem nmX11 : ∀ a, a < 6 → ∀ b, b < 6 → a ≠ b → (TX11 a).2.1 ≠ (TX11 b).2.1 := by decide +kernel
theorem tyX11_ok : ∀ k, k < 6 → parseFieldDescriptor (TX11 k).2.2.1 = some (tyX11 k) := by decide +kernel
abbrev cX11_init : ByteArray := prog_1_method_1_code
def yX11_init : MethodName := ⟨RX11, "<init>", "()V"⟩
abbrev cX11_feed : ByteArray := prog_1_method_2_code
def yX11_feed : MethodName := ⟨RX11, "feed", "(I)I"⟩
abbrev cX11_table : ByteArray := prog_1_method_3_code
def yX11_table : MethodName := ⟨RX11, "table", "()I"⟩
abbrev cX11_day : ByteArray := prog_1_method_4_code
def yX11_day : MethodName := ⟨RX11, "day", "(I)I"⟩
abbrev cX11_told : ByteArray := prog_1_method_5_code
def yX11_told : MethodName := ⟨RX11, "told", "(I)I"⟩
abbrev cX11_player : ByteArray := prog_1_method_6_code
def yX11_player : MethodName := ⟨RX11, "player", "(IIII)I"⟩
abbrev cX11_of : ByteArray := prog_1_method_7_code
def yX11_of : MethodName := ⟨RX11, "of", "(II)I"⟩
abbrev cX11_purse : ByteArray := prog_1_method_8_code
def yX11_purse : MethodName := ⟨RX11, "purse", "(II)I"⟩
abbrev cX11_row : ByteArray := prog_1_method_9_code
def yX11_row : MethodName := ⟨RX11, "row", "(III)I"⟩
abbrev cX11_play : ByteArray := prog_1_method_10_code
def yX11_play : MethodName := ⟨RX11, "play", "(IZ)I"⟩
abbrev cX11_within : ByteArray := prog_1_method_11_code
def yX11_within : MethodName := ⟨RX11, "within", "(IIII)J"⟩
abbrev cX11_lasts : ByteArray := prog_1_method_12_code
def yX11_lasts : MethodName := ⟨RX11, "lasts", "(III)J"⟩
abbrev cX11_mean : ByteArray := prog_1_method_13_code
def yX11_mean : MethodName := ⟨RX11, "mean", "(III)J"⟩
abbrev cX11_ever : ByteArray := prog_1_method_14_code
def yX11_ever : MethodName := ⟨RX11, "ever", "(II)J"⟩
abbrev cX11_best : ByteArray := prog_1_method_15_code
def yX11_best : MethodName := ⟨RX11, "best", "(II)I"⟩
abbrev cX11_bestChance : ByteArray := prog_1_method_16_code
def yX11_bestChance : MethodName := ⟨RX11, "bestChance", "(III)J"⟩
abbrev cX11_loses : ByteArray := prog_1_method_17_code
def yX11_loses : MethodName := ⟨RX11, "loses", "(III)J"⟩
abbrev cX11_room : ByteArray := prog_1_method_18_code
def yX11_room : MethodName := ⟨RX11, "room", "(II)I"⟩
abbrev cX11_trio : ByteArray := prog_1_method_19_code
def yX11_trio : MethodName := ⟨RX11, "trio", "(IIII)J"⟩
abbrev cX11_streak : ByteArray := prog_1_method_20_code
def yX11_streak : MethodName := ⟨RX11, "streak", "(IIII)J"⟩
abbrev cX11_toss : ByteArray := prog_1_method_21_code
def yX11_toss : MethodName := ⟨RX11, "toss", "(Z)I"⟩
abbrev cX11_clear : ByteArray := prog_1_method_22_code
def yX11_clear : MethodName := ⟨RX11, "clear", "()I"⟩
abbrev cX11_by : ByteArray := prog_1_method_23_code
def yX11_by : MethodName := ⟨RX11, "by", "(II)I"⟩
abbrev cX11_seen : ByteArray := prog_1_method_24_code
def yX11_seen : MethodName := ⟨RX11, "seen", "(I)I"⟩
abbrev cX11_act : ByteArray := prog_1_method_25_code
def yX11_act : MethodName := ⟨RX11, "act", "(III)I"⟩
abbrev cX11_trace : ByteArray := prog_1_method_26_code
def yX11_trace : MethodName := ⟨RX11, "trace", "(I)I"⟩
abbrev cX11_as : ByteArray := prog_1_method_27_code
def yX11_as : MethodName := ⟨RX11, "as", "(II)I"⟩
abbrev cX11_image : ByteArray := prog_1_method_28_code
def yX11_image : MethodName := ⟨RX11, "image", "()I"⟩
abbrev cX11_undo : ByteArray := prog_1_method_29_code
def yX11_undo : MethodName := ⟨RX11, "undo", "()I"⟩
abbrev cX11_count : ByteArray := prog_1_method_30_code
def yX11_count : MethodName := ⟨RX11, "count", "(I)I"⟩
abbrev cX11_isDigit : ByteArray := prog_1_method_31_code
def yX11_isDigit : MethodName := ⟨RX11, "isDigit", "(I)Z"⟩
abbrev cX11_isSpan : ByteArray := prog_1_method_32_code
def yX11_isSpan : MethodName := ⟨RX11, "isSpan", "(I)Z"⟩
abbrev cX11_isPart : ByteArray := prog_1_method_33_code
def yX11_isPart : MethodName := ⟨RX11, "isPart", "(I)Z"⟩
abbrev cX11_isTrioPurse : ByteArray := prog_1_method_34_code
def yX11_isTrioPurse : MethodName := ⟨RX11, "isTrioPurse", "(I)Z"⟩
abbrev cX11_isOfKind : ByteArray := prog_1_method_35_code
def yX11_isOfKind : MethodName := ⟨RX11, "isOfKind", "(LLastPenny$Penny;I)Z"⟩
abbrev cX11_newPlayer : ByteArray := prog_1_method_36_code
def yX11_newPlayer : MethodName := ⟨RX11, "newPlayer", "(IIII)LLastPenny$Penny;"⟩
abbrev cX11_lowest : ByteArray := prog_1_method_37_code
def yX11_lowest : MethodName := ⟨RX11, "lowest", "(JJI)J"⟩
def RX12 : String := "LastPennyModel"
def TX12 : u_T := fun k => match k with
  | 0 => ("LastPennyModel", "thrown", "I", false)
  | 1 => ("LastPennyModel", "s", "[I", true)
  | 2 => ("LastPennyModel", "image", "[I", true)
  | 3 => ("LastPennyModel", "hasImage", "Z", false)
  | 4 => ("LastPennyModel", "act", "I", false)
  | 5 => ("LastPennyModel", "spot", "I", false)
  | 6 => ("LastPennyModel", "end", "I", false)
  | 7 => ("LastPennyModel", "isWrong", "Z", false)
  | 8 => ("LastPennyModel", "open", "I", false)
  | 9 => ("LastPennyModel", "by", "[I", true)
  | 10 => ("LastPennyModel", "truths", "[Z", true)
  | 11 => ("LastPennyModel", "often", "[J", true)
  | 12 => ("LastPennyModel", "then", "[J", true)
  | 13 => ("LastPennyModel", "made", "J", false)
  | 14 => ("LastPennyModel", "chances", "[J", true)
  | 15 => ("LastPennyModel", "nextChances", "[J", true)
  | 16 => ("LastPennyModel", "firstStake", "I", false)
  | 17 => ("LastPennyModel", "threes", "[J", true)
  | 18 => ("LastPennyModel", "nextThrees", "[J", true)
  | 19 => ("LastPennyModel", "losses", "[J", true)
  | 20 => ("LastPennyModel", "nextLosses", "[J", true)
  | 21 => ("LastPennyModel", "bodies", "[I", true)
  | 22 => ("LastPennyModel", "ran", "I", false)
  | 23 => ("LastPennyModel", "kind", "I", false)
  | 24 => ("LastPennyModel", "number", "I", false)
  | _ => ("LastPennyModel", "tellsV", "I", false)
def tyX12 : Nat → FieldType := fun k => match k with
  | 0 => .int
  | 1 => .array .int
  | 2 => .array .int
  | 3 => .boolean
  | 4 => .int
  | 5 => .int
  | 6 => .int
  | 7 => .boolean
  | 8 => .int
  | 9 => .array .int
  | 10 => .array .boolean
  | 11 => .array .long
  | 12 => .array .long
  | 13 => .long
  | 14 => .array .long
  | 15 => .array .long
  | 16 => .int
  | 17 => .array .long
  | 18 => .array .long
  | 19 => .array .long
  | 20 => .array .long
  | 21 => .array .int
  | 22 => .int
  | 23 => .int
  | 24 => .int
  | _ => .int
abbrev wsX120 : List Cond := u_ws RX12 TX12 26
theorem nmX12 : ∀ a, a < 26 → ∀ b, b < 26 → a ≠ b → (TX12 a).2.1 ≠ (TX12 b).2.1 := by decide +kernel
theorem tyX12_ok : ∀ k, k < 26 → parseFieldDescriptor (TX12 k).2.2.1 = some (tyX12 k) := by decide +kernel
abbrev cX12_init : ByteArray := prog_14_method_1_code
def yX12_init : MethodName := ⟨RX12, "<init>", "()V"⟩
abbrev cX12_in : ByteArray := prog_14_method_3_code
def yX12_in : MethodName := ⟨RX12, "in", "(III)Z"⟩
abbrev cX12_lesser : ByteArray := prog_14_method_4_code
def yX12_lesser : MethodName := ⟨RX12, "lesser", "(II)I"⟩
abbrev cX12_isPlayer : ByteArray := prog_14_method_5_code
def yX12_isPlayer : MethodName := ⟨RX12, "isPlayer", "(I)Z"⟩
abbrev cX12_isOver : ByteArray := prog_14_method_6_code
def yX12_isOver : MethodName := ⟨RX12, "isOver", "(I)Z"⟩
abbrev cX12_feed : ByteArray := prog_14_method_7_code
def yX12_feed : MethodName := ⟨RX12, "feed", "(I)I"⟩
abbrev cX12_here : ByteArray := prog_14_method_8_code
def yX12_here : MethodName := ⟨RX12, "here", "()I"⟩
abbrev cX12_must : ByteArray := prog_14_method_9_code
def yX12_must : MethodName := ⟨RX12, "must", "(I)V"⟩
abbrev cX12_spells : ByteArray := prog_14_method_10_code
def yX12_spells : MethodName := ⟨RX12, "spells", "(Ljava/lang/String;)V"⟩
abbrev cX12_figures : ByteArray := prog_14_method_11_code
def yX12_figures : MethodName := ⟨RX12, "figures", "()I"⟩
abbrev cX12_among : ByteArray := prog_14_method_12_code
def yX12_among : MethodName := ⟨RX12, "among", "(Ljava/lang/String;)I"⟩
abbrev cX12_emits : ByteArray := prog_14_method_13_code
def yX12_emits : MethodName := ⟨RX12, "emits", "(I)V"⟩
abbrev cX12_factor : ByteArray := prog_14_method_14_code
def yX12_factor : MethodName := ⟨RX12, "factor", "()V"⟩
abbrev cX12_every : ByteArray := prog_14_method_15_code
def yX12_every : MethodName := ⟨RX12, "every", "()V"⟩
abbrev cX12_some : ByteArray := prog_14_method_16_code
def yX12_some : MethodName := ⟨RX12, "some", "()V"⟩
abbrev cX12_much : ByteArray := prog_14_method_17_code
def yX12_much : MethodName := ⟨RX12, "much", "(ILjava/lang/String;)V"⟩
abbrev cX12_clauseOfL : ByteArray := prog_14_method_18_code
def yX12_clauseOfL : MethodName := ⟨RX12, "clauseOfL", "()V"⟩
abbrev cX12_clauseHere : ByteArray := prog_14_method_19_code
def yX12_clauseHere : MethodName := ⟨RX12, "clauseHere", "()V"⟩
abbrev cX12_table : ByteArray := prog_14_method_20_code
def yX12_table : MethodName := ⟨RX12, "table", "()I"⟩
abbrev cX12_limit : ByteArray := prog_14_method_21_code
def yX12_limit : MethodName := ⟨RX12, "limit", "()I"⟩
abbrev cX12_day : ByteArray := prog_14_method_22_code
def yX12_day : MethodName := ⟨RX12, "day", "(I)I"⟩
abbrev cX12_told : ByteArray := prog_14_method_23_code
def yX12_told : MethodName := ⟨RX12, "told", "(I)I"⟩
abbrev cX12_player : ByteArray := prog_14_method_24_code
def yX12_player : MethodName := ⟨RX12, "player", "(IIII)I"⟩
abbrev cX12_purse : ByteArray := prog_14_method_25_code
def yX12_purse : MethodName := ⟨RX12, "purse", "(II)I"⟩
abbrev cX12_row : ByteArray := prog_14_method_26_code
def yX12_row : MethodName := ⟨RX12, "row", "(III)I"⟩
abbrev cX12_oddsOf : ByteArray := prog_14_method_27_code
def yX12_oddsOf : MethodName := ⟨RX12, "oddsOf", "(III)I"⟩
abbrev cX12_wishesFor : ByteArray := prog_14_method_28_code
def yX12_wishesFor : MethodName := ⟨RX12, "wishesFor", "(II)I"⟩
abbrev cX12_mostOf : ByteArray := prog_14_method_29_code
def yX12_mostOf : MethodName := ⟨RX12, "mostOf", "(II)I"⟩
abbrev cX12_stakeOf : ByteArray := prog_14_method_30_code
def yX12_stakeOf : MethodName := ⟨RX12, "stakeOf", "(II)I"⟩
abbrev cX12_of : ByteArray := prog_14_method_31_code
def yX12_of : MethodName := ⟨RX12, "of", "(II)I"⟩
abbrev cX12_goes : ByteArray := prog_14_method_32_code
def yX12_goes : MethodName := ⟨RX12, "goes", "(IZ)V"⟩
abbrev cX12_play : ByteArray := prog_14_method_33_code
def yX12_play : MethodName := ⟨RX12, "play", "(IZ)I"⟩
abbrev cX12_tens : ByteArray := prog_14_method_34_code
def yX12_tens : MethodName := ⟨RX12, "tens", "(I)J"⟩
abbrev cX12_throwsOn : ByteArray := prog_14_method_35_code
def yX12_throwsOn : MethodName := ⟨RX12, "throwsOn", "(II)V"⟩
abbrev cX12_lowest : ByteArray := prog_14_method_36_code
def yX12_lowest : MethodName := ⟨RX12, "lowest", "(JJI)J"⟩
abbrev cX12_isAsked : ByteArray := prog_14_method_37_code
def yX12_isAsked : MethodName := ⟨RX12, "isAsked", "(III)Z"⟩
abbrev cX12_within : ByteArray := prog_14_method_38_code
def yX12_within : MethodName := ⟨RX12, "within", "(IIII)J"⟩
abbrev cX12_lasts : ByteArray := prog_14_method_39_code
def yX12_lasts : MethodName := ⟨RX12, "lasts", "(III)J"⟩
abbrev cX12_mean : ByteArray := prog_14_method_40_code
def yX12_mean : MethodName := ⟨RX12, "mean", "(III)J"⟩
abbrev cX12_ever : ByteArray := prog_14_method_41_code
def yX12_ever : MethodName := ⟨RX12, "ever", "(II)J"⟩
abbrev cX12_chanceBy : ByteArray := prog_14_method_42_code
def yX12_chanceBy : MethodName := ⟨RX12, "chanceBy", "(III)J"⟩
abbrev cX12_bestOf : ByteArray := prog_14_method_43_code
def yX12_bestOf : MethodName := ⟨RX12, "bestOf", "(II)J"⟩
abbrev cX12_best : ByteArray := prog_14_method_44_code
def yX12_best : MethodName := ⟨RX12, "best", "(II)I"⟩
abbrev cX12_bestChance : ByteArray := prog_14_method_45_code
def yX12_bestChance : MethodName := ⟨RX12, "bestChance", "(III)J"⟩
abbrev cX12_loses : ByteArray := prog_14_method_46_code
def yX12_loses : MethodName := ⟨RX12, "loses", "(III)J"⟩
abbrev cX12_room : ByteArray := prog_14_method_47_code
def yX12_room : MethodName := ⟨RX12, "room", "(II)I"⟩
abbrev cX12_gives : ByteArray := prog_14_method_48_code
def yX12_gives : MethodName := ⟨RX12, "gives", "(IIJ)V"⟩
abbrev cX12_threesOn : ByteArray := prog_14_method_49_code
def yX12_threesOn : MethodName := ⟨RX12, "threesOn", "(II)J"⟩
abbrev cX12_trio : ByteArray := prog_14_method_50_code
def yX12_trio : MethodName := ⟨RX12, "trio", "(IIII)J"⟩
abbrev cX12_streak : ByteArray := prog_14_method_51_code
def yX12_streak : MethodName := ⟨RX12, "streak", "(IIII)J"⟩
abbrev cX12_toss : ByteArray := prog_14_method_52_code
def yX12_toss : MethodName := ⟨RX12, "toss", "(Z)I"⟩
abbrev cX12_clear : ByteArray := prog_14_method_53_code
def yX12_clear : MethodName := ⟨RX12, "clear", "()I"⟩
abbrev cX12_by : ByteArray := prog_14_method_54_code
def yX12_by : MethodName := ⟨RX12, "by", "(II)I"⟩
abbrev cX12_seems : ByteArray := prog_14_method_55_code
def yX12_seems : MethodName := ⟨RX12, "seems", "()I"⟩
abbrev cX12_longest : ByteArray := prog_14_method_56_code
def yX12_longest : MethodName := ⟨RX12, "longest", "()I"⟩
abbrev cX12_seen : ByteArray := prog_14_method_57_code
def yX12_seen : MethodName := ⟨RX12, "seen", "(I)I"⟩
abbrev cX12_ranBody : ByteArray := prog_14_method_58_code
def yX12_ranBody : MethodName := ⟨RX12, "ranBody", "(I)V"⟩
abbrev cX12_isUnder : ByteArray := prog_14_method_59_code
def yX12_isUnder : MethodName := ⟨RX12, "isUnder", "(II)Z"⟩
abbrev cX12_plainStakes : ByteArray := prog_14_method_60_code
def yX12_plainStakes : MethodName := ⟨RX12, "plainStakes", "(I)I"⟩
abbrev cX12_stakesActs : ByteArray := prog_14_method_61_code
def yX12_stakesActs : MethodName := ⟨RX12, "stakesActs", "(I)I"⟩
abbrev cX12_plainThrows : ByteArray := prog_14_method_62_code
def yX12_plainThrows : MethodName := ⟨RX12, "plainThrows", "(I)I"⟩
abbrev cX12_throwsActs : ByteArray := prog_14_method_63_code
def yX12_throwsActs : MethodName := ⟨RX12, "throwsActs", "(I)I"⟩
abbrev cX12_plainCounts : ByteArray := prog_14_method_64_code
def yX12_plainCounts : MethodName := ⟨RX12, "plainCounts", "(I)I"⟩
abbrev cX12_countsActs : ByteArray := prog_14_method_65_code
def yX12_countsActs : MethodName := ⟨RX12, "countsActs", "(I)I"⟩
abbrev cX12_act : ByteArray := prog_14_method_66_code
def yX12_act : MethodName := ⟨RX12, "act", "(III)I"⟩
abbrev cX12_trace : ByteArray := prog_14_method_67_code
def yX12_trace : MethodName := ⟨RX12, "trace", "(I)I"⟩
abbrev cX12_as : ByteArray := prog_14_method_68_code
def yX12_as : MethodName := ⟨RX12, "as", "(II)I"⟩
abbrev cX12_image : ByteArray := prog_14_method_69_code
def yX12_image : MethodName := ⟨RX12, "image", "()I"⟩
abbrev cX12_undo : ByteArray := prog_14_method_70_code
def yX12_undo : MethodName := ⟨RX12, "undo", "()I"⟩
abbrev cX12_count : ByteArray := prog_14_method_71_code
def yX12_count : MethodName := ⟨RX12, "count", "(I)I"⟩
def RJx145de : String := "java/io/Serializable"
def TJx145de : u_T := fun k => match k with
  | _ => ("", "", "", false)
def tyJx145de : Nat → FieldType := fun k => match k with
  | _ => .int
abbrev wsJx145de0 : List Cond := u_ws RJx145de TJx145de 0
theorem nmJx145de : ∀ a, a < 0 → ∀ b, b < 0 → a ≠ b → (TJx145de a).2.1 ≠ (TJx145de b).2.1 := by decide +kernel
theorem tyJx145de_ok : ∀ k, k < 0 → parseFieldDescriptor (TJx145de k).2.2.1 = some (tyJx145de k) := by decide +kernel
def RJx9f9b0 : String := "java/lang/CharSequence"
def TJx9f9b0 : u_T := fun k => match k with
  | _ => ("", "", "", false)
def tyJx9f9b0 : Nat → FieldType := fun k => match k with
  | _ => .int
abbrev wsJx9f9b00 : List Cond := u_ws RJx9f9b0 TJx9f9b0 0
theorem nmJx9f9b0 : ∀ a, a < 0 → ∀ b, b < 0 → a ≠ b → (TJx9f9b0 a).2.1 ≠ (TJx9f9b0 b).2.1 := by decide +kernel
theorem tyJx9f9b0_ok : ∀ k, k < 0 → parseFieldDescriptor (TJx9f9b0 k).2.2.1 = some (tyJx9f9b0 k) := by decide +kernel
def RJ11 : String := "java/lang/Character"
def TJ11 : u_T := fun k => match k with
  | _ => ("", "", "", false)
def tyJ11 : Nat → FieldType := fun k => match k with
  | _ => .int
abbrev wsJ110 : List Cond := u_ws RJ11 TJ11 0
theorem nmJ11 : ∀ a, a < 0 → ∀ b, b < 0 → a ≠ b → (TJ11 a).2.1 ≠ (TJ11 b).2.1 := by decide +kernel
theorem tyJ11_ok : ∀ k, k < 0 → parseFieldDescriptor (TJ11 k).2.2.1 = some (tyJ11 k) := by decide +kernel
abbrev cJ11_isValidCodePoint_9a6ad : ByteArray := prog_15_method_11_code
def yJ11_isValidCodePoint_9a6ad : MethodName := ⟨RJ11, "isValidCodePoint", "(I)Z"⟩
abbrev cJ11_highSurrogate_5068e : ByteArray := prog_15_method_28_code
def yJ11_highSurrogate_5068e : MethodName := ⟨RJ11, "highSurrogate", "(I)C"⟩
abbrev cJ11_lowSurrogate_5068e : ByteArray := prog_15_method_29_code
def yJ11_lowSurrogate_5068e : MethodName := ⟨RJ11, "lowSurrogate", "(I)C"⟩
def RJx8e188 : String := "java/lang/Cloneable"
def TJx8e188 : u_T := fun k => match k with
  | _ => ("", "", "", false)
def tyJx8e188 : Nat → FieldType := fun k => match k with
  | _ => .int
abbrev wsJx8e1880 : List Cond := u_ws RJx8e188 TJx8e188 0
theorem nmJx8e188 : ∀ a, a < 0 → ∀ b, b < 0 → a ≠ b → (TJx8e188 a).2.1 ≠ (TJx8e188 b).2.1 := by decide +kernel
theorem tyJx8e188_ok : ∀ k, k < 0 → parseFieldDescriptor (TJx8e188 k).2.2.1 = some (tyJx8e188 k) := by decide +kernel
def RJxb160c : String := "java/lang/Comparable"
def TJxb160c : u_T := fun k => match k with
  | _ => ("", "", "", false)
def tyJxb160c : Nat → FieldType := fun k => match k with
  | _ => .int
abbrev wsJxb160c0 : List Cond := u_ws RJxb160c TJxb160c 0
theorem nmJxb160c : ∀ a, a < 0 → ∀ b, b < 0 → a ≠ b → (TJxb160c a).2.1 ≠ (TJxb160c b).2.1 := by decide +kernel
theorem tyJxb160c_ok : ∀ k, k < 0 → parseFieldDescriptor (TJxb160c k).2.2.1 = some (tyJxb160c k) := by decide +kernel
def RJ6 : String := "java/lang/Integer"
def TJ6 : u_T := fun k => match k with
  | _ => ("", "", "", false)
def tyJ6 : Nat → FieldType := fun k => match k with
  | _ => .int
abbrev wsJ60 : List Cond := u_ws RJ6 TJ6 0
theorem nmJ6 : ∀ a, a < 0 → ∀ b, b < 0 → a ≠ b → (TJ6 a).2.1 ≠ (TJ6 b).2.1 := by decide +kernel
theorem tyJ6_ok : ∀ k, k < 0 → parseFieldDescriptor (TJ6 k).2.2.1 = some (tyJ6 k) := by decide +kernel
abbrev cJ6_bitCount_0f7a4 : ByteArray := prog_17_method_49_code
def yJ6_bitCount_0f7a4 : MethodName := ⟨RJ6, "bitCount", "(I)I"⟩
def RJ9 : String := "java/lang/Math"
def TJ9 : u_T := fun k => match k with
  | _ => ("", "", "", false)
def tyJ9 : Nat → FieldType := fun k => match k with
  | _ => .int
abbrev wsJ90 : List Cond := u_ws RJ9 TJ9 0
theorem nmJ9 : ∀ a, a < 0 → ∀ b, b < 0 → a ≠ b → (TJ9 a).2.1 ≠ (TJ9 b).2.1 := by decide +kernel
theorem tyJ9_ok : ∀ k, k < 0 → parseFieldDescriptor (TJ9 k).2.2.1 = some (tyJ9 k) := by decide +kernel
abbrev cJ9_abs_0f7a4 : ByteArray := prog_18_method_59_code
def yJ9_abs_0f7a4 : MethodName := ⟨RJ9, "abs", "(I)I"⟩
abbrev cJ9_max_7cf53 : ByteArray := prog_18_method_65_code
def yJ9_max_7cf53 : MethodName := ⟨RJ9, "max", "(II)I"⟩
abbrev cJ9_max_f86c9 : ByteArray := prog_18_method_66_code
def yJ9_max_f86c9 : MethodName := ⟨RJ9, "max", "(JJ)J"⟩
abbrev cJ9_min_7cf53 : ByteArray := prog_18_method_69_code
def yJ9_min_7cf53 : MethodName := ⟨RJ9, "min", "(II)I"⟩
def RJ0 : String := "java/lang/String"
def TJ0 : u_T := fun k => match k with
  | _ => ("", "", "", false)
def tyJ0 : Nat → FieldType := fun k => match k with
  | _ => .int
abbrev wsJ00 : List Cond := u_ws RJ0 TJ0 0
theorem nmJ0 : ∀ a, a < 0 → ∀ b, b < 0 → a ≠ b → (TJ0 a).2.1 ≠ (TJ0 b).2.1 := by decide +kernel
theorem tyJ0_ok : ∀ k, k < 0 → parseFieldDescriptor (TJ0 k).2.2.1 = some (tyJ0 k) := by decide +kernel
abbrev cJ0_length_8abf5 : ByteArray := prog_19_method_54_code
def yJ0_length_8abf5 : MethodName := ⟨RJ0, "length", "()I"⟩
abbrev cJ0_charAt_5068e : ByteArray := prog_19_method_56_code
def yJ0_charAt_5068e : MethodName := ⟨RJ0, "charAt", "(I)C"⟩
abbrev cJ0_indexOf_0f7a4 : ByteArray := prog_19_method_79_code
def yJ0_indexOf_0f7a4 : MethodName := ⟨RJ0, "indexOf", "(I)I"⟩
abbrev cJ0_indexOf_7cf53 : ByteArray := prog_19_method_80_code
def yJ0_indexOf_7cf53 : MethodName := ⟨RJ0, "indexOf", "(II)I"⟩
abbrev cJ0_coder_7d493 : ByteArray := prog_19_method_152_code
def yJ0_coder_7d493 : MethodName := ⟨RJ0, "coder", "()B"⟩
abbrev cJ0_isLatin1_aae02 : ByteArray := prog_19_method_154_code
def yJ0_isLatin1_aae02 : MethodName := ⟨RJ0, "isLatin1", "()Z"⟩
abbrev cJ0_checkIndex_df160 : ByteArray := prog_19_method_155_code
def yJ0_checkIndex_df160 : MethodName := ⟨RJ0, "checkIndex", "(II)V"⟩
abbrev cJ0_checkBoundsBeginEnd_23922 : ByteArray := prog_19_method_158_code
def yJ0_checkBoundsBeginEnd_23922 : MethodName := ⟨RJ0, "checkBoundsBeginEnd", "(III)V"⟩
def RJ1 : String := "java/lang/StringLatin1"
def TJ1 : u_T := fun k => match k with
  | _ => ("", "", "", false)
def tyJ1 : Nat → FieldType := fun k => match k with
  | _ => .int
abbrev wsJ10 : List Cond := u_ws RJ1 TJ1 0
theorem nmJ1 : ∀ a, a < 0 → ∀ b, b < 0 → a ≠ b → (TJ1 a).2.1 ≠ (TJ1 b).2.1 := by decide +kernel
theorem tyJ1_ok : ∀ k, k < 0 → parseFieldDescriptor (TJ1 k).2.2.1 = some (tyJ1 k) := by decide +kernel
abbrev cJ1_charAt_3b067 : ByteArray := prog_20_method_2_code
def yJ1_charAt_3b067 : MethodName := ⟨RJ1, "charAt", "([BI)C"⟩
abbrev cJ1_canEncode_9a6ad : ByteArray := prog_20_method_4_code
def yJ1_canEncode_9a6ad : MethodName := ⟨RJ1, "canEncode", "(I)Z"⟩
abbrev cJ1_indexOf_4cfef : ByteArray := prog_20_method_22_code
def yJ1_indexOf_4cfef : MethodName := ⟨RJ1, "indexOf", "([BIII)I"⟩
abbrev cJ1_indexOfChar_4cfef : ByteArray := prog_20_method_23_code
def yJ1_indexOfChar_4cfef : MethodName := ⟨RJ1, "indexOfChar", "([BIII)I"⟩
def RJ2 : String := "java/lang/StringUTF16"
def TJ2 : u_T := fun k => match k with
  | _ => ("", "", "", false)
def tyJ2 : Nat → FieldType := fun k => match k with
  | _ => .int
abbrev wsJ20 : List Cond := u_ws RJ2 TJ2 0
theorem nmJ2 : ∀ a, a < 0 → ∀ b, b < 0 → a ≠ b → (TJ2 a).2.1 ≠ (TJ2 b).2.1 := by decide +kernel
theorem tyJ2_ok : ∀ k, k < 0 → parseFieldDescriptor (TJ2 k).2.2.1 = some (tyJ2 k) := by decide +kernel
abbrev cJ2_getChar_3b067 : ByteArray := prog_21_method_5_code
def yJ2_getChar_3b067 : MethodName := ⟨RJ2, "getChar", "([BI)C"⟩
abbrev cJ2_length_9d52b : ByteArray := prog_21_method_6_code
def yJ2_length_9d52b : MethodName := ⟨RJ2, "length", "([B)I"⟩
abbrev cJ2_indexOf_4cfef : ByteArray := prog_21_method_40_code
def yJ2_indexOf_4cfef : MethodName := ⟨RJ2, "indexOf", "([BIII)I"⟩
abbrev cJ2_indexOfChar_4cfef : ByteArray := prog_21_method_47_code
def yJ2_indexOfChar_4cfef : MethodName := ⟨RJ2, "indexOfChar", "([BIII)I"⟩
abbrev cJ2_indexOfCharUnsafe_4cfef : ByteArray := prog_21_method_48_code
def yJ2_indexOfCharUnsafe_4cfef : MethodName := ⟨RJ2, "indexOfCharUnsafe", "([BIII)I"⟩
abbrev cJ2_indexOfSupplementary_4cfef : ByteArray := prog_21_method_49_code
def yJ2_indexOfSupplementary_4cfef : MethodName := ⟨RJ2, "indexOfSupplementary", "([BIII)I"⟩
abbrev cJ2_charAt_3b067 : ByteArray := prog_21_method_83_code
def yJ2_charAt_3b067 : MethodName := ⟨RJ2, "charAt", "([BI)C"⟩
abbrev cJ2_checkIndex_2214a : ByteArray := prog_21_method_91_code
def yJ2_checkIndex_2214a : MethodName := ⟨RJ2, "checkIndex", "(I[B)V"⟩
abbrev cJ2_checkBoundsBeginEnd_d044e : ByteArray := prog_21_method_93_code
def yJ2_checkBoundsBeginEnd_d044e : MethodName := ⟨RJ2, "checkBoundsBeginEnd", "(II[B)V"⟩
def RJ10 : String := "java/lang/System"
def TJ10 : u_T := fun k => match k with
  | _ => ("", "", "", false)
def tyJ10 : Nat → FieldType := fun k => match k with
  | _ => .int
abbrev wsJ100 : List Cond := u_ws RJ10 TJ10 0
theorem nmJ10 : ∀ a, a < 0 → ∀ b, b < 0 → a ≠ b → (TJ10 a).2.1 ≠ (TJ10 b).2.1 := by decide +kernel
theorem tyJ10_ok : ∀ k, k < 0 → parseFieldDescriptor (TJ10 k).2.2.1 = some (tyJ10 k) := by decide +kernel
def RJxfd54e : String := "java/lang/constant/Constable"
def TJxfd54e : u_T := fun k => match k with
  | _ => ("", "", "", false)
def tyJxfd54e : Nat → FieldType := fun k => match k with
  | _ => .int
abbrev wsJxfd54e0 : List Cond := u_ws RJxfd54e TJxfd54e 0
theorem nmJxfd54e : ∀ a, a < 0 → ∀ b, b < 0 → a ≠ b → (TJxfd54e a).2.1 ≠ (TJxfd54e b).2.1 := by decide +kernel
theorem tyJxfd54e_ok : ∀ k, k < 0 → parseFieldDescriptor (TJxfd54e k).2.2.1 = some (tyJxfd54e k) := by decide +kernel
def RJx3cf43 : String := "java/lang/constant/ConstantDesc"
def TJx3cf43 : u_T := fun k => match k with
  | _ => ("", "", "", false)
def tyJx3cf43 : Nat → FieldType := fun k => match k with
  | _ => .int
abbrev wsJx3cf430 : List Cond := u_ws RJx3cf43 TJx3cf43 0
theorem nmJx3cf43 : ∀ a, a < 0 → ∀ b, b < 0 → a ≠ b → (TJx3cf43 a).2.1 ≠ (TJx3cf43 b).2.1 := by decide +kernel
theorem tyJx3cf43_ok : ∀ k, k < 0 → parseFieldDescriptor (TJx3cf43 k).2.2.1 = some (tyJx3cf43 k) := by decide +kernel
def RJ7 : String := "java/util/Arrays"
def TJ7 : u_T := fun k => match k with
  | _ => ("", "", "", false)
def tyJ7 : Nat → FieldType := fun k => match k with
  | _ => .int
abbrev wsJ70 : List Cond := u_ws RJ7 TJ7 0
theorem nmJ7 : ∀ a, a < 0 → ∀ b, b < 0 → a ≠ b → (TJ7 a).2.1 ≠ (TJ7 b).2.1 := by decide +kernel
theorem tyJ7_ok : ∀ k, k < 0 → parseFieldDescriptor (TJ7 k).2.2.1 = some (tyJ7 k) := by decide +kernel
abbrev cJ7_fill_d0a16 : ByteArray := prog_23_method_101_code
def yJ7_fill_d0a16 : MethodName := ⟨RJ7, "fill", "([JJ)V"⟩
abbrev cJ7_fill_53178 : ByteArray := prog_23_method_103_code
def yJ7_fill_53178 : MethodName := ⟨RJ7, "fill", "([II)V"⟩
abbrev cJ7_copyOf_59c91 : ByteArray := prog_23_method_123_code
def yJ7_copyOf_59c91 : MethodName := ⟨RJ7, "copyOf", "([II)[I"⟩
def RJ3 : String := "jdk/internal/util/Preconditions"
def TJ3 : u_T := fun k => match k with
  | _ => ("", "", "", false)
def tyJ3 : Nat → FieldType := fun k => match k with
  | _ => .int
abbrev wsJ30 : List Cond := u_ws RJ3 TJ3 0
theorem nmJ3 : ∀ a, a < 0 → ∀ b, b < 0 → a ≠ b → (TJ3 a).2.1 ≠ (TJ3 b).2.1 := by decide +kernel
theorem tyJ3_ok : ∀ k, k < 0 → parseFieldDescriptor (TJ3 k).2.2.1 = some (tyJ3 k) := by decide +kernel
abbrev cJ3_checkIndex_8e157 : ByteArray := prog_24_method_11_code
def yJ3_checkIndex_8e157 : MethodName := ⟨RJ3, "checkIndex", "(IILjava/util/function/BiFunction;)I"⟩
abbrev cJ3_checkFromToIndex_8c36e : ByteArray := prog_24_method_12_code
def yJ3_checkFromToIndex_8c36e : MethodName := ⟨RJ3, "checkFromToIndex", "(IIILjava/util/function/BiFunction;)I"⟩
def RL : String := "LastPennyLaw"
abbrev cL_law : ByteArray := code
def yL_law : MethodName := ⟨RL, "law", "([I)Z"⟩
abbrev vwCl : List vw_C := [(RX0, TX0, 4), (RX1, TX1, 4), (RX2, TX2, 12), (RX3, TX3, 4), (RX4, TX4, 4), (RX5, TX5, 9), (RX6, TX6, 12), (RX7, TX7, 4), (RX8, TX8, 4), (RX9, TX9, 4), (RX10, TX10, 4), (RX11, TX11, 6), (RX12, TX12, 26)]

theorem vr_outer (c : ClassId) (N h0 : Nat) : ∀ i : Nat, Jvm.Free.Multi.outerC c N h0 i = arrV c N (fun j => va_rf (if j < i then some (h0 + 1 + j) else none))
  | 0 => by
    show ({ cls := c, slots := Array.replicate N .null, vm := .none } : Cell) = _
    rw [arrV_new]
    refine congrArg (arrV c N) (funext fun j => ?_)
    simp [va_rf]
  | i + 1 => by
    show (Jvm.Free.Multi.outerC c N h0 i).setSlot i (.ref (h0 + 1 + i)) = _
    rw [vr_outer c N h0 i, arrV_store]
    refine congrArg (arrV c N) (funext fun j => ?_)
    by_cases e : j = i
    · subst e
      simp [updV, va_rf]
    · by_cases h : j < i
      · simp [updV, e, h, Nat.lt_succ_of_lt h]
      · simp [updV, e, h, show ¬ j < i + 1 by omega]
def RX0 : String := "BlindHunts$Hunt"
def TX0 : u_T := fun k => match k with
  | 0 => ("BlindHunts$Hunt", "needs", "[I", true)
  | 1 => ("BlindHunts$Hunt", "best", "[I", true)
  | 2 => ("BlindHunts$Hunt", "firstRow", "I", true)
  | _ => ("BlindHunts$Hunt", "lastRow", "I", true)
def tyX0 : Nat → FieldType := fun k => match k with
  | 0 => .array .int
  | 1 => .array .int
  | 2 => .int
  | _ => .int
abbrev wsX00 : List Cond := u_ws RX0 TX0 4
theorem nmX0 : ∀ a, a < 4 → ∀ b, b < 4 → a ≠ b → (TX0 a).2.1 ≠ (TX0 b).2.1 := by decide +kernel
theorem tyX0_ok : ∀ k, k < 4 → parseFieldDescriptor (TX0 k).2.2.1 = some (tyX0 k) := by decide +kernel
abbrev cX0_init : ByteArray := prog_2_method_1_code
def yX0_init : MethodName := ⟨RX0, "<init>", "(II)V"⟩
abbrev cX0_solve : ByteArray := prog_2_method_2_code
def yX0_solve : MethodName := ⟨RX0, "solve", "(LBlindHunts$Moves;)V"⟩
abbrev cX0_solveLevel : ByteArray := prog_2_method_3_code
def yX0_solveLevel : MethodName := ⟨RX0, "solveLevel", "(LBlindHunts$Moves;I)Z"⟩
abbrev cX0_partsAreSure : ByteArray := prog_2_method_4_code
def yX0_partsAreSure : MethodName := ⟨RX0, "partsAreSure", "(I)Z"⟩
abbrev cX0_settle : ByteArray := prog_2_method_5_code
def yX0_settle : MethodName := ⟨RX0, "settle", "(LBlindHunts$Moves;II)Z"⟩
abbrev cX0_leadsLower : ByteArray := prog_2_method_6_code
def yX0_leadsLower : MethodName := ⟨RX0, "leadsLower", "(LBlindHunts$Moves;III)Z"⟩
abbrev cX0_countSure : ByteArray := prog_2_method_7_code
def yX0_countSure : MethodName := ⟨RX0, "countSure", "(I)I"⟩
abbrev cX0_hardestBelief : ByteArray := prog_2_method_8_code
def yX0_hardestBelief : MethodName := ⟨RX0, "hardestBelief", "(I)I"⟩
abbrev cX0_mostNeeded : ByteArray := prog_2_method_9_code
def yX0_mostNeeded : MethodName := ⟨RX0, "mostNeeded", "(I)I"⟩
def RX1 : String := "BlindHunts$Moves"
def TX1 : u_T := fun k => match k with
  | 0 => ("BlindHunts$Moves", "gone", "[[I", true)
  | 1 => ("BlindHunts$Moves", "targets", "[I", true)
  | 2 => ("BlindHunts$Moves", "checks", "[I", true)
  | 3 => ("BlindHunts$Moves", "checkCount", "I", false)
  | 4 => ("BlindHunts$Moves", "sets", "I", false)
  | _ => ("BlindHunts$Moves", "shy", "Z", false)
def tyX1 : Nat → FieldType := fun k => match k with
  | 0 => .array (.array .int)
  | 1 => .array .int
  | 2 => .array .int
  | 3 => .int
  | 4 => .int
  | _ => .boolean
abbrev wsX10 : List Cond := u_ws RX1 TX1 6
theorem nmX1 : ∀ a, a < 6 → ∀ b, b < 6 → a ≠ b → (TX1 a).2.1 ≠ (TX1 b).2.1 := by decide +kernel
theorem tyX1_ok : ∀ k, k < 6 → parseFieldDescriptor (TX1 k).2.2.1 = some (tyX1 k) := by decide +kernel
abbrev cX1_init : ByteArray := prog_3_method_1_code
def yX1_init : MethodName := ⟨RX1, "<init>", "()V"⟩
abbrev cX1_build : ByteArray := prog_3_method_2_code
def yX1_build : MethodName := ⟨RX1, "build", "(LBlindHunts$State;)V"⟩
abbrev cX1_buildPlace : ByteArray := prog_3_method_3_code
def yX1_buildPlace : MethodName := ⟨RX1, "buildPlace", "(LBlindHunts$State;I)V"⟩
abbrev cX1_spread : ByteArray := prog_3_method_4_code
def yX1_spread : MethodName := ⟨RX1, "spread", "(II)V"⟩
abbrev cX1_listChecks : ByteArray := prog_3_method_5_code
def yX1_listChecks : MethodName := ⟨RX1, "listChecks", "(I)V"⟩
abbrev cX1_after : ByteArray := prog_3_method_6_code
def yX1_after : MethodName := ⟨RX1, "after", "(III)I"⟩
def RX2 : String := "BlindHunts$RoundText"
def TX2 : u_T := fun k => match k with
  | 0 => ("BlindHunts$RoundText", "signs", "[C", true)
  | 1 => ("BlindHunts$RoundText", "length", "I", false)
  | 2 => ("BlindHunts$RoundText", "start", "I", false)
  | 3 => ("BlindHunts$RoundText", "roundsRead", "I", false)
  | 4 => ("BlindHunts$RoundText", "signal", "I", false)
  | 5 => ("BlindHunts$RoundText", "end", "I", false)
  | 6 => ("BlindHunts$RoundText", "digits", "I", false)
  | 7 => ("BlindHunts$RoundText", "one", "I", false)
  | _ => ("BlindHunts$RoundText", "other", "I", false)
def tyX2 : Nat → FieldType := fun k => match k with
  | 0 => .array .char
  | 1 => .int
  | 2 => .int
  | 3 => .int
  | 4 => .int
  | 5 => .int
  | 6 => .int
  | 7 => .int
  | _ => .int
abbrev wsX20 : List Cond := u_ws RX2 TX2 9
theorem nmX2 : ∀ a, a < 9 → ∀ b, b < 9 → a ≠ b → (TX2 a).2.1 ≠ (TX2 b).2.1 := by decide +kernel
theorem tyX2_ok : ∀ k, k < 9 → parseFieldDescriptor (TX2 k).2.2.1 = some (tyX2 k) := by decide +kernel
abbrev cX2_init : ByteArray := prog_4_method_1_code
def yX2_init : MethodName := ⟨RX2, "<init>", "()V"⟩
def RX3 : String := "BlindHunts$State"
def TX3 : u_T := fun k => match k with
  | 0 => ("BlindHunts$State", "places", "I", false)
  | 1 => ("BlindHunts$State", "colors", "[I", true)
  | 2 => ("BlindHunts$State", "roads", "[I", true)
  | 3 => ("BlindHunts$State", "open", "[I", true)
  | 4 => ("BlindHunts$State", "settings", "[I", true)
  | 5 => ("BlindHunts$State", "belief", "I", false)
  | 6 => ("BlindHunts$State", "rounds", "I", false)
  | 7 => ("BlindHunts$State", "checkedPlaces", "[I", true)
  | 8 => ("BlindHunts$State", "toldSignals", "[I", true)
  | _ => ("BlindHunts$State", "laterBeliefs", "[I", true)
def tyX3 : Nat → FieldType := fun k => match k with
  | 0 => .int
  | 1 => .array .int
  | 2 => .array .int
  | 3 => .array .int
  | 4 => .array .int
  | 5 => .int
  | 6 => .int
  | 7 => .array .int
  | 8 => .array .int
  | _ => .array .int
abbrev wsX30 : List Cond := u_ws RX3 TX3 10
theorem nmX3 : ∀ a, a < 10 → ∀ b, b < 10 → a ≠ b → (TX3 a).2.1 ≠ (TX3 b).2.1 := by decide +kernel
theorem tyX3_ok : ∀ k, k < 10 → parseFieldDescriptor (TX3 k).2.2.1 = some (tyX3 k) := by decide +kernel
abbrev cX3_init : ByteArray := prog_5_method_1_code
def yX3_init : MethodName := ⟨RX3, "<init>", "()V"⟩
abbrev cX3_takeFrom : ByteArray := prog_5_method_2_code
def yX3_takeFrom : MethodName := ⟨RX3, "takeFrom", "(LBlindHunts$State;)V"⟩
abbrev cX3_sets : ByteArray := prog_5_method_3_code
def yX3_sets : MethodName := ⟨RX3, "sets", "()I"⟩
abbrev cX3_addPlace : ByteArray := prog_5_method_4_code
def yX3_addPlace : MethodName := ⟨RX3, "addPlace", "(I)I"⟩
abbrev cX3_hasRoad : ByteArray := prog_5_method_5_code
def yX3_hasRoad : MethodName := ⟨RX3, "hasRoad", "(II)Z"⟩
abbrev cX3_hasOpenRoad : ByteArray := prog_5_method_6_code
def yX3_hasOpenRoad : MethodName := ⟨RX3, "hasOpenRoad", "(II)Z"⟩
abbrev cX3_addRoad : ByteArray := prog_5_method_7_code
def yX3_addRoad : MethodName := ⟨RX3, "addRoad", "(II)V"⟩
abbrev cX3_turnRoad : ByteArray := prog_5_method_8_code
def yX3_turnRoad : MethodName := ⟨RX3, "turnRoad", "(II)V"⟩
abbrev cX3_countRoads : ByteArray := prog_5_method_9_code
def yX3_countRoads : MethodName := ⟨RX3, "countRoads", "([I)I"⟩
abbrev cX3_reach : ByteArray := prog_5_method_10_code
def yX3_reach : MethodName := ⟨RX3, "reach", "(I)I"⟩
abbrev cX3_signalOf : ByteArray := prog_5_method_11_code
def yX3_signalOf : MethodName := ⟨RX3, "signalOf", "(II)I"⟩
abbrev cX3_isCaught : ByteArray := prog_5_method_12_code
def yX3_isCaught : MethodName := ⟨RX3, "isCaught", "()Z"⟩
abbrev cX3_rowOfRound : ByteArray := prog_5_method_13_code
def yX3_rowOfRound : MethodName := ⟨RX3, "rowOfRound", "(I)I"⟩
abbrev cX3_canBeRound : ByteArray := prog_5_method_14_code
def yX3_canBeRound : MethodName := ⟨RX3, "canBeRound", "(LBlindHunts$Moves;II)Z"⟩
abbrev cX3_addRound : ByteArray := prog_5_method_15_code
def yX3_addRound : MethodName := ⟨RX3, "addRound", "(LBlindHunts$Moves;II)V"⟩
def RX4 : String := "BlindHunts$Walks"
def TX4 : u_T := fun k => match k with
  | 0 => ("BlindHunts$Walks", "ending", "[J", false)
  | _ => ("BlindHunts$Walks", "before", "[J", false)
def tyX4 : Nat → FieldType := fun k => match k with
  | 0 => .array .long
  | _ => .array .long
abbrev wsX40 : List Cond := u_ws RX4 TX4 2
theorem nmX4 : ∀ a, a < 2 → ∀ b, b < 2 → a ≠ b → (TX4 a).2.1 ≠ (TX4 b).2.1 := by decide +kernel
theorem tyX4_ok : ∀ k, k < 2 → parseFieldDescriptor (TX4 k).2.2.1 = some (tyX4 k) := by decide +kernel
abbrev cX4_init : ByteArray := prog_6_method_1_code
def yX4_init : MethodName := ⟨RX4, "<init>", "()V"⟩
def RX5 : String := "BlindHunts"
def TX5 : u_T := fun k => match k with
  | 0 => ("BlindHunts", "now", "LBlindHunts$State;", true)
  | 1 => ("BlindHunts", "trial", "LBlindHunts$State;", true)
  | 2 => ("BlindHunts", "past", "[LBlindHunts$State;", true)
  | 3 => ("BlindHunts", "kept", "I", false)
  | 4 => ("BlindHunts", "text", "LBlindHunts$RoundText;", true)
  | 5 => ("BlindHunts", "tables", "LBlindHunts$Moves;", true)
  | 6 => ("BlindHunts", "hearing", "LBlindHunts$Hunt;", true)
  | 7 => ("BlindHunts", "unhearing", "LBlindHunts$Hunt;", true)
  | 8 => ("BlindHunts", "tablesStand", "Z", false)
  | 9 => ("BlindHunts", "hearingStands", "Z", false)
  | 10 => ("BlindHunts", "unhearingStands", "Z", false)
  | 11 => ("BlindHunts", "walks", "LBlindHunts$Walks;", true)
  | _ => ("BlindHunts", "comes", "[Z", true)
def tyX5 : Nat → FieldType := fun k => match k with
  | 0 => .object "BlindHunts$State"
  | 1 => .object "BlindHunts$State"
  | 2 => .array (.object "BlindHunts$State")
  | 3 => .int
  | 4 => .object "BlindHunts$RoundText"
  | 5 => .object "BlindHunts$Moves"
  | 6 => .object "BlindHunts$Hunt"
  | 7 => .object "BlindHunts$Hunt"
  | 8 => .boolean
  | 9 => .boolean
  | 10 => .boolean
  | 11 => .object "BlindHunts$Walks"
  | _ => .array .boolean
abbrev wsX50 : List Cond := u_ws RX5 TX5 13
theorem nmX5 : ∀ a, a < 13 → ∀ b, b < 13 → a ≠ b → (TX5 a).2.1 ≠ (TX5 b).2.1 := by decide +kernel
theorem tyX5_ok : ∀ k, k < 13 → parseFieldDescriptor (TX5 k).2.2.1 = some (tyX5 k) := by decide +kernel
abbrev cX5_init : ByteArray := prog_1_method_1_code
def yX5_init : MethodName := ⟨RX5, "<init>", "()V"⟩
abbrev cX5_place : ByteArray := prog_1_method_2_code
def yX5_place : MethodName := ⟨RX5, "place", "(I)I"⟩
abbrev cX5_road : ByteArray := prog_1_method_3_code
def yX5_road : MethodName := ⟨RX5, "road", "(II)I"⟩
abbrev cX5_shut : ByteArray := prog_1_method_4_code
def yX5_shut : MethodName := ⟨RX5, "shut", "(III)I"⟩
abbrev cX5_set : ByteArray := prog_1_method_5_code
def yX5_set : MethodName := ⟨RX5, "set", "(II)I"⟩
abbrev cX5_believe : ByteArray := prog_1_method_6_code
def yX5_believe : MethodName := ⟨RX5, "believe", "(I)I"⟩
abbrev cX5_check : ByteArray := prog_1_method_7_code
def yX5_check : MethodName := ⟨RX5, "check", "(II)I"⟩
abbrev cX5_placeOf : ByteArray := prog_1_method_8_code
def yX5_placeOf : MethodName := ⟨RX5, "placeOf", "(II)I"⟩
abbrev cX5_behind : ByteArray := prog_1_method_10_code
def yX5_behind : MethodName := ⟨RX5, "behind", "(III)I"⟩
abbrev cX5_sure : ByteArray := prog_1_method_11_code
def yX5_sure : MethodName := ⟨RX5, "sure", "(II)I"⟩
abbrev cX5_deaf : ByteArray := prog_1_method_12_code
def yX5_deaf : MethodName := ⟨RX5, "deaf", "(I)I"⟩
abbrev cX5_memory : ByteArray := prog_1_method_13_code
def yX5_memory : MethodName := ⟨RX5, "memory", "(I)I"⟩
abbrev cX5_beliefs : ByteArray := prog_1_method_14_code
def yX5_beliefs : MethodName := ⟨RX5, "beliefs", "(I)I"⟩
abbrev cX5_count : ByteArray := prog_1_method_18_code
def yX5_count : MethodName := ⟨RX5, "count", "(I)I"⟩
abbrev cX5_undo : ByteArray := prog_1_method_19_code
def yX5_undo : MethodName := ⟨RX5, "undo", "()I"⟩
abbrev cX5_isWithin : ByteArray := prog_1_method_24_code
def yX5_isWithin : MethodName := ⟨RX5, "isWithin", "(III)Z"⟩
abbrev cX5_isPlace : ByteArray := prog_1_method_25_code
def yX5_isPlace : MethodName := ⟨RX5, "isPlace", "(I)Z"⟩
abbrev cX5_arePlaces : ByteArray := prog_1_method_26_code
def yX5_arePlaces : MethodName := ⟨RX5, "arePlaces", "(II)Z"⟩
abbrev cX5_isSet : ByteArray := prog_1_method_27_code
def yX5_isSet : MethodName := ⟨RX5, "isSet", "(I)Z"⟩
abbrev cX5_isSetting : ByteArray := prog_1_method_28_code
def yX5_isSetting : MethodName := ⟨RX5, "isSetting", "(II)Z"⟩
abbrev cX5_record : ByteArray := prog_1_method_29_code
def yX5_record : MethodName := ⟨RX5, "record", "()V"⟩
abbrev cX5_dropOldest : ByteArray := prog_1_method_30_code
def yX5_dropOldest : MethodName := ⟨RX5, "dropOldest", "()V"⟩
abbrev cX5_forgetTables : ByteArray := prog_1_method_31_code
def yX5_forgetTables : MethodName := ⟨RX5, "forgetTables", "()V"⟩
abbrev cX5_standingMoves : ByteArray := prog_1_method_32_code
def yX5_standingMoves : MethodName := ⟨RX5, "standingMoves", "()LBlindHunts$Moves;"⟩
abbrev cX5_standingHearing : ByteArray := prog_1_method_33_code
def yX5_standingHearing : MethodName := ⟨RX5, "standingHearing", "()LBlindHunts$Hunt;"⟩
abbrev cX5_standingUnhearing : ByteArray := prog_1_method_34_code
def yX5_standingUnhearing : MethodName := ⟨RX5, "standingUnhearing", "()LBlindHunts$Hunt;"⟩
abbrev cX5_countComing : ByteArray := prog_1_method_35_code
def yX5_countComing : MethodName := ⟨RX5, "countComing", "(LBlindHunts$Hunt;I)I"⟩
abbrev cX5_markNext : ByteArray := prog_1_method_36_code
def yX5_markNext : MethodName := ⟨RX5, "markNext", "(II)V"⟩
def RX6 : String := "BlindHuntsModel"
def TX6 : u_T := fun k => match k with
  | _ => ("", "", "", false)
def tyX6 : Nat → FieldType := fun k => match k with
  | _ => .int
abbrev wsX60 : List Cond := u_ws RX6 TX6 0
theorem nmX6 : ∀ a, a < 0 → ∀ b, b < 0 → a ≠ b → (TX6 a).2.1 ≠ (TX6 b).2.1 := by decide +kernel
theorem tyX6_ok : ∀ k, k < 0 → parseFieldDescriptor (TX6 k).2.2.1 = some (tyX6 k) := by decide +kernel
def RJ6 : String := "java/lang/Integer"
def TJ6 : u_T := fun k => match k with
  | _ => ("", "", "", false)
def tyJ6 : Nat → FieldType := fun k => match k with
  | _ => .int
abbrev cJ6_bitCount_0f7a4 : ByteArray := prog_9_method_49_code
def yJ6_bitCount_0f7a4 : MethodName := ⟨RJ6, "bitCount", "(I)I"⟩
def RJ9 : String := "java/lang/Math"
def TJ9 : u_T := fun k => match k with
  | _ => ("", "", "", false)
def tyJ9 : Nat → FieldType := fun k => match k with
  | _ => .int
abbrev cJ9_max_7cf53 : ByteArray := prog_10_method_65_code
def yJ9_max_7cf53 : MethodName := ⟨RJ9, "max", "(II)I"⟩
abbrev cJ9_min_7cf53 : ByteArray := prog_10_method_69_code
def yJ9_min_7cf53 : MethodName := ⟨RJ9, "min", "(II)I"⟩
def RL : String := "BlindHuntsLaw"
abbrev cL_cell : ByteArray := method_2_code
def yL_cell : MethodName := ⟨RL, "cell", "([II)I"⟩
abbrev cL_bits : ByteArray := method_3_code
def yL_bits : MethodName := ⟨RL, "bits", "(I)I"⟩
abbrev cL_nth : ByteArray := method_4_code
def yL_nth : MethodName := ⟨RL, "nth", "(II)I"⟩
abbrev cL_signal : ByteArray := method_5_code
def yL_signal : MethodName := ⟨RL, "signal", "(LBlindHunts;III)I"⟩
abbrev cL_hunts : ByteArray := method_6_code
def yL_hunts : MethodName := ⟨RL, "hunts", "(LBlindHunts;II)Z"⟩
abbrev cL_holds : ByteArray := method_7_code
def yL_holds : MethodName := ⟨RL, "holds", "(LBlindHunts;)Z"⟩
abbrev cL_acts : ByteArray := method_8_code
def yL_acts : MethodName := ⟨RL, "acts", "(LBlindHunts;I)Z"⟩
abbrev cL_law : ByteArray := code
def yL_law : MethodName := ⟨RL, "law", "([I)Z"⟩
abbrev vwCl : List vw_C := [(RX0, TX0, 4), (RX1, TX1, 6), (RX2, TX2, 9), (RX3, TX3, 10), (RX4, TX4, 2), (RX5, TX5, 13)]

section
-- ===== PART A: goes FIRST, ahead of the names: the tables' words, and 'selects' of the private methods out of them =====
/-- a private method of a class that the tables say can be made, by its rows of tables_1 -/
def lw_okq (q : MethodName × Nat) : Prop := (q.1.cls ≠ "java/lang/invoke/MethodHandle" ∧ q.1.cls ≠ "java/lang/invoke/VarHandle") ∧ Cond.instantiable q.1.cls q.2 ∈ tables_1 ∧ Cond.privateMethod q.1 ∈ tables_1 ∧ Cond.instanceMethod q.1 ∈ tables_1
theorem lw_p0 : lw_okq (⟨"BlindHunts", "record", "()V"⟩, 13) := ⟨⟨by decide +kernel, by decide +kernel⟩, List.mem_of_getElem? (i := 10) (by decide +kernel), List.mem_of_getElem? (i := 209) (by decide +kernel), List.mem_of_getElem? (i := 210) (by decide +kernel)⟩
theorem lw_p1 : lw_okq (⟨"BlindHunts", "dropOldest", "()V"⟩, 13) := ⟨⟨by decide +kernel, by decide +kernel⟩, List.mem_of_getElem? (i := 10) (by decide +kernel), List.mem_of_getElem? (i := 213) (by decide +kernel), List.mem_of_getElem? (i := 214) (by decide +kernel)⟩
theorem lw_p2 : lw_okq (⟨"BlindHunts", "forgetTables", "()V"⟩, 13) := ⟨⟨by decide +kernel, by decide +kernel⟩, List.mem_of_getElem? (i := 10) (by decide +kernel), List.mem_of_getElem? (i := 221) (by decide +kernel), List.mem_of_getElem? (i := 222) (by decide +kernel)⟩
theorem lw_p3 : lw_okq (⟨"BlindHunts", "arePlaces", "(II)Z"⟩, 13) := ⟨⟨by decide +kernel, by decide +kernel⟩, List.mem_of_getElem? (i := 10) (by decide +kernel), List.mem_of_getElem? (i := 233) (by decide +kernel), List.mem_of_getElem? (i := 234) (by decide +kernel)⟩
theorem lw_p4 : lw_okq (⟨"BlindHunts", "isPlace", "(I)Z"⟩, 13) := ⟨⟨by decide +kernel, by decide +kernel⟩, List.mem_of_getElem? (i := 10) (by decide +kernel), List.mem_of_getElem? (i := 237) (by decide +kernel), List.mem_of_getElem? (i := 238) (by decide +kernel)⟩
theorem lw_p5 : lw_okq (⟨"BlindHunts", "isSet", "(I)Z"⟩, 13) := ⟨⟨by decide +kernel, by decide +kernel⟩, List.mem_of_getElem? (i := 10) (by decide +kernel), List.mem_of_getElem? (i := 268) (by decide +kernel), List.mem_of_getElem? (i := 269) (by decide +kernel)⟩
theorem lw_p6 : lw_okq (⟨"BlindHunts", "standingMoves", "()LBlindHunts$Moves;"⟩, 13) := ⟨⟨by decide +kernel, by decide +kernel⟩, List.mem_of_getElem? (i := 10) (by decide +kernel), List.mem_of_getElem? (i := 281) (by decide +kernel), List.mem_of_getElem? (i := 282) (by decide +kernel)⟩
theorem lw_p7 : lw_okq (⟨"BlindHunts$Moves", "buildPlace", "(LBlindHunts$State;I)V"⟩, 6) := ⟨⟨by decide +kernel, by decide +kernel⟩, List.mem_of_getElem? (i := 94) (by decide +kernel), List.mem_of_getElem? (i := 290) (by decide +kernel), List.mem_of_getElem? (i := 291) (by decide +kernel)⟩
theorem lw_p8 : lw_okq (⟨"BlindHunts$Moves", "spread", "(II)V"⟩, 6) := ⟨⟨by decide +kernel, by decide +kernel⟩, List.mem_of_getElem? (i := 94) (by decide +kernel), List.mem_of_getElem? (i := 305) (by decide +kernel), List.mem_of_getElem? (i := 306) (by decide +kernel)⟩
theorem lw_p9 : lw_okq (⟨"BlindHunts$Moves", "listChecks", "(I)V"⟩, 6) := ⟨⟨by decide +kernel, by decide +kernel⟩, List.mem_of_getElem? (i := 94) (by decide +kernel), List.mem_of_getElem? (i := 309) (by decide +kernel), List.mem_of_getElem? (i := 310) (by decide +kernel)⟩
theorem lw_p10 : lw_okq (⟨"BlindHunts", "standingHearing", "()LBlindHunts$Hunt;"⟩, 13) := ⟨⟨by decide +kernel, by decide +kernel⟩, List.mem_of_getElem? (i := 10) (by decide +kernel), List.mem_of_getElem? (i := 366) (by decide +kernel), List.mem_of_getElem? (i := 367) (by decide +kernel)⟩
theorem lw_p11 : lw_okq (⟨"BlindHunts$Hunt", "solveLevel", "(LBlindHunts$Moves;I)Z"⟩, 4) := ⟨⟨by decide +kernel, by decide +kernel⟩, List.mem_of_getElem? (i := 124) (by decide +kernel), List.mem_of_getElem? (i := 374) (by decide +kernel), List.mem_of_getElem? (i := 375) (by decide +kernel)⟩
theorem lw_p12 : lw_okq (⟨"BlindHunts$Hunt", "partsAreSure", "(I)Z"⟩, 4) := ⟨⟨by decide +kernel, by decide +kernel⟩, List.mem_of_getElem? (i := 124) (by decide +kernel), List.mem_of_getElem? (i := 378) (by decide +kernel), List.mem_of_getElem? (i := 379) (by decide +kernel)⟩
theorem lw_p13 : lw_okq (⟨"BlindHunts$Hunt", "settle", "(LBlindHunts$Moves;II)Z"⟩, 4) := ⟨⟨by decide +kernel, by decide +kernel⟩, List.mem_of_getElem? (i := 124) (by decide +kernel), List.mem_of_getElem? (i := 382) (by decide +kernel), List.mem_of_getElem? (i := 383) (by decide +kernel)⟩
theorem lw_p14 : lw_okq (⟨"BlindHunts$Hunt", "leadsLower", "(LBlindHunts$Moves;III)Z"⟩, 4) := ⟨⟨by decide +kernel, by decide +kernel⟩, List.mem_of_getElem? (i := 124) (by decide +kernel), List.mem_of_getElem? (i := 386) (by decide +kernel), List.mem_of_getElem? (i := 387) (by decide +kernel)⟩
theorem lw_p15 : lw_okq (⟨"BlindHunts", "standingUnhearing", "()LBlindHunts$Hunt;"⟩, 13) := ⟨⟨by decide +kernel, by decide +kernel⟩, List.mem_of_getElem? (i := 10) (by decide +kernel), List.mem_of_getElem? (i := 408) (by decide +kernel), List.mem_of_getElem? (i := 409) (by decide +kernel)⟩
def lw_privs_1 : List (MethodName × Nat) := [(⟨"BlindHunts", "record", "()V"⟩, 13), (⟨"BlindHunts", "dropOldest", "()V"⟩, 13), (⟨"BlindHunts", "forgetTables", "()V"⟩, 13), (⟨"BlindHunts", "arePlaces", "(II)Z"⟩, 13), (⟨"BlindHunts", "isPlace", "(I)Z"⟩, 13), (⟨"BlindHunts", "isSet", "(I)Z"⟩, 13), (⟨"BlindHunts", "standingMoves", "()LBlindHunts$Moves;"⟩, 13), (⟨"BlindHunts$Moves", "buildPlace", "(LBlindHunts$State;I)V"⟩, 6), (⟨"BlindHunts$Moves", "spread", "(II)V"⟩, 6), (⟨"BlindHunts$Moves", "listChecks", "(I)V"⟩, 6), (⟨"BlindHunts", "standingHearing", "()LBlindHunts$Hunt;"⟩, 13), (⟨"BlindHunts$Hunt", "solveLevel", "(LBlindHunts$Moves;I)Z"⟩, 4), (⟨"BlindHunts$Hunt", "partsAreSure", "(I)Z"⟩, 4), (⟨"BlindHunts$Hunt", "settle", "(LBlindHunts$Moves;II)Z"⟩, 4), (⟨"BlindHunts$Hunt", "leadsLower", "(LBlindHunts$Moves;III)Z"⟩, 4), (⟨"BlindHunts", "standingUnhearing", "()LBlindHunts$Hunt;"⟩, 13)]
theorem lw_r1 : ∀ q ∈ lw_privs_1, lw_okq q := List.forall_mem_cons.mpr ⟨lw_p0, List.forall_mem_cons.mpr ⟨lw_p1, List.forall_mem_cons.mpr ⟨lw_p2, List.forall_mem_cons.mpr ⟨lw_p3, List.forall_mem_cons.mpr ⟨lw_p4, List.forall_mem_cons.mpr ⟨lw_p5, List.forall_mem_cons.mpr ⟨lw_p6, List.forall_mem_cons.mpr ⟨lw_p7, List.forall_mem_cons.mpr ⟨lw_p8, List.forall_mem_cons.mpr ⟨lw_p9, List.forall_mem_cons.mpr ⟨lw_p10, List.forall_mem_cons.mpr ⟨lw_p11, List.forall_mem_cons.mpr ⟨lw_p12, List.forall_mem_cons.mpr ⟨lw_p13, List.forall_mem_cons.mpr ⟨lw_p14, List.forall_mem_cons.mpr ⟨lw_p15, fun _ h => absurd h List.not_mem_nil⟩⟩⟩⟩⟩⟩⟩⟩⟩⟩⟩⟩⟩⟩⟩⟩
theorem lw_p16 : lw_okq (⟨"BlindHunts", "countComing", "(LBlindHunts$Hunt;I)I"⟩, 13) := ⟨⟨by decide +kernel, by decide +kernel⟩, List.mem_of_getElem? (i := 10) (by decide +kernel), List.mem_of_getElem? (i := 452) (by decide +kernel), List.mem_of_getElem? (i := 453) (by decide +kernel)⟩
theorem lw_p17 : lw_okq (⟨"BlindHunts", "markNext", "(II)V"⟩, 13) := ⟨⟨by decide +kernel, by decide +kernel⟩, List.mem_of_getElem? (i := 10) (by decide +kernel), List.mem_of_getElem? (i := 456) (by decide +kernel), List.mem_of_getElem? (i := 457) (by decide +kernel)⟩
def lw_privs_2 : List (MethodName × Nat) := [(⟨"BlindHunts", "countComing", "(LBlindHunts$Hunt;I)I"⟩, 13), (⟨"BlindHunts", "markNext", "(II)V"⟩, 13)]
theorem lw_r2 : ∀ q ∈ lw_privs_2, lw_okq q := List.forall_mem_cons.mpr ⟨lw_p16, List.forall_mem_cons.mpr ⟨lw_p17, fun _ h => absurd h List.not_mem_nil⟩⟩
def lw_privs : List (MethodName × Nat) := lw_privs_1 ++ (lw_privs_2)
def lw_tbl : List Cond := k2_sels lw_privs ++ tables_1
theorem lw_privs_ok : ∀ q ∈ lw_privs, lw_okq q := by
  show ∀ q ∈ lw_privs_1 ++ (lw_privs_2), lw_okq q
  exact List.forall_mem_append.mpr ⟨lw_r1, lw_r2⟩
end
section
theorem vr_outer (c : ClassId) (N h0 : Nat) : ∀ i : Nat, Jvm.Free.Multi.outerC c N h0 i = arrV c N (fun j => va_rf (if j < i then some (h0 + 1 + j) else none))
  | 0 => by
    show ({ cls := c, slots := Array.replicate N .null, vm := .none } : Cell) = _
    rw [arrV_new]
    refine congrArg (arrV c N) (funext fun j => ?_)
    simp [va_rf]
  | i + 1 => by
    show (Jvm.Free.Multi.outerC c N h0 i).setSlot i (.ref (h0 + 1 + i)) = _
    rw [vr_outer c N h0 i, arrV_store]
    refine congrArg (arrV c N) (funext fun j => ?_)
    by_cases e : j = i
    · subst e
      simp [updV, va_rf]
    · by_cases h : j < i
      · simp [updV, e, h, Nat.lt_succ_of_lt h]
      · simp [updV, e, h, show ¬ j < i + 1 by omega]
def RX0 : String := "BlindHunts$Hunt"
def TX0 : u_T := fun k => match k with
  | 0 => ("BlindHunts$Hunt", "needs", "[I", true)
  | 1 => ("BlindHunts$Hunt", "best", "[I", true)
  | 2 => ("BlindHunts$Hunt", "firstRow", "I", true)
  | _ => ("BlindHunts$Hunt", "lastRow", "I", true)
def tyX0 : Nat → FieldType := fun k => match k with
  | 0 => .array .int
  | 1 => .array .int
  | 2 => .int
  | _ => .int
abbrev wsX00 : List Cond := u_ws RX0 TX0 4
theorem nmX0 : ∀ a, a < 4 → ∀ b, b < 4 → a ≠ b → (TX0 a).2.1 ≠ (TX0 b).2.1 := by decide +kernel
theorem tyX0_ok : ∀ k, k < 4 → parseFieldDescriptor (TX0 k).2.2.1 = some (tyX0 k) := by decide +kernel
abbrev cX0_init : ByteArray := prog_2_method_1_code
def yX0_init : MethodName := ⟨RX0, "<init>", "(II)V"⟩
abbrev cX0_solve : ByteArray := prog_2_method_2_code
def yX0_solve : MethodName := ⟨RX0, "solve", "(LBlindHunts$Moves;)V"⟩
abbrev cX0_solveLevel : ByteArray := prog_2_method_3_code
def yX0_solveLevel : MethodName := ⟨RX0, "solveLevel", "(LBlindHunts$Moves;I)Z"⟩
abbrev cX0_partsAreSure : ByteArray := prog_2_method_4_code
def yX0_partsAreSure : MethodName := ⟨RX0, "partsAreSure", "(I)Z"⟩
abbrev cX0_settle : ByteArray := prog_2_method_5_code
def yX0_settle : MethodName := ⟨RX0, "settle", "(LBlindHunts$Moves;II)Z"⟩
abbrev cX0_leadsLower : ByteArray := prog_2_method_6_code
def yX0_leadsLower : MethodName := ⟨RX0, "leadsLower", "(LBlindHunts$Moves;III)Z"⟩
abbrev cX0_countSure : ByteArray := prog_2_method_7_code
def yX0_countSure : MethodName := ⟨RX0, "countSure", "(I)I"⟩
abbrev cX0_hardestBelief : ByteArray := prog_2_method_8_code
def yX0_hardestBelief : MethodName := ⟨RX0, "hardestBelief", "(I)I"⟩
abbrev cX0_mostNeeded : ByteArray := prog_2_method_9_code
def yX0_mostNeeded : MethodName := ⟨RX0, "mostNeeded", "(I)I"⟩
def RX1 : String := "BlindHunts$Moves"
def TX1 : u_T := fun k => match k with
  | 0 => ("BlindHunts$Moves", "gone", "[[I", true)
  | 1 => ("BlindHunts$Moves", "targets", "[I", true)
  | 2 => ("BlindHunts$Moves", "checks", "[I", true)
  | 3 => ("BlindHunts$Moves", "checkCount", "I", false)
  | 4 => ("BlindHunts$Moves", "sets", "I", false)
  | _ => ("BlindHunts$Moves", "shy", "Z", false)
def tyX1 : Nat → FieldType := fun k => match k with
  | 0 => .array (.array .int)
  | 1 => .array .int
  | 2 => .array .int
  | 3 => .int
  | 4 => .int
  | _ => .boolean
abbrev wsX10 : List Cond := u_ws RX1 TX1 6
theorem nmX1 : ∀ a, a < 6 → ∀ b, b < 6 → a ≠ b → (TX1 a).2.1 ≠ (TX1 b).2.1 := by decide +kernel
theorem tyX1_ok : ∀ k, k < 6 → parseFieldDescriptor (TX1 k).2.2.1 = some (tyX1 k) := by decide +kernel
abbrev cX1_init : ByteArray := prog_3_method_1_code
def yX1_init : MethodName := ⟨RX1, "<init>", "()V"⟩
abbrev cX1_build : ByteArray := prog_3_method_2_code
def yX1_build : MethodName := ⟨RX1, "build", "(LBlindHunts$State;)V"⟩
abbrev cX1_buildPlace : ByteArray := prog_3_method_3_code
def yX1_buildPlace : MethodName := ⟨RX1, "buildPlace", "(LBlindHunts$State;I)V"⟩
abbrev cX1_spread : ByteArray := prog_3_method_4_code
def yX1_spread : MethodName := ⟨RX1, "spread", "(II)V"⟩
abbrev cX1_listChecks : ByteArray := prog_3_method_5_code
def yX1_listChecks : MethodName := ⟨RX1, "listChecks", "(I)V"⟩
abbrev cX1_after : ByteArray := prog_3_method_6_code
def yX1_after : MethodName := ⟨RX1, "after", "(III)I"⟩
def RX2 : String := "BlindHunts$RoundText"
def TX2 : u_T := fun k => match k with
  | 0 => ("BlindHunts$RoundText", "signs", "[C", true)
  | 1 => ("BlindHunts$RoundText", "length", "I", false)
  | 2 => ("BlindHunts$RoundText", "start", "I", false)
  | 3 => ("BlindHunts$RoundText", "roundsRead", "I", false)
  | 4 => ("BlindHunts$RoundText", "signal", "I", false)
  | 5 => ("BlindHunts$RoundText", "end", "I", false)
  | 6 => ("BlindHunts$RoundText", "digits", "I", false)
  | 7 => ("BlindHunts$RoundText", "one", "I", false)
  | _ => ("BlindHunts$RoundText", "other", "I", false)
def tyX2 : Nat → FieldType := fun k => match k with
  | 0 => .array .char
  | 1 => .int
  | 2 => .int
  | 3 => .int
  | 4 => .int
  | 5 => .int
  | 6 => .int
  | 7 => .int
  | _ => .int
abbrev wsX20 : List Cond := u_ws RX2 TX2 9
theorem nmX2 : ∀ a, a < 9 → ∀ b, b < 9 → a ≠ b → (TX2 a).2.1 ≠ (TX2 b).2.1 := by decide +kernel
theorem tyX2_ok : ∀ k, k < 9 → parseFieldDescriptor (TX2 k).2.2.1 = some (tyX2 k) := by decide +kernel
abbrev cX2_init : ByteArray := prog_4_method_1_code
def yX2_init : MethodName := ⟨RX2, "<init>", "()V"⟩
def RX3 : String := "BlindHunts$State"
def TX3 : u_T := fun k => match k with
  | 0 => ("BlindHunts$State", "places", "I", false)
  | 1 => ("BlindHunts$State", "colors", "[I", true)
  | 2 => ("BlindHunts$State", "roads", "[I", true)
  | 3 => ("BlindHunts$State", "open", "[I", true)
  | 4 => ("BlindHunts$State", "settings", "[I", true)
  | 5 => ("BlindHunts$State", "belief", "I", false)
  | 6 => ("BlindHunts$State", "rounds", "I", false)
  | 7 => ("BlindHunts$State", "checkedPlaces", "[I", true)
  | 8 => ("BlindHunts$State", "toldSignals", "[I", true)
  | _ => ("BlindHunts$State", "laterBeliefs", "[I", true)
def tyX3 : Nat → FieldType := fun k => match k with
  | 0 => .int
  | 1 => .array .int
  | 2 => .array .int
  | 3 => .array .int
  | 4 => .array .int
  | 5 => .int
  | 6 => .int
  | 7 => .array .int
  | 8 => .array .int
  | _ => .array .int
abbrev wsX30 : List Cond := u_ws RX3 TX3 10
theorem nmX3 : ∀ a, a < 10 → ∀ b, b < 10 → a ≠ b → (TX3 a).2.1 ≠ (TX3 b).2.1 := by decide +kernel
theorem tyX3_ok : ∀ k, k < 10 → parseFieldDescriptor (TX3 k).2.2.1 = some (tyX3 k) := by decide +kernel
abbrev cX3_init : ByteArray := prog_5_method_1_code
def yX3_init : MethodName := ⟨RX3, "<init>", "()V"⟩
abbrev cX3_takeFrom : ByteArray := prog_5_method_2_code
def yX3_takeFrom : MethodName := ⟨RX3, "takeFrom", "(LBlindHunts$State;)V"⟩
abbrev cX3_sets : ByteArray := prog_5_method_3_code
def yX3_sets : MethodName := ⟨RX3, "sets", "()I"⟩
abbrev cX3_addPlace : ByteArray := prog_5_method_4_code
def yX3_addPlace : MethodName := ⟨RX3, "addPlace", "(I)I"⟩
abbrev cX3_hasRoad : ByteArray := prog_5_method_5_code
def yX3_hasRoad : MethodName := ⟨RX3, "hasRoad", "(II)Z"⟩
abbrev cX3_hasOpenRoad : ByteArray := prog_5_method_6_code
def yX3_hasOpenRoad : MethodName := ⟨RX3, "hasOpenRoad", "(II)Z"⟩
abbrev cX3_addRoad : ByteArray := prog_5_method_7_code
def yX3_addRoad : MethodName := ⟨RX3, "addRoad", "(II)V"⟩
abbrev cX3_turnRoad : ByteArray := prog_5_method_8_code
def yX3_turnRoad : MethodName := ⟨RX3, "turnRoad", "(II)V"⟩
abbrev cX3_countRoads : ByteArray := prog_5_method_9_code
def yX3_countRoads : MethodName := ⟨RX3, "countRoads", "([I)I"⟩
abbrev cX3_reach : ByteArray := prog_5_method_10_code
def yX3_reach : MethodName := ⟨RX3, "reach", "(I)I"⟩
abbrev cX3_signalOf : ByteArray := prog_5_method_11_code
def yX3_signalOf : MethodName := ⟨RX3, "signalOf", "(II)I"⟩
abbrev cX3_isCaught : ByteArray := prog_5_method_12_code
def yX3_isCaught : MethodName := ⟨RX3, "isCaught", "()Z"⟩
abbrev cX3_rowOfRound : ByteArray := prog_5_method_13_code
def yX3_rowOfRound : MethodName := ⟨RX3, "rowOfRound", "(I)I"⟩
abbrev cX3_canBeRound : ByteArray := prog_5_method_14_code
def yX3_canBeRound : MethodName := ⟨RX3, "canBeRound", "(LBlindHunts$Moves;II)Z"⟩
abbrev cX3_addRound : ByteArray := prog_5_method_15_code
def yX3_addRound : MethodName := ⟨RX3, "addRound", "(LBlindHunts$Moves;II)V"⟩
def RX4 : String := "BlindHunts$Walks"
def TX4 : u_T := fun k => match k with
  | 0 => ("BlindHunts$Walks", "ending", "[J", false)
  | _ => ("BlindHunts$Walks", "before", "[J", false)
def tyX4 : Nat → FieldType := fun k => match k with
  | 0 => .array .long
  | _ => .array .long
abbrev wsX40 : List Cond := u_ws RX4 TX4 2
theorem nmX4 : ∀ a, a < 2 → ∀ b, b < 2 → a ≠ b → (TX4 a).2.1 ≠ (TX4 b).2.1 := by decide +kernel
theorem tyX4_ok : ∀ k, k < 2 → parseFieldDescriptor (TX4 k).2.2.1 = some (tyX4 k) := by decide +kernel
abbrev cX4_init : ByteArray := prog_6_method_1_code
def yX4_init : MethodName := ⟨RX4, "<init>", "()V"⟩
def RX5 : String := "BlindHunts"
def TX5 : u_T := fun k => match k with
  | 0 => ("BlindHunts", "now", "LBlindHunts$State;", true)
  | 1 => ("BlindHunts", "trial", "LBlindHunts$State;", true)
  | 2 => ("BlindHunts", "past", "[LBlindHunts$State;", true)
  | 3 => ("BlindHunts", "kept", "I", false)
  | 4 => ("BlindHunts", "text", "LBlindHunts$RoundText;", true)
  | 5 => ("BlindHunts", "tables", "LBlindHunts$Moves;", true)
  | 6 => ("BlindHunts", "hearing", "LBlindHunts$Hunt;", true)
  | 7 => ("BlindHunts", "unhearing", "LBlindHunts$Hunt;", true)
  | 8 => ("BlindHunts", "tablesStand", "Z", false)
  | 9 => ("BlindHunts", "hearingStands", "Z", false)
  | 10 => ("BlindHunts", "unhearingStands", "Z", false)
  | 11 => ("BlindHunts", "walks", "LBlindHunts$Walks;", true)
  | _ => ("BlindHunts", "comes", "[Z", true)
def tyX5 : Nat → FieldType := fun k => match k with
  | 0 => .object "BlindHunts$State"
  | 1 => .object "BlindHunts$State"
  | 2 => .array (.object "BlindHunts$State")
  | 3 => .int
  | 4 => .object "BlindHunts$RoundText"
  | 5 => .object "BlindHunts$Moves"
  | 6 => .object "BlindHunts$Hunt"
  | 7 => .object "BlindHunts$Hunt"
  | 8 => .boolean
  | 9 => .boolean
  | 10 => .boolean
  | 11 => .object "BlindHunts$Walks"
  | _ => .array .boolean
abbrev wsX50 : List Cond := u_ws RX5 TX5 13
theorem nmX5 : ∀ a, a < 13 → ∀ b, b < 13 → a ≠ b → (TX5 a).2.1 ≠ (TX5 b).2.1 := by decide +kernel
theorem tyX5_ok : ∀ k, k < 13 → parseFieldDescriptor (TX5 k).2.2.1 = some (tyX5 k) := by decide +kernel
abbrev cX5_init : ByteArray := prog_1_method_1_code
def yX5_init : MethodName := ⟨RX5, "<init>", "()V"⟩
abbrev cX5_place : ByteArray := prog_1_method_2_code
def yX5_place : MethodName := ⟨RX5, "place", "(I)I"⟩
abbrev cX5_road : ByteArray := prog_1_method_3_code
def yX5_road : MethodName := ⟨RX5, "road", "(II)I"⟩
abbrev cX5_shut : ByteArray := prog_1_method_4_code
def yX5_shut : MethodName := ⟨RX5, "shut", "(III)I"⟩
abbrev cX5_set : ByteArray := prog_1_method_5_code
def yX5_set : MethodName := ⟨RX5, "set", "(II)I"⟩
abbrev cX5_believe : ByteArray := prog_1_method_6_code
def yX5_believe : MethodName := ⟨RX5, "believe", "(I)I"⟩
abbrev cX5_check : ByteArray := prog_1_method_7_code
def yX5_check : MethodName := ⟨RX5, "check", "(II)I"⟩
abbrev cX5_placeOf : ByteArray := prog_1_method_8_code
def yX5_placeOf : MethodName := ⟨RX5, "placeOf", "(II)I"⟩
abbrev cX5_behind : ByteArray := prog_1_method_10_code
def yX5_behind : MethodName := ⟨RX5, "behind", "(III)I"⟩
abbrev cX5_sure : ByteArray := prog_1_method_11_code
def yX5_sure : MethodName := ⟨RX5, "sure", "(II)I"⟩
abbrev cX5_deaf : ByteArray := prog_1_method_12_code
def yX5_deaf : MethodName := ⟨RX5, "deaf", "(I)I"⟩
abbrev cX5_memory : ByteArray := prog_1_method_13_code
def yX5_memory : MethodName := ⟨RX5, "memory", "(I)I"⟩
abbrev cX5_beliefs : ByteArray := prog_1_method_14_code
def yX5_beliefs : MethodName := ⟨RX5, "beliefs", "(I)I"⟩
abbrev cX5_count : ByteArray := prog_1_method_18_code
def yX5_count : MethodName := ⟨RX5, "count", "(I)I"⟩
abbrev cX5_undo : ByteArray := prog_1_method_19_code
def yX5_undo : MethodName := ⟨RX5, "undo", "()I"⟩
abbrev cX5_isWithin : ByteArray := prog_1_method_24_code
def yX5_isWithin : MethodName := ⟨RX5, "isWithin", "(III)Z"⟩
abbrev cX5_isPlace : ByteArray := prog_1_method_25_code
def yX5_isPlace : MethodName := ⟨RX5, "isPlace", "(I)Z"⟩
abbrev cX5_arePlaces : ByteArray := prog_1_method_26_code
def yX5_arePlaces : MethodName := ⟨RX5, "arePlaces", "(II)Z"⟩
abbrev cX5_isSet : ByteArray := prog_1_method_27_code
def yX5_isSet : MethodName := ⟨RX5, "isSet", "(I)Z"⟩
abbrev cX5_isSetting : ByteArray := prog_1_method_28_code
def yX5_isSetting : MethodName := ⟨RX5, "isSetting", "(II)Z"⟩
abbrev cX5_record : ByteArray := prog_1_method_29_code
def yX5_record : MethodName := ⟨RX5, "record", "()V"⟩
abbrev cX5_dropOldest : ByteArray := prog_1_method_30_code
def yX5_dropOldest : MethodName := ⟨RX5, "dropOldest", "()V"⟩
abbrev cX5_forgetTables : ByteArray := prog_1_method_31_code
def yX5_forgetTables : MethodName := ⟨RX5, "forgetTables", "()V"⟩
abbrev cX5_standingMoves : ByteArray := prog_1_method_32_code
def yX5_standingMoves : MethodName := ⟨RX5, "standingMoves", "()LBlindHunts$Moves;"⟩
abbrev cX5_standingHearing : ByteArray := prog_1_method_33_code
def yX5_standingHearing : MethodName := ⟨RX5, "standingHearing", "()LBlindHunts$Hunt;"⟩
abbrev cX5_standingUnhearing : ByteArray := prog_1_method_34_code
def yX5_standingUnhearing : MethodName := ⟨RX5, "standingUnhearing", "()LBlindHunts$Hunt;"⟩
abbrev cX5_countComing : ByteArray := prog_1_method_35_code
def yX5_countComing : MethodName := ⟨RX5, "countComing", "(LBlindHunts$Hunt;I)I"⟩
abbrev cX5_markNext : ByteArray := prog_1_method_36_code
def yX5_markNext : MethodName := ⟨RX5, "markNext", "(II)V"⟩
def RX6 : String := "BlindHuntsModel"
def TX6 : u_T := fun k => match k with
  | _ => ("", "", "", false)
def tyX6 : Nat → FieldType := fun k => match k with
  | _ => .int
abbrev wsX60 : List Cond := u_ws RX6 TX6 0
theorem nmX6 : ∀ a, a < 0 → ∀ b, b < 0 → a ≠ b → (TX6 a).2.1 ≠ (TX6 b).2.1 := by decide +kernel
theorem tyX6_ok : ∀ k, k < 0 → parseFieldDescriptor (TX6 k).2.2.1 = some (tyX6 k) := by decide +kernel
def RJ6 : String := "java/lang/Integer"
def TJ6 : u_T := fun k => match k with
  | _ => ("", "", "", false)
def tyJ6 : Nat → FieldType := fun k => match k with
  | _ => .int
abbrev cJ6_bitCount_0f7a4 : ByteArray := prog_9_method_49_code
def yJ6_bitCount_0f7a4 : MethodName := ⟨RJ6, "bitCount", "(I)I"⟩
def RJ9 : String := "java/lang/Math"
def TJ9 : u_T := fun k => match k with
  | _ => ("", "", "", false)
def tyJ9 : Nat → FieldType := fun k => match k with
  | _ => .int
abbrev cJ9_max_7cf53 : ByteArray := prog_10_method_65_code
def yJ9_max_7cf53 : MethodName := ⟨RJ9, "max", "(II)I"⟩
abbrev cJ9_min_7cf53 : ByteArray := prog_10_method_69_code
def yJ9_min_7cf53 : MethodName := ⟨RJ9, "min", "(II)I"⟩
def RL : String := "BlindHuntsLaw"
abbrev cL_cell : ByteArray := method_2_code
def yL_cell : MethodName := ⟨RL, "cell", "([II)I"⟩
abbrev cL_bits : ByteArray := method_3_code
def yL_bits : MethodName := ⟨RL, "bits", "(I)I"⟩
abbrev cL_nth : ByteArray := method_4_code
def yL_nth : MethodName := ⟨RL, "nth", "(II)I"⟩
abbrev cL_signal : ByteArray := method_5_code
def yL_signal : MethodName := ⟨RL, "signal", "(LBlindHunts;III)I"⟩
abbrev cL_hunts : ByteArray := method_6_code
def yL_hunts : MethodName := ⟨RL, "hunts", "(LBlindHunts;II)Z"⟩
abbrev cL_holds : ByteArray := method_7_code
def yL_holds : MethodName := ⟨RL, "holds", "(LBlindHunts;)Z"⟩
abbrev cL_acts : ByteArray := method_8_code
def yL_acts : MethodName := ⟨RL, "acts", "(LBlindHunts;I)Z"⟩
abbrev cL_law : ByteArray := code
def yL_law : MethodName := ⟨RL, "law", "([I)Z"⟩
abbrev vwCl : List vw_C := [(RX0, TX0, 4), (RX1, TX1, 6), (RX2, TX2, 9), (RX3, TX3, 10), (RX4, TX4, 2), (RX5, TX5, 13)]
end
section
def WS : List Cond := lw_tbl.filter goodWord
theorem mW {w : Cond} (i : Nat) (h : lw_tbl[i]? = some w) (g : goodWord w = true) : w ∈ WS := List.mem_filter.mpr ⟨List.mem_of_getElem? h, g⟩
theorem wS_X5_record : Cond.selects RX5 yX5_record yX5_record ∈ WS := mW 0 (by decide +kernel) (by decide +kernel)
theorem wS_X5_dropOldest : Cond.selects RX5 yX5_dropOldest yX5_dropOldest ∈ WS := mW 1 (by decide +kernel) (by decide +kernel)
theorem wS_X5_forgetTables : Cond.selects RX5 yX5_forgetTables yX5_forgetTables ∈ WS := mW 2 (by decide +kernel) (by decide +kernel)
theorem wS_X5_arePlaces : Cond.selects RX5 yX5_arePlaces yX5_arePlaces ∈ WS := mW 3 (by decide +kernel) (by decide +kernel)
theorem wS_X5_isPlace : Cond.selects RX5 yX5_isPlace yX5_isPlace ∈ WS := mW 4 (by decide +kernel) (by decide +kernel)
theorem wS_X5_isSet : Cond.selects RX5 yX5_isSet yX5_isSet ∈ WS := mW 5 (by decide +kernel) (by decide +kernel)
theorem wS_X5_standingMoves : Cond.selects RX5 yX5_standingMoves yX5_standingMoves ∈ WS := mW 6 (by decide +kernel) (by decide +kernel)
theorem wS_X1_buildPlace : Cond.selects RX1 yX1_buildPlace yX1_buildPlace ∈ WS := mW 7 (by decide +kernel) (by decide +kernel)
theorem wS_X1_spread : Cond.selects RX1 yX1_spread yX1_spread ∈ WS := mW 8 (by decide +kernel) (by decide +kernel)
theorem wS_X1_listChecks : Cond.selects RX1 yX1_listChecks yX1_listChecks ∈ WS := mW 9 (by decide +kernel) (by decide +kernel)
theorem wS_X5_standingHearing : Cond.selects RX5 yX5_standingHearing yX5_standingHearing ∈ WS := mW 10 (by decide +kernel) (by decide +kernel)
theorem wS_X0_solveLevel : Cond.selects RX0 yX0_solveLevel yX0_solveLevel ∈ WS := mW 11 (by decide +kernel) (by decide +kernel)
theorem wS_X0_partsAreSure : Cond.selects RX0 yX0_partsAreSure yX0_partsAreSure ∈ WS := mW 12 (by decide +kernel) (by decide +kernel)
theorem wS_X0_settle : Cond.selects RX0 yX0_settle yX0_settle ∈ WS := mW 13 (by decide +kernel) (by decide +kernel)
theorem wS_X0_leadsLower : Cond.selects RX0 yX0_leadsLower yX0_leadsLower ∈ WS := mW 14 (by decide +kernel) (by decide +kernel)
theorem wS_X5_standingUnhearing : Cond.selects RX5 yX5_standingUnhearing yX5_standingUnhearing ∈ WS := mW 15 (by decide +kernel) (by decide +kernel)
theorem wS_X5_countComing : Cond.selects RX5 yX5_countComing yX5_countComing ∈ WS := mW 16 (by decide +kernel) (by decide +kernel)
theorem wS_X5_markNext : Cond.selects RX5 yX5_markNext yX5_markNext ∈ WS := mW 17 (by decide +kernel) (by decide +kernel)
theorem wZ_L : Cond.initialized RL ∈ WS := mW 18 (by decide +kernel) (by decide +kernel)
theorem wZ_X5 : Cond.initialized RX5 ∈ WS := mW 19 (by decide +kernel) (by decide +kernel)
theorem wZ_X3 : Cond.initialized RX3 ∈ WS := mW 20 (by decide +kernel) (by decide +kernel)
theorem wZ_X2 : Cond.initialized RX2 ∈ WS := mW 21 (by decide +kernel) (by decide +kernel)
theorem wZ_X1 : Cond.initialized RX1 ∈ WS := mW 22 (by decide +kernel) (by decide +kernel)
theorem wZ_X0 : Cond.initialized RX0 ∈ WS := mW 23 (by decide +kernel) (by decide +kernel)
theorem wZ_X4 : Cond.initialized RX4 ∈ WS := mW 24 (by decide +kernel) (by decide +kernel)
theorem wZ_J6 : Cond.initialized RJ6 ∈ WS := mW 25 (by decide +kernel) (by decide +kernel)
theorem wZ_J9 : Cond.initialized RJ9 ∈ WS := mW 26 (by decide +kernel) (by decide +kernel)
theorem wZ_Math : Cond.initialized "java/lang/Math" ∈ WS := mW 26 (by decide +kernel) (by decide +kernel)
theorem wL_L_10 : Cond.classLink RL 10 "BlindHunts" ∈ WS := mW 27 (by decide +kernel) (by decide +kernel)
theorem wO_X5 : Cond.instantiable RX5 13 ∈ WS := mW 28 (by decide +kernel) (by decide +kernel)
theorem wM_L_71 : Cond.methodLink RL 71 yX5_init ∈ WS := mW 29 (by decide +kernel) (by decide +kernel)
theorem wI_X5_init : Cond.instanceMethod yX5_init ∈ WS := mW 30 (by decide +kernel) (by decide +kernel)
theorem wC_X5_init : Cond.code yX5_init cX5_init 2 none ∈ WS := mW 31 (by decide +kernel) (by decide +kernel)
theorem wM_X5_1 : Cond.methodLink RX5 1 objectInit ∈ WS := mW 32 (by decide +kernel) (by decide +kernel)
theorem wI_obj : Cond.instanceMethod objectInit ∈ WS := mW 33 (by decide +kernel) (by decide +kernel)
theorem wC_obj : Cond.code objectInit ⟨#[0xb1]⟩ 1 none ∈ WS := mW 34 (by decide +kernel) (by decide +kernel)
theorem wL_X5_7 : Cond.classLink RX5 7 "BlindHunts$State" ∈ WS := mW 35 (by decide +kernel) (by decide +kernel)
theorem wO_X3 : Cond.instantiable RX3 10 ∈ WS := mW 36 (by decide +kernel) (by decide +kernel)
theorem wM_X5_9 : Cond.methodLink RX5 9 yX3_init ∈ WS := mW 37 (by decide +kernel) (by decide +kernel)
theorem wI_X3_init : Cond.instanceMethod yX3_init ∈ WS := mW 38 (by decide +kernel) (by decide +kernel)
theorem wC_X3_init : Cond.code yX3_init cX3_init 1 none ∈ WS := mW 39 (by decide +kernel) (by decide +kernel)
theorem wM_X3_3 : Cond.methodLink RX3 3 objectInit ∈ WS := mW 40 (by decide +kernel) (by decide +kernel)
theorem wF_X3_33 : Cond.fieldLink RX3 33 (TX3 0).1 (TX3 0).2.1 (TX3 0).2.2.1 ∈ WS := mW 41 (by decide +kernel) (by decide +kernel)
theorem wF_X5_65 : Cond.fieldLink RX5 65 (TX3 0).1 (TX3 0).2.1 (TX3 0).2.2.1 ∈ WS := mW 42 (by decide +kernel) (by decide +kernel)
theorem wF_X1_39 : Cond.fieldLink RX1 39 (TX3 0).1 (TX3 0).2.1 (TX3 0).2.2.1 ∈ WS := mW 43 (by decide +kernel) (by decide +kernel)
theorem wF_X3_9 : Cond.fieldLink RX3 9 (TX3 1).1 (TX3 1).2.1 (TX3 1).2.2.1 ∈ WS := mW 44 (by decide +kernel) (by decide +kernel)
theorem wF_X5_144 : Cond.fieldLink RX5 144 (TX3 1).1 (TX3 1).2.1 (TX3 1).2.2.1 ∈ WS := mW 45 (by decide +kernel) (by decide +kernel)
theorem wF_X3_15 : Cond.fieldLink RX3 15 (TX3 2).1 (TX3 2).2.1 (TX3 2).2.2.1 ∈ WS := mW 46 (by decide +kernel) (by decide +kernel)
theorem wF_X5_91 : Cond.fieldLink RX5 91 (TX3 2).1 (TX3 2).2.1 (TX3 2).2.2.1 ∈ WS := mW 47 (by decide +kernel) (by decide +kernel)
theorem wF_X3_18 : Cond.fieldLink RX3 18 (TX3 3).1 (TX3 3).2.1 (TX3 3).2.2.1 ∈ WS := mW 48 (by decide +kernel) (by decide +kernel)
theorem wF_X5_105 : Cond.fieldLink RX5 105 (TX3 3).1 (TX3 3).2.1 (TX3 3).2.2.1 ∈ WS := mW 49 (by decide +kernel) (by decide +kernel)
theorem wF_X3_21 : Cond.fieldLink RX3 21 (TX3 4).1 (TX3 4).2.1 (TX3 4).2.2.1 ∈ WS := mW 50 (by decide +kernel) (by decide +kernel)
theorem wF_X1_32 : Cond.fieldLink RX1 32 (TX3 4).1 (TX3 4).2.1 (TX3 4).2.2.1 ∈ WS := mW 51 (by decide +kernel) (by decide +kernel)
theorem wF_X5_111 : Cond.fieldLink RX5 111 (TX3 4).1 (TX3 4).2.1 (TX3 4).2.2.1 ∈ WS := mW 52 (by decide +kernel) (by decide +kernel)
theorem wF_X3_37 : Cond.fieldLink RX3 37 (TX3 5).1 (TX3 5).2.1 (TX3 5).2.2.1 ∈ WS := mW 53 (by decide +kernel) (by decide +kernel)
theorem wF_X5_118 : Cond.fieldLink RX5 118 (TX3 5).1 (TX3 5).2.1 (TX3 5).2.2.1 ∈ WS := mW 54 (by decide +kernel) (by decide +kernel)
theorem wF_X3_40 : Cond.fieldLink RX3 40 (TX3 6).1 (TX3 6).2.1 (TX3 6).2.2.1 ∈ WS := mW 55 (by decide +kernel) (by decide +kernel)
theorem wF_X5_121 : Cond.fieldLink RX5 121 (TX3 6).1 (TX3 6).2.1 (TX3 6).2.2.1 ∈ WS := mW 56 (by decide +kernel) (by decide +kernel)
theorem wF_X3_24 : Cond.fieldLink RX3 24 (TX3 7).1 (TX3 7).2.1 (TX3 7).2.2.1 ∈ WS := mW 57 (by decide +kernel) (by decide +kernel)
theorem wF_X3_27 : Cond.fieldLink RX3 27 (TX3 8).1 (TX3 8).2.1 (TX3 8).2.2.1 ∈ WS := mW 58 (by decide +kernel) (by decide +kernel)
theorem wF_X3_30 : Cond.fieldLink RX3 30 (TX3 9).1 (TX3 9).2.1 (TX3 9).2.2.1 ∈ WS := mW 59 (by decide +kernel) (by decide +kernel)
theorem wA_int : Cond.arrayClass .int ∈ WS := mW 81 (by decide +kernel) (by decide +kernel)
theorem wL_X5_23 : Cond.classLink RX5 23 "BlindHunts$RoundText" ∈ WS := mW 83 (by decide +kernel) (by decide +kernel)
theorem wO_X2 : Cond.instantiable RX2 9 ∈ WS := mW 84 (by decide +kernel) (by decide +kernel)
theorem wI_X2_init : Cond.instanceMethod yX2_init ∈ WS := mW 86 (by decide +kernel) (by decide +kernel)
theorem wC_X2_init : Cond.code yX2_init cX2_init 1 none ∈ WS := mW 87 (by decide +kernel) (by decide +kernel)
theorem wM_X2_3 : Cond.methodLink RX2 3 objectInit ∈ WS := mW 88 (by decide +kernel) (by decide +kernel)
theorem wF_X2_9 : Cond.fieldLink RX2 9 (TX2 0).1 (TX2 0).2.1 (TX2 0).2.2.1 ∈ WS := mW 89 (by decide +kernel) (by decide +kernel)
theorem wF_X5_222 : Cond.fieldLink RX5 222 (TX2 1).1 (TX2 1).2.1 (TX2 1).2.2.1 ∈ WS := mW 90 (by decide +kernel) (by decide +kernel)
theorem wA_char : Cond.arrayClass .char ∈ WS := mW 110 (by decide +kernel) (by decide +kernel)
theorem wL_X5_30 : Cond.classLink RX5 30 "BlindHunts$Moves" ∈ WS := mW 111 (by decide +kernel) (by decide +kernel)
theorem wO_X1 : Cond.instantiable RX1 6 ∈ WS := mW 112 (by decide +kernel) (by decide +kernel)
theorem wI_X1_init : Cond.instanceMethod yX1_init ∈ WS := mW 114 (by decide +kernel) (by decide +kernel)
theorem wC_X1_init : Cond.code yX1_init cX1_init 1 none ∈ WS := mW 115 (by decide +kernel) (by decide +kernel)
theorem wM_X1_3 : Cond.methodLink RX1 3 objectInit ∈ WS := mW 116 (by decide +kernel) (by decide +kernel)
theorem wL_X1_9 : Cond.classLink RX1 9 "[[I" ∈ WS := mW 117 (by decide +kernel) (by decide +kernel)
theorem wF_X1_11 : Cond.fieldLink RX1 11 (TX1 0).1 (TX1 0).2.1 (TX1 0).2.2.1 ∈ WS := mW 119 (by decide +kernel) (by decide +kernel)
theorem wF_X1_16 : Cond.fieldLink RX1 16 (TX1 1).1 (TX1 1).2.1 (TX1 1).2.2.1 ∈ WS := mW 120 (by decide +kernel) (by decide +kernel)
theorem wF_X1_20 : Cond.fieldLink RX1 20 (TX1 2).1 (TX1 2).2.1 (TX1 2).2.2.1 ∈ WS := mW 121 (by decide +kernel) (by decide +kernel)
theorem wF_X0_45 : Cond.fieldLink RX0 45 (TX1 2).1 (TX1 2).2.1 (TX1 2).2.2.1 ∈ WS := mW 122 (by decide +kernel) (by decide +kernel)
theorem wF_X1_62 : Cond.fieldLink RX1 62 (TX1 3).1 (TX1 3).2.1 (TX1 3).2.2.1 ∈ WS := mW 123 (by decide +kernel) (by decide +kernel)
theorem wF_X0_42 : Cond.fieldLink RX0 42 (TX1 3).1 (TX1 3).2.1 (TX1 3).2.2.1 ∈ WS := mW 124 (by decide +kernel) (by decide +kernel)
theorem wF_X1_29 : Cond.fieldLink RX1 29 (TX1 4).1 (TX1 4).2.1 (TX1 4).2.2.1 ∈ WS := mW 125 (by decide +kernel) (by decide +kernel)
theorem wF_X0_29 : Cond.fieldLink RX0 29 (TX1 4).1 (TX1 4).2.1 (TX1 4).2.2.1 ∈ WS := mW 126 (by decide +kernel) (by decide +kernel)
theorem wF_X1_35 : Cond.fieldLink RX1 35 (TX1 5).1 (TX1 5).2.1 (TX1 5).2.2.1 ∈ WS := mW 127 (by decide +kernel) (by decide +kernel)
theorem wL_X5_37 : Cond.classLink RX5 37 "BlindHunts$Hunt" ∈ WS := mW 141 (by decide +kernel) (by decide +kernel)
theorem wO_X0 : Cond.instantiable RX0 4 ∈ WS := mW 142 (by decide +kernel) (by decide +kernel)
theorem wM_X5_39 : Cond.methodLink RX5 39 yX0_init ∈ WS := mW 143 (by decide +kernel) (by decide +kernel)
theorem wI_X0_init : Cond.instanceMethod yX0_init ∈ WS := mW 144 (by decide +kernel) (by decide +kernel)
theorem wC_X0_init : Cond.code yX0_init cX0_init 3 none ∈ WS := mW 145 (by decide +kernel) (by decide +kernel)
theorem wM_X0_3 : Cond.methodLink RX0 3 objectInit ∈ WS := mW 146 (by decide +kernel) (by decide +kernel)
theorem wF_X0_9 : Cond.fieldLink RX0 9 (TX0 0).1 (TX0 0).2.1 (TX0 0).2.2.1 ∈ WS := mW 147 (by decide +kernel) (by decide +kernel)
theorem wF_X5_171 : Cond.fieldLink RX5 171 (TX0 0).1 (TX0 0).2.1 (TX0 0).2.2.1 ∈ WS := mW 148 (by decide +kernel) (by decide +kernel)
theorem wF_X0_15 : Cond.fieldLink RX0 15 (TX0 1).1 (TX0 1).2.1 (TX0 1).2.2.1 ∈ WS := mW 149 (by decide +kernel) (by decide +kernel)
theorem wF_X5_174 : Cond.fieldLink RX5 174 (TX0 1).1 (TX0 1).2.1 (TX0 1).2.2.1 ∈ WS := mW 150 (by decide +kernel) (by decide +kernel)
theorem wF_X0_18 : Cond.fieldLink RX0 18 (TX0 2).1 (TX0 2).2.1 (TX0 2).2.2.1 ∈ WS := mW 151 (by decide +kernel) (by decide +kernel)
theorem wF_X0_22 : Cond.fieldLink RX0 22 (TX0 3).1 (TX0 3).2.1 (TX0 3).2.2.1 ∈ WS := mW 152 (by decide +kernel) (by decide +kernel)
theorem wL_X5_49 : Cond.classLink RX5 49 "BlindHunts$Walks" ∈ WS := mW 162 (by decide +kernel) (by decide +kernel)
theorem wO_X4 : Cond.instantiable RX4 2 ∈ WS := mW 163 (by decide +kernel) (by decide +kernel)
theorem wI_X4_init : Cond.instanceMethod yX4_init ∈ WS := mW 165 (by decide +kernel) (by decide +kernel)
theorem wC_X4_init : Cond.code yX4_init cX4_init 1 none ∈ WS := mW 166 (by decide +kernel) (by decide +kernel)
theorem wM_X4_3 : Cond.methodLink RX4 3 objectInit ∈ WS := mW 167 (by decide +kernel) (by decide +kernel)
theorem wF_X4_9 : Cond.fieldLink RX4 9 (TX4 0).1 (TX4 0).2.1 (TX4 0).2.2.1 ∈ WS := mW 168 (by decide +kernel) (by decide +kernel)
theorem wF_X4_15 : Cond.fieldLink RX4 15 (TX4 1).1 (TX4 1).2.1 (TX4 1).2.2.1 ∈ WS := mW 169 (by decide +kernel) (by decide +kernel)
theorem wA_long : Cond.arrayClass .long ∈ WS := mW 175 (by decide +kernel) (by decide +kernel)
theorem wF_X5_10 : Cond.fieldLink RX5 10 (TX5 0).1 (TX5 0).2.1 (TX5 0).2.2.1 ∈ WS := mW 176 (by decide +kernel) (by decide +kernel)
theorem wF_X5_16 : Cond.fieldLink RX5 16 (TX5 1).1 (TX5 1).2.1 (TX5 1).2.2.1 ∈ WS := mW 177 (by decide +kernel) (by decide +kernel)
theorem wF_X5_19 : Cond.fieldLink RX5 19 (TX5 2).1 (TX5 2).2.1 (TX5 2).2.2.1 ∈ WS := mW 178 (by decide +kernel) (by decide +kernel)
theorem wF_X5_219 : Cond.fieldLink RX5 219 (TX5 3).1 (TX5 3).2.1 (TX5 3).2.2.1 ∈ WS := mW 179 (by decide +kernel) (by decide +kernel)
theorem wF_X5_26 : Cond.fieldLink RX5 26 (TX5 4).1 (TX5 4).2.1 (TX5 4).2.2.1 ∈ WS := mW 180 (by decide +kernel) (by decide +kernel)
theorem wF_X5_33 : Cond.fieldLink RX5 33 (TX5 5).1 (TX5 5).2.1 (TX5 5).2.2.1 ∈ WS := mW 181 (by decide +kernel) (by decide +kernel)
theorem wF_X5_42 : Cond.fieldLink RX5 42 (TX5 6).1 (TX5 6).2.1 (TX5 6).2.2.1 ∈ WS := mW 182 (by decide +kernel) (by decide +kernel)
theorem wF_X5_46 : Cond.fieldLink RX5 46 (TX5 7).1 (TX5 7).2.1 (TX5 7).2.2.1 ∈ WS := mW 183 (by decide +kernel) (by decide +kernel)
theorem wF_X5_245 : Cond.fieldLink RX5 245 (TX5 8).1 (TX5 8).2.1 (TX5 8).2.2.1 ∈ WS := mW 184 (by decide +kernel) (by decide +kernel)
theorem wF_X5_249 : Cond.fieldLink RX5 249 (TX5 9).1 (TX5 9).2.1 (TX5 9).2.2.1 ∈ WS := mW 185 (by decide +kernel) (by decide +kernel)
theorem wF_X5_252 : Cond.fieldLink RX5 252 (TX5 10).1 (TX5 10).2.1 (TX5 10).2.2.1 ∈ WS := mW 186 (by decide +kernel) (by decide +kernel)
theorem wF_X5_52 : Cond.fieldLink RX5 52 (TX5 11).1 (TX5 11).2.1 (TX5 11).2.2.1 ∈ WS := mW 187 (by decide +kernel) (by decide +kernel)
theorem wF_X5_56 : Cond.fieldLink RX5 56 (TX5 12).1 (TX5 12).2.1 (TX5 12).2.2.1 ∈ WS := mW 188 (by decide +kernel) (by decide +kernel)
theorem wA_boolean : Cond.arrayClass .boolean ∈ WS := mW 216 (by decide +kernel) (by decide +kernel)
theorem wM_L_54 : Cond.methodLink RL 54 yX5_place ∈ WS := mW 217 (by decide +kernel) (by decide +kernel)
theorem wI_X5_place : Cond.instanceMethod yX5_place ∈ WS := mW 218 (by decide +kernel) (by decide +kernel)
theorem wS_X5_place : Cond.selects RX5 yX5_place yX5_place ∈ WS := mW 219 (by decide +kernel) (by decide +kernel)
theorem wC_X5_place : Cond.code yX5_place cX5_place 2 (some .int) ∈ WS := mW 220 (by decide +kernel) (by decide +kernel)
theorem wM_X5_60 : Cond.methodLink RX5 60 yX5_isWithin ∈ WS := mW 221 (by decide +kernel) (by decide +kernel)
theorem wT_X5_isWithin : Cond.static yX5_isWithin ∈ WS := mW 222 (by decide +kernel) (by decide +kernel)
theorem wC_X5_isWithin : Cond.code yX5_isWithin cX5_isWithin 3 (some .boolean) ∈ WS := mW 223 (by decide +kernel) (by decide +kernel)
theorem wN_X5_64 : Cond.constant RX5 64 (-1000001) ∈ WS := mW 224 (by decide +kernel) (by decide +kernel)
theorem wN_X5_69 : Cond.constant RX5 69 (-1000003) ∈ WS := mW 225 (by decide +kernel) (by decide +kernel)
theorem wM_X5_70 : Cond.methodLink RX5 70 yX5_record ∈ WS := mW 226 (by decide +kernel) (by decide +kernel)
theorem wI_X5_record : Cond.instanceMethod yX5_record ∈ WS := mW 228 (by decide +kernel) (by decide +kernel)
theorem wC_X5_record : Cond.code yX5_record cX5_record 1 none ∈ WS := mW 229 (by decide +kernel) (by decide +kernel)
theorem wM_X5_242 : Cond.methodLink RX5 242 yX5_dropOldest ∈ WS := mW 230 (by decide +kernel) (by decide +kernel)
theorem wI_X5_dropOldest : Cond.instanceMethod yX5_dropOldest ∈ WS := mW 232 (by decide +kernel) (by decide +kernel)
theorem wC_X5_dropOldest : Cond.code yX5_dropOldest cX5_dropOldest 3 none ∈ WS := mW 233 (by decide +kernel) (by decide +kernel)
theorem wM_X5_225 : Cond.methodLink RX5 225 yX3_takeFrom ∈ WS := mW 234 (by decide +kernel) (by decide +kernel)
theorem wI_X3_takeFrom : Cond.instanceMethod yX3_takeFrom ∈ WS := mW 235 (by decide +kernel) (by decide +kernel)
theorem wS_X3_takeFrom : Cond.selects RX3 yX3_takeFrom yX3_takeFrom ∈ WS := mW 236 (by decide +kernel) (by decide +kernel)
theorem wC_X3_takeFrom : Cond.code yX3_takeFrom cX3_takeFrom 3 none ∈ WS := mW 237 (by decide +kernel) (by decide +kernel)
theorem wM_X5_73 : Cond.methodLink RX5 73 yX5_forgetTables ∈ WS := mW 238 (by decide +kernel) (by decide +kernel)
theorem wI_X5_forgetTables : Cond.instanceMethod yX5_forgetTables ∈ WS := mW 240 (by decide +kernel) (by decide +kernel)
theorem wC_X5_forgetTables : Cond.code yX5_forgetTables cX5_forgetTables 1 none ∈ WS := mW 241 (by decide +kernel) (by decide +kernel)
theorem wM_X5_76 : Cond.methodLink RX5 76 yX3_addPlace ∈ WS := mW 242 (by decide +kernel) (by decide +kernel)
theorem wI_X3_addPlace : Cond.instanceMethod yX3_addPlace ∈ WS := mW 243 (by decide +kernel) (by decide +kernel)
theorem wS_X3_addPlace : Cond.selects RX3 yX3_addPlace yX3_addPlace ∈ WS := mW 244 (by decide +kernel) (by decide +kernel)
theorem wC_X3_addPlace : Cond.code yX3_addPlace cX3_addPlace 2 (some .int) ∈ WS := mW 245 (by decide +kernel) (by decide +kernel)
theorem wM_L_58 : Cond.methodLink RL 58 yX5_road ∈ WS := mW 246 (by decide +kernel) (by decide +kernel)
theorem wI_X5_road : Cond.instanceMethod yX5_road ∈ WS := mW 247 (by decide +kernel) (by decide +kernel)
theorem wS_X5_road : Cond.selects RX5 yX5_road yX5_road ∈ WS := mW 248 (by decide +kernel) (by decide +kernel)
theorem wC_X5_road : Cond.code yX5_road cX5_road 3 (some .int) ∈ WS := mW 249 (by decide +kernel) (by decide +kernel)
theorem wM_X5_80 : Cond.methodLink RX5 80 yX5_arePlaces ∈ WS := mW 250 (by decide +kernel) (by decide +kernel)
theorem wI_X5_arePlaces : Cond.instanceMethod yX5_arePlaces ∈ WS := mW 252 (by decide +kernel) (by decide +kernel)
theorem wC_X5_arePlaces : Cond.code yX5_arePlaces cX5_arePlaces 3 (some .boolean) ∈ WS := mW 253 (by decide +kernel) (by decide +kernel)
theorem wM_X5_141 : Cond.methodLink RX5 141 yX5_isPlace ∈ WS := mW 254 (by decide +kernel) (by decide +kernel)
theorem wI_X5_isPlace : Cond.instanceMethod yX5_isPlace ∈ WS := mW 256 (by decide +kernel) (by decide +kernel)
theorem wC_X5_isPlace : Cond.code yX5_isPlace cX5_isPlace 2 (some .boolean) ∈ WS := mW 257 (by decide +kernel) (by decide +kernel)
theorem wM_X5_84 : Cond.methodLink RX5 84 yX3_hasRoad ∈ WS := mW 258 (by decide +kernel) (by decide +kernel)
theorem wI_X3_hasRoad : Cond.instanceMethod yX3_hasRoad ∈ WS := mW 259 (by decide +kernel) (by decide +kernel)
theorem wS_X3_hasRoad : Cond.selects RX3 yX3_hasRoad yX3_hasRoad ∈ WS := mW 260 (by decide +kernel) (by decide +kernel)
theorem wC_X3_hasRoad : Cond.code yX3_hasRoad cX3_hasRoad 3 (some .boolean) ∈ WS := mW 261 (by decide +kernel) (by decide +kernel)
theorem wN_X5_87 : Cond.constant RX5 87 (-1000002) ∈ WS := mW 262 (by decide +kernel) (by decide +kernel)
theorem wM_X5_88 : Cond.methodLink RX5 88 yX3_addRoad ∈ WS := mW 263 (by decide +kernel) (by decide +kernel)
theorem wI_X3_addRoad : Cond.instanceMethod yX3_addRoad ∈ WS := mW 264 (by decide +kernel) (by decide +kernel)
theorem wS_X3_addRoad : Cond.selects RX3 yX3_addRoad yX3_addRoad ∈ WS := mW 265 (by decide +kernel) (by decide +kernel)
theorem wC_X3_addRoad : Cond.code yX3_addRoad cX3_addRoad 3 none ∈ WS := mW 266 (by decide +kernel) (by decide +kernel)
theorem wM_X3_43 : Cond.methodLink RX3 43 yX3_turnRoad ∈ WS := mW 267 (by decide +kernel) (by decide +kernel)
theorem wI_X3_turnRoad : Cond.instanceMethod yX3_turnRoad ∈ WS := mW 268 (by decide +kernel) (by decide +kernel)
theorem wS_X3_turnRoad : Cond.selects RX3 yX3_turnRoad yX3_turnRoad ∈ WS := mW 269 (by decide +kernel) (by decide +kernel)
theorem wC_X3_turnRoad : Cond.code yX3_turnRoad cX3_turnRoad 3 none ∈ WS := mW 270 (by decide +kernel) (by decide +kernel)
theorem wM_X5_95 : Cond.methodLink RX5 95 yX3_countRoads ∈ WS := mW 271 (by decide +kernel) (by decide +kernel)
theorem wI_X3_countRoads : Cond.instanceMethod yX3_countRoads ∈ WS := mW 272 (by decide +kernel) (by decide +kernel)
theorem wS_X3_countRoads : Cond.selects RX3 yX3_countRoads yX3_countRoads ∈ WS := mW 273 (by decide +kernel) (by decide +kernel)
theorem wC_X3_countRoads : Cond.code yX3_countRoads cX3_countRoads 4 (some .int) ∈ WS := mW 274 (by decide +kernel) (by decide +kernel)
theorem wM_X3_47 : Cond.methodLink RX3 47 yJ6_bitCount_0f7a4 ∈ WS := mW 275 (by decide +kernel) (by decide +kernel)
theorem wT_J6_bitCount_0f7a4 : Cond.static yJ6_bitCount_0f7a4 ∈ WS := mW 276 (by decide +kernel) (by decide +kernel)
theorem wC_J6_bitCount_0f7a4 : Cond.code yJ6_bitCount_0f7a4 cJ6_bitCount_0f7a4 1 (some .int) ∈ WS := mW 277 (by decide +kernel) (by decide +kernel)
theorem wN_J6_265 : Cond.constant RJ6 265 (1431655765) ∈ WS := mW 278 (by decide +kernel) (by decide +kernel)
theorem wN_J6_266 : Cond.constant RJ6 266 (858993459) ∈ WS := mW 279 (by decide +kernel) (by decide +kernel)
theorem wN_J6_267 : Cond.constant RJ6 267 (252645135) ∈ WS := mW 280 (by decide +kernel) (by decide +kernel)
theorem wM_L_32 : Cond.methodLink RL 32 yX5_believe ∈ WS := mW 281 (by decide +kernel) (by decide +kernel)
theorem wI_X5_believe : Cond.instanceMethod yX5_believe ∈ WS := mW 282 (by decide +kernel) (by decide +kernel)
theorem wS_X5_believe : Cond.selects RX5 yX5_believe yX5_believe ∈ WS := mW 283 (by decide +kernel) (by decide +kernel)
theorem wC_X5_believe : Cond.code yX5_believe cX5_believe 2 (some .int) ∈ WS := mW 284 (by decide +kernel) (by decide +kernel)
theorem wM_X5_114 : Cond.methodLink RX5 114 yX5_isSet ∈ WS := mW 285 (by decide +kernel) (by decide +kernel)
theorem wI_X5_isSet : Cond.instanceMethod yX5_isSet ∈ WS := mW 287 (by decide +kernel) (by decide +kernel)
theorem wC_X5_isSet : Cond.code yX5_isSet cX5_isSet 2 (some .boolean) ∈ WS := mW 288 (by decide +kernel) (by decide +kernel)
theorem wM_X5_184 : Cond.methodLink RX5 184 yX3_sets ∈ WS := mW 289 (by decide +kernel) (by decide +kernel)
theorem wI_X3_sets : Cond.instanceMethod yX3_sets ∈ WS := mW 290 (by decide +kernel) (by decide +kernel)
theorem wS_X3_sets : Cond.selects RX3 yX3_sets yX3_sets ∈ WS := mW 291 (by decide +kernel) (by decide +kernel)
theorem wC_X3_sets : Cond.code yX3_sets cX3_sets 1 (some .int) ∈ WS := mW 292 (by decide +kernel) (by decide +kernel)
theorem wM_X5_124 : Cond.methodLink RX5 124 yJ6_bitCount_0f7a4 ∈ WS := mW 293 (by decide +kernel) (by decide +kernel)
theorem wM_L_45 : Cond.methodLink RL 45 yX5_check ∈ WS := mW 294 (by decide +kernel) (by decide +kernel)
theorem wI_X5_check : Cond.instanceMethod yX5_check ∈ WS := mW 295 (by decide +kernel) (by decide +kernel)
theorem wS_X5_check : Cond.selects RX5 yX5_check yX5_check ∈ WS := mW 296 (by decide +kernel) (by decide +kernel)
theorem wC_X5_check : Cond.code yX5_check cX5_check 4 (some .int) ∈ WS := mW 297 (by decide +kernel) (by decide +kernel)
theorem wM_X5_129 : Cond.methodLink RX5 129 yX5_standingMoves ∈ WS := mW 298 (by decide +kernel) (by decide +kernel)
theorem wI_X5_standingMoves : Cond.instanceMethod yX5_standingMoves ∈ WS := mW 300 (by decide +kernel) (by decide +kernel)
theorem wC_X5_standingMoves : Cond.code yX5_standingMoves cX5_standingMoves 1 (some (.object "BlindHunts$Moves")) ∈ WS := mW 301 (by decide +kernel) (by decide +kernel)
theorem wM_X5_255 : Cond.methodLink RX5 255 yX1_build ∈ WS := mW 302 (by decide +kernel) (by decide +kernel)
theorem wI_X1_build : Cond.instanceMethod yX1_build ∈ WS := mW 303 (by decide +kernel) (by decide +kernel)
theorem wS_X1_build : Cond.selects RX1 yX1_build yX1_build ∈ WS := mW 304 (by decide +kernel) (by decide +kernel)
theorem wC_X1_build : Cond.code yX1_build cX1_build 3 none ∈ WS := mW 305 (by decide +kernel) (by decide +kernel)
theorem wM_X1_23 : Cond.methodLink RX1 23 yX3_sets ∈ WS := mW 306 (by decide +kernel) (by decide +kernel)
theorem wM_X1_42 : Cond.methodLink RX1 42 yX1_buildPlace ∈ WS := mW 307 (by decide +kernel) (by decide +kernel)
theorem wI_X1_buildPlace : Cond.instanceMethod yX1_buildPlace ∈ WS := mW 309 (by decide +kernel) (by decide +kernel)
theorem wC_X1_buildPlace : Cond.code yX1_buildPlace cX1_buildPlace 5 none ∈ WS := mW 310 (by decide +kernel) (by decide +kernel)
theorem wM_X1_50 : Cond.methodLink RX1 50 yX3_reach ∈ WS := mW 311 (by decide +kernel) (by decide +kernel)
theorem wI_X3_reach : Cond.instanceMethod yX3_reach ∈ WS := mW 312 (by decide +kernel) (by decide +kernel)
theorem wS_X3_reach : Cond.selects RX3 yX3_reach yX3_reach ∈ WS := mW 313 (by decide +kernel) (by decide +kernel)
theorem wC_X3_reach : Cond.code yX3_reach cX3_reach 7 (some .int) ∈ WS := mW 314 (by decide +kernel) (by decide +kernel)
theorem wM_X1_54 : Cond.methodLink RX1 54 yX3_signalOf ∈ WS := mW 315 (by decide +kernel) (by decide +kernel)
theorem wI_X3_signalOf : Cond.instanceMethod yX3_signalOf ∈ WS := mW 316 (by decide +kernel) (by decide +kernel)
theorem wS_X3_signalOf : Cond.selects RX3 yX3_signalOf yX3_signalOf ∈ WS := mW 317 (by decide +kernel) (by decide +kernel)
theorem wC_X3_signalOf : Cond.code yX3_signalOf cX3_signalOf 3 (some .int) ∈ WS := mW 318 (by decide +kernel) (by decide +kernel)
theorem wM_X3_53 : Cond.methodLink RX3 53 Lib.Math.min.name ∈ WS := mW 319 (by decide +kernel) (by decide +kernel)
theorem wT_Math_min : Cond.static Lib.Math.min.name ∈ WS := mW 320 (by decide +kernel) (by decide +kernel)
theorem wC_Math_min : Cond.code Lib.Math.min.name Lib.Math.min.code 2 (some .int) ∈ WS := mW 321 (by decide +kernel) (by decide +kernel)
theorem wM_X1_58 : Cond.methodLink RX1 58 yX1_spread ∈ WS := mW 322 (by decide +kernel) (by decide +kernel)
theorem wI_X1_spread : Cond.instanceMethod yX1_spread ∈ WS := mW 324 (by decide +kernel) (by decide +kernel)
theorem wC_X1_spread : Cond.code yX1_spread cX1_spread 4 none ∈ WS := mW 325 (by decide +kernel) (by decide +kernel)
theorem wM_X1_46 : Cond.methodLink RX1 46 yX1_listChecks ∈ WS := mW 326 (by decide +kernel) (by decide +kernel)
theorem wI_X1_listChecks : Cond.instanceMethod yX1_listChecks ∈ WS := mW 328 (by decide +kernel) (by decide +kernel)
theorem wC_X1_listChecks : Cond.code yX1_listChecks cX1_listChecks 3 none ∈ WS := mW 329 (by decide +kernel) (by decide +kernel)
theorem wM_X1_65 : Cond.methodLink RX1 65 yJ6_bitCount_0f7a4 ∈ WS := mW 330 (by decide +kernel) (by decide +kernel)
theorem wM_X5_133 : Cond.methodLink RX5 133 yX3_canBeRound ∈ WS := mW 331 (by decide +kernel) (by decide +kernel)
theorem wI_X3_canBeRound : Cond.instanceMethod yX3_canBeRound ∈ WS := mW 332 (by decide +kernel) (by decide +kernel)
theorem wS_X3_canBeRound : Cond.selects RX3 yX3_canBeRound yX3_canBeRound ∈ WS := mW 333 (by decide +kernel) (by decide +kernel)
theorem wC_X3_canBeRound : Cond.code yX3_canBeRound cX3_canBeRound 5 (some .boolean) ∈ WS := mW 334 (by decide +kernel) (by decide +kernel)
theorem wM_X3_59 : Cond.methodLink RX3 59 yX1_after ∈ WS := mW 335 (by decide +kernel) (by decide +kernel)
theorem wI_X1_after : Cond.instanceMethod yX1_after ∈ WS := mW 336 (by decide +kernel) (by decide +kernel)
theorem wS_X1_after : Cond.selects RX1 yX1_after yX1_after ∈ WS := mW 337 (by decide +kernel) (by decide +kernel)
theorem wC_X1_after : Cond.code yX1_after cX1_after 5 (some .int) ∈ WS := mW 338 (by decide +kernel) (by decide +kernel)
theorem wM_X5_137 : Cond.methodLink RX5 137 yX3_addRound ∈ WS := mW 339 (by decide +kernel) (by decide +kernel)
theorem wI_X3_addRound : Cond.instanceMethod yX3_addRound ∈ WS := mW 340 (by decide +kernel) (by decide +kernel)
theorem wS_X3_addRound : Cond.selects RX3 yX3_addRound yX3_addRound ∈ WS := mW 341 (by decide +kernel) (by decide +kernel)
theorem wC_X3_addRound : Cond.code yX3_addRound cX3_addRound 5 none ∈ WS := mW 342 (by decide +kernel) (by decide +kernel)
theorem wM_X3_65 : Cond.methodLink RX3 65 yX3_rowOfRound ∈ WS := mW 343 (by decide +kernel) (by decide +kernel)
theorem wT_X3_rowOfRound : Cond.static yX3_rowOfRound ∈ WS := mW 344 (by decide +kernel) (by decide +kernel)
theorem wC_X3_rowOfRound : Cond.code yX3_rowOfRound cX3_rowOfRound 1 (some .int) ∈ WS := mW 345 (by decide +kernel) (by decide +kernel)
theorem wM_L_38 : Cond.methodLink RL 38 yX5_count ∈ WS := mW 346 (by decide +kernel) (by decide +kernel)
theorem wI_X5_count : Cond.instanceMethod yX5_count ∈ WS := mW 347 (by decide +kernel) (by decide +kernel)
theorem wS_X5_count : Cond.selects RX5 yX5_count yX5_count ∈ WS := mW 348 (by decide +kernel) (by decide +kernel)
theorem wC_X5_count : Cond.code yX5_count cX5_count 2 (some .int) ∈ WS := mW 349 (by decide +kernel) (by decide +kernel)
theorem wM_X5_215 : Cond.methodLink RX5 215 yX3_isCaught ∈ WS := mW 350 (by decide +kernel) (by decide +kernel)
theorem wI_X3_isCaught : Cond.instanceMethod yX3_isCaught ∈ WS := mW 351 (by decide +kernel) (by decide +kernel)
theorem wS_X3_isCaught : Cond.selects RX3 yX3_isCaught yX3_isCaught ∈ WS := mW 352 (by decide +kernel) (by decide +kernel)
theorem wC_X3_isCaught : Cond.code yX3_isCaught cX3_isCaught 1 (some .boolean) ∈ WS := mW 353 (by decide +kernel) (by decide +kernel)
theorem wM_L_85 : Cond.methodLink RL 85 yX5_undo ∈ WS := mW 354 (by decide +kernel) (by decide +kernel)
theorem wI_X5_undo : Cond.instanceMethod yX5_undo ∈ WS := mW 355 (by decide +kernel) (by decide +kernel)
theorem wS_X5_undo : Cond.selects RX5 yX5_undo yX5_undo ∈ WS := mW 356 (by decide +kernel) (by decide +kernel)
theorem wC_X5_undo : Cond.code yX5_undo cX5_undo 1 (some .int) ∈ WS := mW 357 (by decide +kernel) (by decide +kernel)
theorem wM_L_72 : Cond.methodLink RL 72 yL_cell ∈ WS := mW 358 (by decide +kernel) (by decide +kernel)
theorem wT_L_cell : Cond.static yL_cell ∈ WS := mW 359 (by decide +kernel) (by decide +kernel)
theorem wC_L_cell : Cond.code yL_cell cL_cell 2 (some .int) ∈ WS := mW 360 (by decide +kernel) (by decide +kernel)
theorem wN_L_7 : Cond.constant RL 7 (40692) ∈ WS := mW 361 (by decide +kernel) (by decide +kernel)
theorem wN_L_8 : Cond.constant RL 8 (2147483647) ∈ WS := mW 362 (by decide +kernel) (by decide +kernel)
theorem wM_L_76 : Cond.methodLink RL 76 yL_holds ∈ WS := mW 363 (by decide +kernel) (by decide +kernel)
theorem wT_L_holds : Cond.static yL_holds ∈ WS := mW 364 (by decide +kernel) (by decide +kernel)
theorem wC_L_holds : Cond.code yL_holds cL_holds 8 (some .boolean) ∈ WS := mW 365 (by decide +kernel) (by decide +kernel)
theorem wM_L_48 : Cond.methodLink RL 48 yX5_placeOf ∈ WS := mW 366 (by decide +kernel) (by decide +kernel)
theorem wI_X5_placeOf : Cond.instanceMethod yX5_placeOf ∈ WS := mW 367 (by decide +kernel) (by decide +kernel)
theorem wS_X5_placeOf : Cond.selects RX5 yX5_placeOf yX5_placeOf ∈ WS := mW 368 (by decide +kernel) (by decide +kernel)
theorem wC_X5_placeOf : Cond.code yX5_placeOf cX5_placeOf 3 (some .int) ∈ WS := mW 369 (by decide +kernel) (by decide +kernel)
theorem wM_X5_147 : Cond.methodLink RX5 147 yX3_reach ∈ WS := mW 370 (by decide +kernel) (by decide +kernel)
theorem wM_L_24 : Cond.methodLink RL 24 yL_bits ∈ WS := mW 371 (by decide +kernel) (by decide +kernel)
theorem wT_L_bits : Cond.static yL_bits ∈ WS := mW 372 (by decide +kernel) (by decide +kernel)
theorem wC_L_bits : Cond.code yL_bits cL_bits 3 (some .int) ∈ WS := mW 373 (by decide +kernel) (by decide +kernel)
theorem wM_L_9 : Cond.methodLink RL 9 yX5_behind ∈ WS := mW 374 (by decide +kernel) (by decide +kernel)
theorem wI_X5_behind : Cond.instanceMethod yX5_behind ∈ WS := mW 375 (by decide +kernel) (by decide +kernel)
theorem wS_X5_behind : Cond.selects RX5 yX5_behind yX5_behind ∈ WS := mW 376 (by decide +kernel) (by decide +kernel)
theorem wC_X5_behind : Cond.code yX5_behind cX5_behind 4 (some .int) ∈ WS := mW 377 (by decide +kernel) (by decide +kernel)
theorem wM_X5_163 : Cond.methodLink RX5 163 yX1_after ∈ WS := mW 378 (by decide +kernel) (by decide +kernel)
theorem wM_L_51 : Cond.methodLink RL 51 yX5_beliefs ∈ WS := mW 379 (by decide +kernel) (by decide +kernel)
theorem wI_X5_beliefs : Cond.instanceMethod yX5_beliefs ∈ WS := mW 380 (by decide +kernel) (by decide +kernel)
theorem wS_X5_beliefs : Cond.selects RX5 yX5_beliefs yX5_beliefs ∈ WS := mW 381 (by decide +kernel) (by decide +kernel)
theorem wC_X5_beliefs : Cond.code yX5_beliefs cX5_beliefs 2 (some .int) ∈ WS := mW 382 (by decide +kernel) (by decide +kernel)
theorem wM_X5_167 : Cond.methodLink RX5 167 yX5_standingHearing ∈ WS := mW 383 (by decide +kernel) (by decide +kernel)
theorem wI_X5_standingHearing : Cond.instanceMethod yX5_standingHearing ∈ WS := mW 385 (by decide +kernel) (by decide +kernel)
theorem wC_X5_standingHearing : Cond.code yX5_standingHearing cX5_standingHearing 1 (some (.object "BlindHunts$Hunt")) ∈ WS := mW 386 (by decide +kernel) (by decide +kernel)
theorem wM_X5_258 : Cond.methodLink RX5 258 yX0_solve ∈ WS := mW 387 (by decide +kernel) (by decide +kernel)
theorem wI_X0_solve : Cond.instanceMethod yX0_solve ∈ WS := mW 388 (by decide +kernel) (by decide +kernel)
theorem wS_X0_solve : Cond.selects RX0 yX0_solve yX0_solve ∈ WS := mW 389 (by decide +kernel) (by decide +kernel)
theorem wC_X0_solve : Cond.code yX0_solve cX0_solve 4 none ∈ WS := mW 390 (by decide +kernel) (by decide +kernel)
theorem wM_X0_25 : Cond.methodLink RX0 25 yX0_solveLevel ∈ WS := mW 391 (by decide +kernel) (by decide +kernel)
theorem wI_X0_solveLevel : Cond.instanceMethod yX0_solveLevel ∈ WS := mW 393 (by decide +kernel) (by decide +kernel)
theorem wC_X0_solveLevel : Cond.code yX0_solveLevel cX0_solveLevel 5 (some .boolean) ∈ WS := mW 394 (by decide +kernel) (by decide +kernel)
theorem wM_X0_34 : Cond.methodLink RX0 34 yX0_partsAreSure ∈ WS := mW 395 (by decide +kernel) (by decide +kernel)
theorem wI_X0_partsAreSure : Cond.instanceMethod yX0_partsAreSure ∈ WS := mW 397 (by decide +kernel) (by decide +kernel)
theorem wC_X0_partsAreSure : Cond.code yX0_partsAreSure cX0_partsAreSure 4 (some .boolean) ∈ WS := mW 398 (by decide +kernel) (by decide +kernel)
theorem wM_X0_38 : Cond.methodLink RX0 38 yX0_settle ∈ WS := mW 399 (by decide +kernel) (by decide +kernel)
theorem wI_X0_settle : Cond.instanceMethod yX0_settle ∈ WS := mW 401 (by decide +kernel) (by decide +kernel)
theorem wC_X0_settle : Cond.code yX0_settle cX0_settle 5 (some .boolean) ∈ WS := mW 402 (by decide +kernel) (by decide +kernel)
theorem wM_X0_48 : Cond.methodLink RX0 48 yX0_leadsLower ∈ WS := mW 403 (by decide +kernel) (by decide +kernel)
theorem wI_X0_leadsLower : Cond.instanceMethod yX0_leadsLower ∈ WS := mW 405 (by decide +kernel) (by decide +kernel)
theorem wC_X0_leadsLower : Cond.code yX0_leadsLower cX0_leadsLower 7 (some .boolean) ∈ WS := mW 406 (by decide +kernel) (by decide +kernel)
theorem wM_X0_52 : Cond.methodLink RX0 52 yX1_after ∈ WS := mW 407 (by decide +kernel) (by decide +kernel)
theorem wM_X5_188 : Cond.methodLink RX5 188 yX0_countSure ∈ WS := mW 408 (by decide +kernel) (by decide +kernel)
theorem wI_X0_countSure : Cond.instanceMethod yX0_countSure ∈ WS := mW 409 (by decide +kernel) (by decide +kernel)
theorem wS_X0_countSure : Cond.selects RX0 yX0_countSure yX0_countSure ∈ WS := mW 410 (by decide +kernel) (by decide +kernel)
theorem wC_X0_countSure : Cond.code yX0_countSure cX0_countSure 4 (some .int) ∈ WS := mW 411 (by decide +kernel) (by decide +kernel)
theorem wM_X5_191 : Cond.methodLink RX5 191 yX0_mostNeeded ∈ WS := mW 412 (by decide +kernel) (by decide +kernel)
theorem wI_X0_mostNeeded : Cond.instanceMethod yX0_mostNeeded ∈ WS := mW 413 (by decide +kernel) (by decide +kernel)
theorem wS_X0_mostNeeded : Cond.selects RX0 yX0_mostNeeded yX0_mostNeeded ∈ WS := mW 414 (by decide +kernel) (by decide +kernel)
theorem wC_X0_mostNeeded : Cond.code yX0_mostNeeded cX0_mostNeeded 4 (some .int) ∈ WS := mW 415 (by decide +kernel) (by decide +kernel)
theorem wM_X0_61 : Cond.methodLink RX0 61 Lib.Math.max.name ∈ WS := mW 416 (by decide +kernel) (by decide +kernel)
theorem wT_Math_max : Cond.static Lib.Math.max.name ∈ WS := mW 417 (by decide +kernel) (by decide +kernel)
theorem wC_Math_max : Cond.code Lib.Math.max.name Lib.Math.max.code 2 (some .int) ∈ WS := mW 418 (by decide +kernel) (by decide +kernel)
theorem wM_X5_194 : Cond.methodLink RX5 194 yX0_hardestBelief ∈ WS := mW 419 (by decide +kernel) (by decide +kernel)
theorem wI_X0_hardestBelief : Cond.instanceMethod yX0_hardestBelief ∈ WS := mW 420 (by decide +kernel) (by decide +kernel)
theorem wS_X0_hardestBelief : Cond.selects RX0 yX0_hardestBelief yX0_hardestBelief ∈ WS := mW 421 (by decide +kernel) (by decide +kernel)
theorem wC_X0_hardestBelief : Cond.code yX0_hardestBelief cX0_hardestBelief 4 (some .int) ∈ WS := mW 422 (by decide +kernel) (by decide +kernel)
theorem wM_X0_56 : Cond.methodLink RX0 56 yX0_mostNeeded ∈ WS := mW 423 (by decide +kernel) (by decide +kernel)
theorem wN_X0_60 : Cond.constant RX0 60 (-1000004) ∈ WS := mW 424 (by decide +kernel) (by decide +kernel)
theorem wM_X5_177 : Cond.methodLink RX5 177 yX5_standingUnhearing ∈ WS := mW 425 (by decide +kernel) (by decide +kernel)
theorem wI_X5_standingUnhearing : Cond.instanceMethod yX5_standingUnhearing ∈ WS := mW 427 (by decide +kernel) (by decide +kernel)
theorem wC_X5_standingUnhearing : Cond.code yX5_standingUnhearing cX5_standingUnhearing 1 (some (.object "BlindHunts$Hunt")) ∈ WS := mW 428 (by decide +kernel) (by decide +kernel)
theorem wM_L_80 : Cond.methodLink RL 80 yL_acts ∈ WS := mW 429 (by decide +kernel) (by decide +kernel)
theorem wT_L_acts : Cond.static yL_acts ∈ WS := mW 430 (by decide +kernel) (by decide +kernel)
theorem wC_L_acts : Cond.code yL_acts cL_acts 9 (some .boolean) ∈ WS := mW 431 (by decide +kernel) (by decide +kernel)
theorem wN_L_57 : Cond.constant RL 57 (-1000003) ∈ WS := mW 432 (by decide +kernel) (by decide +kernel)
theorem wM_L_61 : Cond.methodLink RL 61 yX5_shut ∈ WS := mW 433 (by decide +kernel) (by decide +kernel)
theorem wI_X5_shut : Cond.instanceMethod yX5_shut ∈ WS := mW 434 (by decide +kernel) (by decide +kernel)
theorem wS_X5_shut : Cond.selects RX5 yX5_shut yX5_shut ∈ WS := mW 435 (by decide +kernel) (by decide +kernel)
theorem wC_X5_shut : Cond.code yX5_shut cX5_shut 5 (some .int) ∈ WS := mW 436 (by decide +kernel) (by decide +kernel)
theorem wM_X5_99 : Cond.methodLink RX5 99 yX3_hasOpenRoad ∈ WS := mW 437 (by decide +kernel) (by decide +kernel)
theorem wI_X3_hasOpenRoad : Cond.instanceMethod yX3_hasOpenRoad ∈ WS := mW 438 (by decide +kernel) (by decide +kernel)
theorem wS_X3_hasOpenRoad : Cond.selects RX3 yX3_hasOpenRoad yX3_hasOpenRoad ∈ WS := mW 439 (by decide +kernel) (by decide +kernel)
theorem wC_X3_hasOpenRoad : Cond.code yX3_hasOpenRoad cX3_hasOpenRoad 3 (some .boolean) ∈ WS := mW 440 (by decide +kernel) (by decide +kernel)
theorem wM_X5_102 : Cond.methodLink RX5 102 yX3_turnRoad ∈ WS := mW 441 (by decide +kernel) (by decide +kernel)
theorem wM_L_64 : Cond.methodLink RL 64 yX5_set ∈ WS := mW 442 (by decide +kernel) (by decide +kernel)
theorem wI_X5_set : Cond.instanceMethod yX5_set ∈ WS := mW 443 (by decide +kernel) (by decide +kernel)
theorem wS_X5_set : Cond.selects RX5 yX5_set yX5_set ∈ WS := mW 444 (by decide +kernel) (by decide +kernel)
theorem wC_X5_set : Cond.code yX5_set cX5_set 4 (some .int) ∈ WS := mW 445 (by decide +kernel) (by decide +kernel)
theorem wM_X5_108 : Cond.methodLink RX5 108 yX5_isSetting ∈ WS := mW 446 (by decide +kernel) (by decide +kernel)
theorem wT_X5_isSetting : Cond.static yX5_isSetting ∈ WS := mW 447 (by decide +kernel) (by decide +kernel)
theorem wC_X5_isSetting : Cond.code yX5_isSetting cX5_isSetting 2 (some .boolean) ∈ WS := mW 448 (by decide +kernel) (by decide +kernel)
theorem wM_L_67 : Cond.methodLink RL 67 yL_hunts ∈ WS := mW 449 (by decide +kernel) (by decide +kernel)
theorem wT_L_hunts : Cond.static yL_hunts ∈ WS := mW 450 (by decide +kernel) (by decide +kernel)
theorem wC_L_hunts : Cond.code yL_hunts cL_hunts 15 (some .boolean) ∈ WS := mW 451 (by decide +kernel) (by decide +kernel)
theorem wM_L_15 : Cond.methodLink RL 15 yX5_sure ∈ WS := mW 452 (by decide +kernel) (by decide +kernel)
theorem wI_X5_sure : Cond.instanceMethod yX5_sure ∈ WS := mW 453 (by decide +kernel) (by decide +kernel)
theorem wS_X5_sure : Cond.selects RX5 yX5_sure yX5_sure ∈ WS := mW 454 (by decide +kernel) (by decide +kernel)
theorem wC_X5_sure : Cond.code yX5_sure cX5_sure 4 (some .int) ∈ WS := mW 455 (by decide +kernel) (by decide +kernel)
theorem wN_X5_150 : Cond.constant RX5 150 (-1000004) ∈ WS := mW 456 (by decide +kernel) (by decide +kernel)
theorem wN_L_19 : Cond.constant RL 19 (-1000004) ∈ WS := mW 457 (by decide +kernel) (by decide +kernel)
theorem wM_L_20 : Cond.methodLink RL 20 yX5_deaf ∈ WS := mW 458 (by decide +kernel) (by decide +kernel)
theorem wI_X5_deaf : Cond.instanceMethod yX5_deaf ∈ WS := mW 459 (by decide +kernel) (by decide +kernel)
theorem wS_X5_deaf : Cond.selects RX5 yX5_deaf yX5_deaf ∈ WS := mW 460 (by decide +kernel) (by decide +kernel)
theorem wC_X5_deaf : Cond.code yX5_deaf cX5_deaf 3 (some .int) ∈ WS := mW 461 (by decide +kernel) (by decide +kernel)
theorem wM_L_29 : Cond.methodLink RL 29 yL_nth ∈ WS := mW 462 (by decide +kernel) (by decide +kernel)
theorem wT_L_nth : Cond.static yL_nth ∈ WS := mW 463 (by decide +kernel) (by decide +kernel)
theorem wC_L_nth : Cond.code yL_nth cL_nth 4 (some .int) ∈ WS := mW 464 (by decide +kernel) (by decide +kernel)
theorem wM_L_35 : Cond.methodLink RL 35 yX5_memory ∈ WS := mW 465 (by decide +kernel) (by decide +kernel)
theorem wI_X5_memory : Cond.instanceMethod yX5_memory ∈ WS := mW 466 (by decide +kernel) (by decide +kernel)
theorem wS_X5_memory : Cond.selects RX5 yX5_memory yX5_memory ∈ WS := mW 467 (by decide +kernel) (by decide +kernel)
theorem wC_X5_memory : Cond.code yX5_memory cX5_memory 3 (some .int) ∈ WS := mW 468 (by decide +kernel) (by decide +kernel)
theorem wM_X5_180 : Cond.methodLink RX5 180 yX5_countComing ∈ WS := mW 469 (by decide +kernel) (by decide +kernel)
theorem wI_X5_countComing : Cond.instanceMethod yX5_countComing ∈ WS := mW 471 (by decide +kernel) (by decide +kernel)
theorem wC_X5_countComing : Cond.code yX5_countComing cX5_countComing 6 (some .int) ∈ WS := mW 472 (by decide +kernel) (by decide +kernel)
theorem wM_X5_262 : Cond.methodLink RX5 262 yX5_markNext ∈ WS := mW 473 (by decide +kernel) (by decide +kernel)
theorem wI_X5_markNext : Cond.instanceMethod yX5_markNext ∈ WS := mW 475 (by decide +kernel) (by decide +kernel)
theorem wC_X5_markNext : Cond.code yX5_markNext cX5_markNext 4 none ∈ WS := mW 476 (by decide +kernel) (by decide +kernel)
theorem wM_L_41 : Cond.methodLink RL 41 yL_signal ∈ WS := mW 477 (by decide +kernel) (by decide +kernel)
theorem wT_L_signal : Cond.static yL_signal ∈ WS := mW 478 (by decide +kernel) (by decide +kernel)
theorem wC_L_signal : Cond.code yL_signal cL_signal 5 (some .int) ∈ WS := mW 479 (by decide +kernel) (by decide +kernel)
theorem wN_L_84 : Cond.constant RL 84 (-1000002) ∈ WS := mW 480 (by decide +kernel) (by decide +kernel)
theorem wU_X0_0 : u_lay RX0 TX0 0 ∈ WS := mW 153 (by decide +kernel) (by decide +kernel)
theorem wU_X0_1 : u_lay RX0 TX0 1 ∈ WS := mW 155 (by decide +kernel) (by decide +kernel)
theorem wU_X0_2 : u_lay RX0 TX0 2 ∈ WS := mW 157 (by decide +kernel) (by decide +kernel)
theorem wU_X0_3 : u_lay RX0 TX0 3 ∈ WS := mW 159 (by decide +kernel) (by decide +kernel)
theorem inX0 : ∀ w ∈ u_ws RX0 TX0 4, w ∈ WS := List.forall_mem_cons.mpr ⟨wU_X0_0, List.forall_mem_cons.mpr ⟨wU_X0_1, List.forall_mem_cons.mpr ⟨wU_X0_2, List.forall_mem_cons.mpr ⟨wU_X0_3, fun _ h => absurd h List.not_mem_nil⟩⟩⟩⟩
theorem wU_X1_0 : u_lay RX1 TX1 0 ∈ WS := mW 128 (by decide +kernel) (by decide +kernel)
theorem wU_X1_1 : u_lay RX1 TX1 1 ∈ WS := mW 130 (by decide +kernel) (by decide +kernel)
theorem wU_X1_2 : u_lay RX1 TX1 2 ∈ WS := mW 132 (by decide +kernel) (by decide +kernel)
theorem wU_X1_3 : u_lay RX1 TX1 3 ∈ WS := mW 134 (by decide +kernel) (by decide +kernel)
theorem wU_X1_4 : u_lay RX1 TX1 4 ∈ WS := mW 136 (by decide +kernel) (by decide +kernel)
theorem wU_X1_5 : u_lay RX1 TX1 5 ∈ WS := mW 138 (by decide +kernel) (by decide +kernel)
theorem inX1 : ∀ w ∈ u_ws RX1 TX1 6, w ∈ WS := List.forall_mem_cons.mpr ⟨wU_X1_0, List.forall_mem_cons.mpr ⟨wU_X1_1, List.forall_mem_cons.mpr ⟨wU_X1_2, List.forall_mem_cons.mpr ⟨wU_X1_3, List.forall_mem_cons.mpr ⟨wU_X1_4, List.forall_mem_cons.mpr ⟨wU_X1_5, fun _ h => absurd h List.not_mem_nil⟩⟩⟩⟩⟩⟩
theorem wU_X2_0 : u_lay RX2 TX2 0 ∈ WS := mW 91 (by decide +kernel) (by decide +kernel)
theorem wU_X2_1 : u_lay RX2 TX2 1 ∈ WS := mW 93 (by decide +kernel) (by decide +kernel)
theorem wU_X2_2 : u_lay RX2 TX2 2 ∈ WS := mW 95 (by decide +kernel) (by decide +kernel)
theorem wU_X2_3 : u_lay RX2 TX2 3 ∈ WS := mW 97 (by decide +kernel) (by decide +kernel)
theorem wU_X2_4 : u_lay RX2 TX2 4 ∈ WS := mW 99 (by decide +kernel) (by decide +kernel)
theorem wU_X2_5 : u_lay RX2 TX2 5 ∈ WS := mW 101 (by decide +kernel) (by decide +kernel)
theorem wU_X2_6 : u_lay RX2 TX2 6 ∈ WS := mW 103 (by decide +kernel) (by decide +kernel)
theorem wU_X2_7 : u_lay RX2 TX2 7 ∈ WS := mW 105 (by decide +kernel) (by decide +kernel)
theorem wU_X2_8 : u_lay RX2 TX2 8 ∈ WS := mW 107 (by decide +kernel) (by decide +kernel)
theorem inX2 : ∀ w ∈ u_ws RX2 TX2 9, w ∈ WS := List.forall_mem_cons.mpr ⟨wU_X2_0, List.forall_mem_cons.mpr ⟨wU_X2_1, List.forall_mem_cons.mpr ⟨wU_X2_2, List.forall_mem_cons.mpr ⟨wU_X2_3, List.forall_mem_cons.mpr ⟨wU_X2_4, List.forall_mem_cons.mpr ⟨wU_X2_5, List.forall_mem_cons.mpr ⟨wU_X2_6, List.forall_mem_cons.mpr ⟨wU_X2_7, List.forall_mem_cons.mpr ⟨wU_X2_8, fun _ h => absurd h List.not_mem_nil⟩⟩⟩⟩⟩⟩⟩⟩⟩
theorem wU_X3_0 : u_lay RX3 TX3 0 ∈ WS := mW 60 (by decide +kernel) (by decide +kernel)
theorem wU_X3_1 : u_lay RX3 TX3 1 ∈ WS := mW 62 (by decide +kernel) (by decide +kernel)
theorem wU_X3_2 : u_lay RX3 TX3 2 ∈ WS := mW 64 (by decide +kernel) (by decide +kernel)
theorem wU_X3_3 : u_lay RX3 TX3 3 ∈ WS := mW 66 (by decide +kernel) (by decide +kernel)
theorem wU_X3_4 : u_lay RX3 TX3 4 ∈ WS := mW 68 (by decide +kernel) (by decide +kernel)
theorem wU_X3_5 : u_lay RX3 TX3 5 ∈ WS := mW 70 (by decide +kernel) (by decide +kernel)
theorem wU_X3_6 : u_lay RX3 TX3 6 ∈ WS := mW 72 (by decide +kernel) (by decide +kernel)
theorem wU_X3_7 : u_lay RX3 TX3 7 ∈ WS := mW 74 (by decide +kernel) (by decide +kernel)
theorem wU_X3_8 : u_lay RX3 TX3 8 ∈ WS := mW 76 (by decide +kernel) (by decide +kernel)
theorem wU_X3_9 : u_lay RX3 TX3 9 ∈ WS := mW 78 (by decide +kernel) (by decide +kernel)
theorem inX3 : ∀ w ∈ u_ws RX3 TX3 10, w ∈ WS := List.forall_mem_cons.mpr ⟨wU_X3_0, List.forall_mem_cons.mpr ⟨wU_X3_1, List.forall_mem_cons.mpr ⟨wU_X3_2, List.forall_mem_cons.mpr ⟨wU_X3_3, List.forall_mem_cons.mpr ⟨wU_X3_4, List.forall_mem_cons.mpr ⟨wU_X3_5, List.forall_mem_cons.mpr ⟨wU_X3_6, List.forall_mem_cons.mpr ⟨wU_X3_7, List.forall_mem_cons.mpr ⟨wU_X3_8, List.forall_mem_cons.mpr ⟨wU_X3_9, fun _ h => absurd h List.not_mem_nil⟩⟩⟩⟩⟩⟩⟩⟩⟩⟩
theorem wU_X4_0 : u_lay RX4 TX4 0 ∈ WS := mW 170 (by decide +kernel) (by decide +kernel)
theorem wU_X4_1 : u_lay RX4 TX4 1 ∈ WS := mW 172 (by decide +kernel) (by decide +kernel)
theorem inX4 : ∀ w ∈ u_ws RX4 TX4 2, w ∈ WS := List.forall_mem_cons.mpr ⟨wU_X4_0, List.forall_mem_cons.mpr ⟨wU_X4_1, fun _ h => absurd h List.not_mem_nil⟩⟩
theorem wU_X5_0 : u_lay RX5 TX5 0 ∈ WS := mW 189 (by decide +kernel) (by decide +kernel)
theorem wU_X5_1 : u_lay RX5 TX5 1 ∈ WS := mW 191 (by decide +kernel) (by decide +kernel)
theorem wU_X5_2 : u_lay RX5 TX5 2 ∈ WS := mW 193 (by decide +kernel) (by decide +kernel)
theorem wU_X5_3 : u_lay RX5 TX5 3 ∈ WS := mW 195 (by decide +kernel) (by decide +kernel)
theorem wU_X5_4 : u_lay RX5 TX5 4 ∈ WS := mW 197 (by decide +kernel) (by decide +kernel)
theorem wU_X5_5 : u_lay RX5 TX5 5 ∈ WS := mW 199 (by decide +kernel) (by decide +kernel)
theorem wU_X5_6 : u_lay RX5 TX5 6 ∈ WS := mW 201 (by decide +kernel) (by decide +kernel)
theorem wU_X5_7 : u_lay RX5 TX5 7 ∈ WS := mW 203 (by decide +kernel) (by decide +kernel)
theorem wU_X5_8 : u_lay RX5 TX5 8 ∈ WS := mW 205 (by decide +kernel) (by decide +kernel)
theorem wU_X5_9 : u_lay RX5 TX5 9 ∈ WS := mW 207 (by decide +kernel) (by decide +kernel)
theorem wU_X5_10 : u_lay RX5 TX5 10 ∈ WS := mW 209 (by decide +kernel) (by decide +kernel)
theorem wU_X5_11 : u_lay RX5 TX5 11 ∈ WS := mW 211 (by decide +kernel) (by decide +kernel)
theorem wU_X5_12 : u_lay RX5 TX5 12 ∈ WS := mW 213 (by decide +kernel) (by decide +kernel)
theorem inX5 : ∀ w ∈ u_ws RX5 TX5 13, w ∈ WS := List.forall_mem_cons.mpr ⟨wU_X5_0, List.forall_mem_cons.mpr ⟨wU_X5_1, List.forall_mem_cons.mpr ⟨wU_X5_2, List.forall_mem_cons.mpr ⟨wU_X5_3, List.forall_mem_cons.mpr ⟨wU_X5_4, List.forall_mem_cons.mpr ⟨wU_X5_5, List.forall_mem_cons.mpr ⟨wU_X5_6, List.forall_mem_cons.mpr ⟨wU_X5_7, List.forall_mem_cons.mpr ⟨wU_X5_8, List.forall_mem_cons.mpr ⟨wU_X5_9, List.forall_mem_cons.mpr ⟨wU_X5_10, List.forall_mem_cons.mpr ⟨wU_X5_11, List.forall_mem_cons.mpr ⟨wU_X5_12, fun _ h => absurd h List.not_mem_nil⟩⟩⟩⟩⟩⟩⟩⟩⟩⟩⟩⟩⟩
end
section
theorem q_d {cc : ByteArray} {rows : List (Nat × Instr × Nat)} (h : ∀ r ∈ rows, decode cc r.1 = .ok r.2) (i : Nat) {pc ln : Nat} {ins : Instr} (e : rows[i]? = some (pc, ins, ln)) : decode cc pc = .ok (ins, ln) := h (pc, ins, ln) (List.mem_of_getElem? e)
def rX0_init_0 : List (Nat × Instr × Nat) := [(0, .aload_n 0, 1), (1, .invokespecial 3, 3), (4, .aload_n 0, 1), (5, .sipush 128, 3), (8, .newarray .int, 2), (10, .putfield 9, 3), (13, .aload_n 0, 1), (14, .sipush 128, 3), (17, .newarray .int, 2), (19, .putfield 15, 3), (22, .aload_n 0, 1), (23, .iload_n 1, 1), (24, .putfield 18, 3), (27, .aload_n 0, 1), (28, .iload_n 2, 1), (29, .putfield 22, 3), (32, .return_, 1)]
set_option maxRecDepth 20000 in
theorem dX0_init_0 : ∀ r ∈ rX0_init_0, decode cX0_init r.1 = .ok r.2 := by decide +kernel
def rX0_solve_0 : List (Nat × Instr × Nat) := [(0, .iconst 0, 1), (1, .istore_n 2, 1), (2, .iload_n 2, 1), (3, .sipush 128, 3), (6, .if_icmp .ge 23, 3), (9, .aload_n 0, 1), (10, .getfield 9, 3), (13, .iload_n 2, 1), (14, .iconst (-1), 1), (15, .iastore, 1), (16, .aload_n 0, 1), (17, .getfield 15, 3), (20, .iload_n 2, 1), (21, .iconst 0, 1), (22, .iastore, 1), (23, .iinc 2 1, 3), (26, .goto (-24), 3), (29, .aload_n 0, 1), (30, .getfield 9, 3), (33, .iconst 0, 1), (34, .iconst 0, 1), (35, .iastore, 1), (36, .iconst 1, 1), (37, .istore_n 2, 1), (38, .iconst 1, 1), (39, .istore_n 3, 1), (40, .iload_n 3, 1), (41, .sipush 128, 3), (44, .if_icmp .ge 20, 3), (47, .iload_n 2, 1), (48, .ifCond .eq 16, 3), (51, .aload_n 0, 1), (52, .aload_n 1, 1), (53, .iload_n 3, 1), (54, .invokevirtual 25, 3), (57, .istore_n 2, 1), (58, .iinc 3 1, 3), (61, .goto (-21), 3), (64, .return_, 1)]
set_option maxRecDepth 20000 in
theorem dX0_solve_0 : ∀ r ∈ rX0_solve_0, decode cX0_solve r.1 = .ok r.2 := by decide +kernel
def rX0_solveLevel_0 : List (Nat × Instr × Nat) := [(0, .iconst 0, 1), (1, .istore_n 3, 1), (2, .iconst 1, 1), (3, .istore 4, 2), (5, .iload 4, 2), (7, .aload_n 1, 1), (8, .getfield 29, 3), (11, .if_icmp .ge 42, 3), (14, .aload_n 0, 1), (15, .getfield 9, 3), (18, .iload 4, 2), (20, .iaload, 1), (21, .iconst (-1), 1), (22, .if_icmp .ne 25, 3), (25, .aload_n 0, 1), (26, .iload 4, 2), (28, .invokevirtual 34, 3), (31, .ifCond .eq 16, 3), (34, .aload_n 0, 1), (35, .aload_n 1, 1), (36, .iload 4, 2), (38, .iload_n 2, 1), (39, .invokevirtual 38, 3), (42, .ifCond .eq 5, 3), (45, .iconst 1, 1), (46, .istore_n 3, 1), (47, .iinc 4 1, 3), (50, .goto (-45), 3), (53, .iload_n 3, 1), (54, .ireturn, 1)]
set_option maxRecDepth 20000 in
theorem dX0_solveLevel_0 : ∀ r ∈ rX0_solveLevel_0, decode cX0_solveLevel r.1 = .ok r.2 := by decide +kernel
def rX0_partsAreSure_0 : List (Nat × Instr × Nat) := [(0, .iconst 0, 1), (1, .istore_n 2, 1), (2, .iload_n 2, 1), (3, .bipush 7, 2), (5, .if_icmp .ge 46, 3), (8, .iload_n 1, 1), (9, .iload_n 2, 1), (10, .ishr, 1), (11, .iconst 1, 1), (12, .iand, 1), (13, .iconst 1, 1), (14, .if_icmp .ne 7, 3), (17, .iconst 1, 1), (18, .goto 4, 3), (21, .iconst 0, 1), (22, .istore_n 3, 1), (23, .iload_n 3, 1), (24, .ifCond .eq 21, 3), (27, .aload_n 0, 1), (28, .getfield 9, 3), (31, .iload_n 1, 1), (32, .iconst 1, 1), (33, .iload_n 2, 1), (34, .ishl, 1), (35, .iconst (-1), 1), (36, .ixor, 1), (37, .iand, 1), (38, .iaload, 1), (39, .iconst (-1), 1), (40, .if_icmp .ne 5, 3), (43, .iconst 0, 1), (44, .ireturn, 1), (45, .iinc 2 1, 3), (48, .goto (-46), 3), (51, .iconst 1, 1), (52, .ireturn, 1)]
set_option maxRecDepth 20000 in
theorem dX0_partsAreSure_0 : ∀ r ∈ rX0_partsAreSure_0, decode cX0_partsAreSure r.1 = .ok r.2 := by decide +kernel
def rX0_settle_0 : List (Nat × Instr × Nat) := [(0, .iconst 0, 1), (1, .istore 4, 2), (3, .iload 4, 2), (5, .aload_n 1, 1), (6, .getfield 42, 3), (9, .if_icmp .ge 48, 3), (12, .aload_n 0, 1), (13, .aload_n 1, 1), (14, .iload_n 2, 1), (15, .aload_n 1, 1), (16, .getfield 45, 3), (19, .iload 4, 2), (21, .iaload, 1), (22, .iload_n 3, 1), (23, .invokevirtual 48, 3), (26, .ifCond .eq 25, 3), (29, .aload_n 0, 1), (30, .getfield 9, 3), (33, .iload_n 2, 1), (34, .iload_n 3, 1), (35, .iastore, 1), (36, .aload_n 0, 1), (37, .getfield 15, 3), (40, .iload_n 2, 1), (41, .aload_n 1, 1), (42, .getfield 45, 3), (45, .iload 4, 2), (47, .iaload, 1), (48, .iastore, 1), (49, .iconst 1, 1), (50, .ireturn, 1), (51, .iinc 4 1, 3), (54, .goto (-51), 3), (57, .iconst 0, 1), (58, .ireturn, 1)]
set_option maxRecDepth 20000 in
theorem dX0_settle_0 : ∀ r ∈ rX0_settle_0, decode cX0_settle r.1 = .ok r.2 := by decide +kernel
def rX0_leadsLower_0 : List (Nat × Instr × Nat) := [(0, .aload_n 0, 1), (1, .getfield 18, 3), (4, .istore 5, 2), (6, .iload 5, 2), (8, .aload_n 0, 1), (9, .getfield 22, 3), (12, .if_icmp .gt 39, 3), (15, .aload_n 0, 1), (16, .getfield 9, 3), (19, .aload_n 1, 1), (20, .iload_n 2, 1), (21, .iload_n 3, 1), (22, .iload 5, 2), (24, .invokevirtual 52, 3), (27, .iaload, 1), (28, .istore 6, 2), (30, .iload 6, 2), (32, .iconst (-1), 1), (33, .if_icmp .eq 10, 3), (36, .iload 6, 2), (38, .iload 4, 2), (40, .if_icmp .lt 5, 3), (43, .iconst 0, 1), (44, .ireturn, 1), (45, .iinc 5 1, 3), (48, .goto (-42), 3), (51, .iconst 1, 1), (52, .ireturn, 1)]
set_option maxRecDepth 20000 in
theorem dX0_leadsLower_0 : ∀ r ∈ rX0_leadsLower_0, decode cX0_leadsLower r.1 = .ok r.2 := by decide +kernel
def rX0_countSure_0 : List (Nat × Instr × Nat) := [(0, .iconst 0, 1), (1, .istore_n 2, 1), (2, .iconst 1, 1), (3, .istore_n 3, 1), (4, .iload_n 3, 1), (5, .iload_n 1, 1), (6, .if_icmp .ge 22, 3), (9, .aload_n 0, 1), (10, .getfield 9, 3), (13, .iload_n 3, 1), (14, .iaload, 1), (15, .iconst (-1), 1), (16, .if_icmp .eq 6, 3), (19, .iinc 2 1, 3), (22, .iinc 3 1, 3), (25, .goto (-21), 3), (28, .iload_n 2, 1), (29, .ireturn, 1)]
set_option maxRecDepth 20000 in
theorem dX0_countSure_0 : ∀ r ∈ rX0_countSure_0, decode cX0_countSure r.1 = .ok r.2 := by decide +kernel
def rX0_hardestBelief_0 : List (Nat × Instr × Nat) := [(0, .aload_n 0, 1), (1, .iload_n 1, 1), (2, .invokevirtual 56, 3), (5, .istore_n 2, 1), (6, .iconst 1, 1), (7, .istore_n 3, 1), (8, .iload_n 3, 1), (9, .iload_n 1, 1), (10, .if_icmp .ge 21, 3), (13, .aload_n 0, 1), (14, .getfield 9, 3), (17, .iload_n 3, 1), (18, .iaload, 1), (19, .iload_n 2, 1), (20, .if_icmp .ne 5, 3), (23, .iload_n 3, 1), (24, .ireturn, 1), (25, .iinc 3 1, 3), (28, .goto (-20), 3), (31, .ldc 60, 2), (33, .ireturn, 1)]
set_option maxRecDepth 20000 in
theorem dX0_hardestBelief_0 : ∀ r ∈ rX0_hardestBelief_0, decode cX0_hardestBelief r.1 = .ok r.2 := by decide +kernel
def rX0_mostNeeded_0 : List (Nat × Instr × Nat) := [(0, .iconst 0, 1), (1, .istore_n 2, 1), (2, .iconst 1, 1), (3, .istore_n 3, 1), (4, .iload_n 3, 1), (5, .iload_n 1, 1), (6, .if_icmp .ge 20, 3), (9, .iload_n 2, 1), (10, .aload_n 0, 1), (11, .getfield 9, 3), (14, .iload_n 3, 1), (15, .iaload, 1), (16, .invokestatic 61, 3), (19, .istore_n 2, 1), (20, .iinc 3 1, 3), (23, .goto (-19), 3), (26, .iload_n 2, 1), (27, .ireturn, 1)]
set_option maxRecDepth 20000 in
theorem dX0_mostNeeded_0 : ∀ r ∈ rX0_mostNeeded_0, decode cX0_mostNeeded r.1 = .ok r.2 := by decide +kernel
def rX1_init_0 : List (Nat × Instr × Nat) := [(0, .aload_n 0, 1), (1, .invokespecial 3, 3), (4, .aload_n 0, 1), (5, .iconst 5, 1), (6, .sipush 128, 3), (9, .multianewarray 9 2, 4), (13, .putfield 11, 3), (16, .aload_n 0, 1), (17, .iconst 5, 1), (18, .newarray .int, 2), (20, .putfield 16, 3), (23, .aload_n 0, 1), (24, .sipush 128, 3), (27, .newarray .int, 2), (29, .putfield 20, 3), (32, .return_, 1)]
set_option maxRecDepth 20000 in
theorem dX1_init_0 : ∀ r ∈ rX1_init_0, decode cX1_init r.1 = .ok r.2 := by decide +kernel
def rX1_build_0 : List (Nat × Instr × Nat) := [(0, .aload_n 0, 1), (1, .aload_n 1, 1), (2, .invokevirtual 23, 3), (5, .putfield 29, 3), (8, .aload_n 0, 1), (9, .aload_n 1, 1), (10, .getfield 32, 3), (13, .iconst 0, 1), (14, .iaload, 1), (15, .iconst 3, 1), (16, .if_icmp .ne 7, 3), (19, .iconst 1, 1), (20, .goto 4, 3), (23, .iconst 0, 1), (24, .putfield 35, 3), (27, .iconst 0, 1), (28, .istore_n 2, 1), (29, .iload_n 2, 1), (30, .aload_n 1, 1), (31, .getfield 39, 3), (34, .if_icmp .ge 15, 3), (37, .aload_n 0, 1), (38, .aload_n 1, 1), (39, .iload_n 2, 1), (40, .invokevirtual 42, 3), (43, .iinc 2 1, 3), (46, .goto (-17), 3), (49, .aload_n 0, 1), (50, .aload_n 1, 1), (51, .getfield 32, 3), (54, .iconst 2, 1), (55, .iaload, 1), (56, .invokevirtual 46, 3), (59, .return_, 1)]
set_option maxRecDepth 20000 in
theorem dX1_build_0 : ∀ r ∈ rX1_build_0, decode cX1_build r.1 = .ok r.2 := by decide +kernel
def rX1_buildPlace_0 : List (Nat × Instr × Nat) := [(0, .aload_n 1, 1), (1, .iload_n 2, 1), (2, .invokevirtual 50, 3), (5, .istore_n 3, 1), (6, .iconst 0, 1), (7, .istore 4, 2), (9, .iload 4, 2), (11, .iconst 4, 1), (12, .if_icmp .ge 17, 3), (15, .aload_n 0, 1), (16, .getfield 16, 3), (19, .iload 4, 2), (21, .iconst 0, 1), (22, .iastore, 1), (23, .iinc 4 1, 3), (26, .goto (-17), 3), (29, .aload_n 0, 1), (30, .getfield 16, 3), (33, .iconst 4, 1), (34, .iload_n 3, 1), (35, .iastore, 1), (36, .iconst 0, 1), (37, .istore 4, 2), (39, .iload 4, 2), (41, .aload_n 1, 1), (42, .getfield 39, 3), (45, .if_icmp .ge 38, 3), (48, .iload_n 3, 1), (49, .iload 4, 2), (51, .ishr, 1), (52, .iconst 1, 1), (53, .iand, 1), (54, .iconst 1, 1), (55, .if_icmp .ne 22, 3), (58, .aload_n 0, 1), (59, .getfield 16, 3), (62, .aload_n 1, 1), (63, .iload_n 2, 1), (64, .iload 4, 2), (66, .invokevirtual 54, 3)]
set_option maxRecDepth 20000 in
theorem dX1_buildPlace_0 : ∀ r ∈ rX1_buildPlace_0, decode cX1_buildPlace r.1 = .ok r.2 := by decide +kernel
def rX1_buildPlace_1 : List (Nat × Instr × Nat) := [(69, .dup2, 1), (70, .iaload, 1), (71, .iconst 1, 1), (72, .iload 4, 2), (74, .ishl, 1), (75, .ior, 1), (76, .iastore, 1), (77, .iinc 4 1, 3), (80, .goto (-41), 3), (83, .iconst 0, 1), (84, .istore 4, 2), (86, .iload 4, 2), (88, .iconst 4, 1), (89, .if_icmp .gt 18, 3), (92, .aload_n 0, 1), (93, .iload 4, 2), (95, .iconst 1, 1), (96, .iload_n 2, 1), (97, .ishl, 1), (98, .invokevirtual 58, 3), (101, .iinc 4 1, 3), (104, .goto (-18), 3), (107, .return_, 1)]
set_option maxRecDepth 20000 in
theorem dX1_buildPlace_1 : ∀ r ∈ rX1_buildPlace_1, decode cX1_buildPlace r.1 = .ok r.2 := by decide +kernel
def rX1_spread_0 : List (Nat × Instr × Nat) := [(0, .iconst 0, 1), (1, .istore_n 3, 1), (2, .iload_n 3, 1), (3, .iload_n 2, 1), (4, .if_icmp .ge 34, 3), (7, .aload_n 0, 1), (8, .getfield 11, 3), (11, .iload_n 1, 1), (12, .aaload, 1), (13, .iload_n 3, 1), (14, .iload_n 2, 1), (15, .ior, 1), (16, .aload_n 0, 1), (17, .getfield 11, 3), (20, .iload_n 1, 1), (21, .aaload, 1), (22, .iload_n 3, 1), (23, .iaload, 1), (24, .aload_n 0, 1), (25, .getfield 16, 3), (28, .iload_n 1, 1), (29, .iaload, 1), (30, .ior, 1), (31, .iastore, 1), (32, .iinc 3 1, 3), (35, .goto (-33), 3), (38, .return_, 1)]
set_option maxRecDepth 20000 in
theorem dX1_spread_0 : ∀ r ∈ rX1_spread_0, decode cX1_spread r.1 = .ok r.2 := by decide +kernel
def rX1_listChecks_0 : List (Nat × Instr × Nat) := [(0, .aload_n 0, 1), (1, .iconst 0, 1), (2, .putfield 62, 3), (5, .iconst 0, 1), (6, .istore_n 2, 1), (7, .iload_n 2, 1), (8, .aload_n 0, 1), (9, .getfield 29, 3), (12, .if_icmp .ge 37, 3), (15, .iload_n 2, 1), (16, .invokestatic 65, 3), (19, .iload_n 1, 1), (20, .if_icmp .gt 23, 3), (23, .aload_n 0, 1), (24, .getfield 20, 3), (27, .aload_n 0, 1), (28, .getfield 62, 3), (31, .iload_n 2, 1), (32, .iastore, 1), (33, .aload_n 0, 1), (34, .dup, 1), (35, .getfield 62, 3), (38, .iconst 1, 1), (39, .iadd, 1), (40, .putfield 62, 3), (43, .iinc 2 1, 3), (46, .goto (-39), 3), (49, .return_, 1)]
set_option maxRecDepth 20000 in
theorem dX1_listChecks_0 : ∀ r ∈ rX1_listChecks_0, decode cX1_listChecks r.1 = .ok r.2 := by decide +kernel
def rX1_after_0 : List (Nat × Instr × Nat) := [(0, .aload_n 0, 1), (1, .getfield 11, 3), (4, .iload_n 3, 1), (5, .aaload, 1), (6, .iload_n 1, 1), (7, .iload_n 2, 1), (8, .iconst (-1), 1), (9, .ixor, 1), (10, .iand, 1), (11, .iaload, 1), (12, .istore 4, 2), (14, .aload_n 0, 1), (15, .getfield 35, 3), (18, .ifCond .eq 12, 3), (21, .iload 4, 2), (23, .iload_n 2, 1), (24, .iconst (-1), 1), (25, .ixor, 1), (26, .iand, 1), (27, .goto 5, 3), (30, .iload 4, 2), (32, .ireturn, 1)]
set_option maxRecDepth 20000 in
theorem dX1_after_0 : ∀ r ∈ rX1_after_0, decode cX1_after r.1 = .ok r.2 := by decide +kernel
def rX2_init_0 : List (Nat × Instr × Nat) := [(0, .aload_n 0, 1), (1, .invokespecial 3, 3), (4, .aload_n 0, 1), (5, .bipush 60, 2), (7, .newarray .char, 2), (9, .putfield 9, 3), (12, .return_, 1)]
set_option maxRecDepth 20000 in
theorem dX2_init_0 : ∀ r ∈ rX2_init_0, decode cX2_init r.1 = .ok r.2 := by decide +kernel
def rX3_init_0 : List (Nat × Instr × Nat) := [(0, .aload_n 0, 1), (1, .invokespecial 3, 3), (4, .aload_n 0, 1), (5, .bipush 7, 2), (7, .newarray .int, 2), (9, .putfield 9, 3), (12, .aload_n 0, 1), (13, .bipush 7, 2), (15, .newarray .int, 2), (17, .putfield 15, 3), (20, .aload_n 0, 1), (21, .bipush 7, 2), (23, .newarray .int, 2), (25, .putfield 18, 3), (28, .aload_n 0, 1), (29, .iconst 3, 1), (30, .newarray .int, 2), (32, .putfield 21, 3), (35, .aload_n 0, 1), (36, .bipush 8, 2), (38, .newarray .int, 2), (40, .putfield 24, 3), (43, .aload_n 0, 1), (44, .bipush 8, 2), (46, .newarray .int, 2), (48, .putfield 27, 3), (51, .aload_n 0, 1), (52, .bipush 8, 2), (54, .newarray .int, 2), (56, .putfield 30, 3), (59, .aload_n 0, 1), (60, .getfield 21, 3), (63, .iconst 2, 1), (64, .iconst 1, 1), (65, .iastore, 1), (66, .return_, 1)]
set_option maxRecDepth 20000 in
theorem dX3_init_0 : ∀ r ∈ rX3_init_0, decode cX3_init r.1 = .ok r.2 := by decide +kernel
def rX3_takeFrom_0 : List (Nat × Instr × Nat) := [(0, .aload_n 0, 1), (1, .aload_n 1, 1), (2, .getfield 33, 3), (5, .putfield 33, 3), (8, .aload_n 0, 1), (9, .aload_n 1, 1), (10, .getfield 37, 3), (13, .putfield 37, 3), (16, .aload_n 0, 1), (17, .aload_n 1, 1), (18, .getfield 40, 3), (21, .putfield 40, 3), (24, .iconst 0, 1), (25, .istore_n 2, 1), (26, .iload_n 2, 1), (27, .bipush 7, 2), (29, .if_icmp .ge 45, 3), (32, .aload_n 0, 1), (33, .getfield 9, 3), (36, .iload_n 2, 1), (37, .aload_n 1, 1), (38, .getfield 9, 3), (41, .iload_n 2, 1), (42, .iaload, 1), (43, .iastore, 1), (44, .aload_n 0, 1), (45, .getfield 15, 3), (48, .iload_n 2, 1), (49, .aload_n 1, 1), (50, .getfield 15, 3), (53, .iload_n 2, 1), (54, .iaload, 1), (55, .iastore, 1), (56, .aload_n 0, 1), (57, .getfield 18, 3), (60, .iload_n 2, 1), (61, .aload_n 1, 1), (62, .getfield 18, 3), (65, .iload_n 2, 1), (66, .iaload, 1)]
set_option maxRecDepth 20000 in
theorem dX3_takeFrom_0 : ∀ r ∈ rX3_takeFrom_0, decode cX3_takeFrom r.1 = .ok r.2 := by decide +kernel
def rX3_takeFrom_1 : List (Nat × Instr × Nat) := [(67, .iastore, 1), (68, .iinc 2 1, 3), (71, .goto (-45), 3), (74, .iconst 0, 1), (75, .istore_n 2, 1), (76, .iload_n 2, 1), (77, .iconst 3, 1), (78, .if_icmp .ge 21, 3), (81, .aload_n 0, 1), (82, .getfield 21, 3), (85, .iload_n 2, 1), (86, .aload_n 1, 1), (87, .getfield 21, 3), (90, .iload_n 2, 1), (91, .iaload, 1), (92, .iastore, 1), (93, .iinc 2 1, 3), (96, .goto (-20), 3), (99, .iconst 0, 1), (100, .istore_n 2, 1), (101, .iload_n 2, 1), (102, .bipush 8, 2), (104, .if_icmp .ge 45, 3), (107, .aload_n 0, 1), (108, .getfield 24, 3), (111, .iload_n 2, 1), (112, .aload_n 1, 1), (113, .getfield 24, 3), (116, .iload_n 2, 1), (117, .iaload, 1), (118, .iastore, 1), (119, .aload_n 0, 1), (120, .getfield 27, 3), (123, .iload_n 2, 1), (124, .aload_n 1, 1), (125, .getfield 27, 3), (128, .iload_n 2, 1), (129, .iaload, 1), (130, .iastore, 1), (131, .aload_n 0, 1)]
set_option maxRecDepth 20000 in
theorem dX3_takeFrom_1 : ∀ r ∈ rX3_takeFrom_1, decode cX3_takeFrom r.1 = .ok r.2 := by decide +kernel
def rX3_takeFrom_2 : List (Nat × Instr × Nat) := [(132, .getfield 30, 3), (135, .iload_n 2, 1), (136, .aload_n 1, 1), (137, .getfield 30, 3), (140, .iload_n 2, 1), (141, .iaload, 1), (142, .iastore, 1), (143, .iinc 2 1, 3), (146, .goto (-45), 3), (149, .return_, 1)]
set_option maxRecDepth 20000 in
theorem dX3_takeFrom_2 : ∀ r ∈ rX3_takeFrom_2, decode cX3_takeFrom r.1 = .ok r.2 := by decide +kernel
def rX3_sets_0 : List (Nat × Instr × Nat) := [(0, .iconst 1, 1), (1, .aload_n 0, 1), (2, .getfield 33, 3), (5, .ishl, 1), (6, .ireturn, 1)]
set_option maxRecDepth 20000 in
theorem dX3_sets_0 : ∀ r ∈ rX3_sets_0, decode cX3_sets r.1 = .ok r.2 := by decide +kernel
def rX3_addPlace_0 : List (Nat × Instr × Nat) := [(0, .aload_n 0, 1), (1, .getfield 9, 3), (4, .aload_n 0, 1), (5, .getfield 33, 3), (8, .iload_n 1, 1), (9, .iastore, 1), (10, .aload_n 0, 1), (11, .dup, 1), (12, .getfield 33, 3), (15, .iconst 1, 1), (16, .iadd, 1), (17, .putfield 33, 3), (20, .aload_n 0, 1), (21, .getfield 33, 3), (24, .iconst 1, 1), (25, .isub, 1), (26, .ireturn, 1)]
set_option maxRecDepth 20000 in
theorem dX3_addPlace_0 : ∀ r ∈ rX3_addPlace_0, decode cX3_addPlace r.1 = .ok r.2 := by decide +kernel
def rX3_hasRoad_0 : List (Nat × Instr × Nat) := [(0, .aload_n 0, 1), (1, .getfield 15, 3), (4, .iload_n 1, 1), (5, .iaload, 1), (6, .iload_n 2, 1), (7, .ishr, 1), (8, .iconst 1, 1), (9, .iand, 1), (10, .iconst 1, 1), (11, .if_icmp .ne 7, 3), (14, .iconst 1, 1), (15, .goto 4, 3), (18, .iconst 0, 1), (19, .ireturn, 1)]
set_option maxRecDepth 20000 in
theorem dX3_hasRoad_0 : ∀ r ∈ rX3_hasRoad_0, decode cX3_hasRoad r.1 = .ok r.2 := by decide +kernel
def rX3_hasOpenRoad_0 : List (Nat × Instr × Nat) := [(0, .aload_n 0, 1), (1, .getfield 18, 3), (4, .iload_n 1, 1), (5, .iaload, 1), (6, .iload_n 2, 1), (7, .ishr, 1), (8, .iconst 1, 1), (9, .iand, 1), (10, .iconst 1, 1), (11, .if_icmp .ne 7, 3), (14, .iconst 1, 1), (15, .goto 4, 3), (18, .iconst 0, 1), (19, .ireturn, 1)]
set_option maxRecDepth 20000 in
theorem dX3_hasOpenRoad_0 : ∀ r ∈ rX3_hasOpenRoad_0, decode cX3_hasOpenRoad r.1 = .ok r.2 := by decide +kernel
def rX3_addRoad_0 : List (Nat × Instr × Nat) := [(0, .aload_n 0, 1), (1, .getfield 15, 3), (4, .iload_n 1, 1), (5, .dup2, 1), (6, .iaload, 1), (7, .iconst 1, 1), (8, .iload_n 2, 1), (9, .ishl, 1), (10, .ior, 1), (11, .iastore, 1), (12, .aload_n 0, 1), (13, .getfield 15, 3), (16, .iload_n 2, 1), (17, .dup2, 1), (18, .iaload, 1), (19, .iconst 1, 1), (20, .iload_n 1, 1), (21, .ishl, 1), (22, .ior, 1), (23, .iastore, 1), (24, .aload_n 0, 1), (25, .iload_n 1, 1), (26, .iload_n 2, 1), (27, .invokevirtual 43, 3), (30, .return_, 1)]
set_option maxRecDepth 20000 in
theorem dX3_addRoad_0 : ∀ r ∈ rX3_addRoad_0, decode cX3_addRoad r.1 = .ok r.2 := by decide +kernel
def rX3_turnRoad_0 : List (Nat × Instr × Nat) := [(0, .aload_n 0, 1), (1, .getfield 18, 3), (4, .iload_n 1, 1), (5, .dup2, 1), (6, .iaload, 1), (7, .iconst 1, 1), (8, .iload_n 2, 1), (9, .ishl, 1), (10, .ixor, 1), (11, .iastore, 1), (12, .aload_n 0, 1), (13, .getfield 18, 3), (16, .iload_n 2, 1), (17, .dup2, 1), (18, .iaload, 1), (19, .iconst 1, 1), (20, .iload_n 1, 1), (21, .ishl, 1), (22, .ixor, 1), (23, .iastore, 1), (24, .return_, 1)]
set_option maxRecDepth 20000 in
theorem dX3_turnRoad_0 : ∀ r ∈ rX3_turnRoad_0, decode cX3_turnRoad r.1 = .ok r.2 := by decide +kernel
def rX3_countRoads_0 : List (Nat × Instr × Nat) := [(0, .iconst 0, 1), (1, .istore_n 2, 1), (2, .iconst 0, 1), (3, .istore_n 3, 1), (4, .iload_n 3, 1), (5, .aload_n 0, 1), (6, .getfield 33, 3), (9, .if_icmp .ge 18, 3), (12, .iload_n 2, 1), (13, .aload_n 1, 1), (14, .iload_n 3, 1), (15, .iaload, 1), (16, .invokestatic 47, 3), (19, .iadd, 1), (20, .istore_n 2, 1), (21, .iinc 3 1, 3), (24, .goto (-20), 3), (27, .iload_n 2, 1), (28, .iconst 2, 1), (29, .idiv, 1), (30, .ireturn, 1)]
set_option maxRecDepth 20000 in
theorem dX3_countRoads_0 : ∀ r ∈ rX3_countRoads_0, decode cX3_countRoads r.1 = .ok r.2 := by decide +kernel
def rX3_reach_0 : List (Nat × Instr × Nat) := [(0, .aload_n 0, 1), (1, .getfield 18, 3), (4, .iload_n 1, 1), (5, .iaload, 1), (6, .istore_n 2, 1), (7, .iconst 1, 1), (8, .iload_n 1, 1), (9, .ishl, 1), (10, .istore_n 3, 1), (11, .aload_n 0, 1), (12, .getfield 21, 3), (15, .iconst 0, 1), (16, .iaload, 1), (17, .istore 4, 2), (19, .iload_n 2, 1), (20, .ifCond .ne 5, 3), (23, .iload_n 3, 1), (24, .ireturn, 1), (25, .iload 4, 2), (27, .ifCond .ne 5, 3), (30, .iload_n 2, 1), (31, .ireturn, 1), (32, .iload 4, 2), (34, .iconst 2, 1), (35, .if_icmp .eq 7, 3), (38, .iload_n 2, 1), (39, .iload_n 3, 1), (40, .ior, 1), (41, .ireturn, 1), (42, .iload_n 2, 1), (43, .istore 5, 2), (45, .iconst 0, 1), (46, .istore 6, 2), (48, .iload 6, 2), (50, .aload_n 0, 1), (51, .getfield 33, 3), (54, .if_icmp .ge 31, 3), (57, .iload_n 2, 1), (58, .iload 6, 2), (60, .ishr, 1)]
set_option maxRecDepth 20000 in
theorem dX3_reach_0 : ∀ r ∈ rX3_reach_0, decode cX3_reach r.1 = .ok r.2 := by decide +kernel
def rX3_reach_1 : List (Nat × Instr × Nat) := [(61, .iconst 1, 1), (62, .iand, 1), (63, .iconst 1, 1), (64, .if_icmp .ne 15, 3), (67, .iload 5, 2), (69, .aload_n 0, 1), (70, .getfield 18, 3), (73, .iload 6, 2), (75, .iaload, 1), (76, .ior, 1), (77, .istore 5, 2), (79, .iinc 6 1, 3), (82, .goto (-34), 3), (85, .iload 5, 2), (87, .ireturn, 1)]
set_option maxRecDepth 20000 in
theorem dX3_reach_1 : ∀ r ∈ rX3_reach_1, decode cX3_reach r.1 = .ok r.2 := by decide +kernel
def rX3_signalOf_0 : List (Nat × Instr × Nat) := [(0, .aload_n 0, 1), (1, .getfield 21, 3), (4, .iconst 1, 1), (5, .iaload, 1), (6, .tableswitch 46 0 2 #[26, 28, 35], 26), (32, .iconst 0, 1), (33, .ireturn, 1), (34, .aload_n 0, 1), (35, .getfield 9, 3), (38, .iload_n 2, 1), (39, .iaload, 1), (40, .ireturn, 1), (41, .iload_n 1, 1), (42, .iload_n 2, 1), (43, .if_icmp .ne 7, 3), (46, .iconst 0, 1), (47, .goto 4, 3), (50, .iconst 1, 1), (51, .ireturn, 1), (52, .aload_n 0, 1), (53, .getfield 18, 3), (56, .iload_n 2, 1), (57, .iaload, 1), (58, .invokestatic 47, 3), (61, .iconst 3, 1), (62, .invokestatic 53, 3), (65, .ireturn, 1)]
set_option maxRecDepth 20000 in
theorem dX3_signalOf_0 : ∀ r ∈ rX3_signalOf_0, decode cX3_signalOf r.1 = .ok r.2 := by decide +kernel
def rX3_isCaught_0 : List (Nat × Instr × Nat) := [(0, .aload_n 0, 1), (1, .getfield 40, 3), (4, .ifCond .le 14, 3), (7, .aload_n 0, 1), (8, .getfield 37, 3), (11, .ifCond .ne 7, 3), (14, .iconst 1, 1), (15, .goto 4, 3), (18, .iconst 0, 1), (19, .ireturn, 1)]
set_option maxRecDepth 20000 in
theorem dX3_isCaught_0 : ∀ r ∈ rX3_isCaught_0, decode cX3_isCaught r.1 = .ok r.2 := by decide +kernel
def rX3_rowOfRound_0 : List (Nat × Instr × Nat) := [(0, .iload_n 0, 1), (1, .bipush 7, 2), (3, .iand, 1), (4, .ireturn, 1)]
set_option maxRecDepth 20000 in
theorem dX3_rowOfRound_0 : ∀ r ∈ rX3_rowOfRound_0, decode cX3_rowOfRound r.1 = .ok r.2 := by decide +kernel
def rX3_canBeRound_0 : List (Nat × Instr × Nat) := [(0, .aload_n 0, 1), (1, .getfield 37, 3), (4, .ifCond .ne 5, 3), (7, .iconst 0, 1), (8, .ireturn, 1), (9, .aload_n 0, 1), (10, .getfield 37, 3), (13, .iload_n 2, 1), (14, .iconst (-1), 1), (15, .ixor, 1), (16, .iand, 1), (17, .ifCond .ne 7, 3), (20, .iconst 1, 1), (21, .goto 4, 3), (24, .iconst 0, 1), (25, .istore 4, 2), (27, .iload 4, 2), (29, .ifCond .ne 16, 3), (32, .aload_n 1, 1), (33, .aload_n 0, 1), (34, .getfield 37, 3), (37, .iload_n 2, 1), (38, .iload_n 3, 1), (39, .invokevirtual 59, 3), (42, .ifCond .eq 7, 3), (45, .iconst 1, 1), (46, .goto 4, 3), (49, .iconst 0, 1), (50, .ireturn, 1)]
set_option maxRecDepth 20000 in
theorem dX3_canBeRound_0 : ∀ r ∈ rX3_canBeRound_0, decode cX3_canBeRound r.1 = .ok r.2 := by decide +kernel
def rX3_addRound_0 : List (Nat × Instr × Nat) := [(0, .aload_n 0, 1), (1, .aload_n 1, 1), (2, .aload_n 0, 1), (3, .getfield 37, 3), (6, .iload_n 2, 1), (7, .iload_n 3, 1), (8, .invokevirtual 59, 3), (11, .putfield 37, 3), (14, .aload_n 0, 1), (15, .getfield 40, 3), (18, .invokestatic 65, 3), (21, .istore 4, 2), (23, .aload_n 0, 1), (24, .getfield 24, 3), (27, .iload 4, 2), (29, .iload_n 2, 1), (30, .iastore, 1), (31, .aload_n 0, 1), (32, .getfield 27, 3), (35, .iload 4, 2), (37, .iload_n 3, 1), (38, .iastore, 1), (39, .aload_n 0, 1), (40, .getfield 30, 3), (43, .iload 4, 2), (45, .aload_n 0, 1), (46, .getfield 37, 3), (49, .iastore, 1), (50, .aload_n 0, 1), (51, .dup, 1), (52, .getfield 40, 3), (55, .iconst 1, 1), (56, .iadd, 1), (57, .putfield 40, 3), (60, .return_, 1)]
set_option maxRecDepth 20000 in
theorem dX3_addRound_0 : ∀ r ∈ rX3_addRound_0, decode cX3_addRound r.1 = .ok r.2 := by decide +kernel
def rX4_init_0 : List (Nat × Instr × Nat) := [(0, .aload_n 0, 1), (1, .invokespecial 3, 3), (4, .aload_n 0, 1), (5, .bipush 7, 2), (7, .newarray .long, 2), (9, .putfield 9, 3), (12, .aload_n 0, 1), (13, .bipush 7, 2), (15, .newarray .long, 2), (17, .putfield 15, 3), (20, .return_, 1)]
set_option maxRecDepth 20000 in
theorem dX4_init_0 : ∀ r ∈ rX4_init_0, decode cX4_init r.1 = .ok r.2 := by decide +kernel
def rX5_init_0 : List (Nat × Instr × Nat) := [(0, .aload_n 0, 1), (1, .invokespecial 1, 3), (4, .aload_n 0, 1), (5, .new 7, 3), (8, .dup, 1), (9, .invokespecial 9, 3), (12, .putfield 10, 3), (15, .aload_n 0, 1), (16, .new 7, 3), (19, .dup, 1), (20, .invokespecial 9, 3), (23, .putfield 16, 3), (26, .aload_n 0, 1), (27, .iconst 4, 1), (28, .anewarray 7, 3), (31, .putfield 19, 3), (34, .aload_n 0, 1), (35, .new 23, 3), (38, .dup, 1), (39, .invokespecial 25, 3), (42, .putfield 26, 3), (45, .aload_n 0, 1), (46, .new 30, 3), (49, .dup, 1), (50, .invokespecial 32, 3), (53, .putfield 33, 3), (56, .aload_n 0, 1), (57, .new 37, 3), (60, .dup, 1), (61, .iconst 0, 1), (62, .iconst 3, 1), (63, .invokespecial 39, 3), (66, .putfield 42, 3), (69, .aload_n 0, 1), (70, .new 37, 3), (73, .dup, 1), (74, .iconst 4, 1), (75, .iconst 4, 1), (76, .invokespecial 39, 3), (79, .putfield 46, 3)]
set_option maxRecDepth 20000 in
theorem dX5_init_0 : ∀ r ∈ rX5_init_0, decode cX5_init r.1 = .ok r.2 := by decide +kernel
def rX5_init_1 : List (Nat × Instr × Nat) := [(82, .aload_n 0, 1), (83, .new 49, 3), (86, .dup, 1), (87, .invokespecial 51, 3), (90, .putfield 52, 3), (93, .aload_n 0, 1), (94, .sipush 128, 3), (97, .newarray .boolean, 2), (99, .putfield 56, 3), (102, .iconst 0, 1), (103, .istore_n 1, 1), (104, .iload_n 1, 1), (105, .iconst 4, 1), (106, .if_icmp .ge 22, 3), (109, .aload_n 0, 1), (110, .getfield 19, 3), (113, .iload_n 1, 1), (114, .new 7, 3), (117, .dup, 1), (118, .invokespecial 9, 3), (121, .aastore, 1), (122, .iinc 1 1, 3), (125, .goto (-21), 3), (128, .return_, 1)]
set_option maxRecDepth 20000 in
theorem dX5_init_1 : ∀ r ∈ rX5_init_1, decode cX5_init r.1 = .ok r.2 := by decide +kernel
def rX5_place_0 : List (Nat × Instr × Nat) := [(0, .iload_n 1, 1), (1, .iconst 0, 1), (2, .iconst 3, 1), (3, .invokestatic 60, 3), (6, .ifCond .ne 6, 3), (9, .ldc 64, 2), (11, .ireturn, 1), (12, .aload_n 0, 1), (13, .getfield 10, 3), (16, .getfield 65, 3), (19, .bipush 7, 2), (21, .if_icmp .lt 6, 3), (24, .ldc 69, 2), (26, .ireturn, 1), (27, .aload_n 0, 1), (28, .invokevirtual 70, 3), (31, .aload_n 0, 1), (32, .invokevirtual 73, 3), (35, .aload_n 0, 1), (36, .getfield 10, 3), (39, .iload_n 1, 1), (40, .invokevirtual 76, 3), (43, .ireturn, 1)]
set_option maxRecDepth 20000 in
theorem dX5_place_0 : ∀ r ∈ rX5_place_0, decode cX5_place r.1 = .ok r.2 := by decide +kernel
def rX5_road_0 : List (Nat × Instr × Nat) := [(0, .aload_n 0, 1), (1, .iload_n 1, 1), (2, .iload_n 2, 1), (3, .invokevirtual 80, 3), (6, .ifCond .ne 6, 3), (9, .ldc 64, 2), (11, .ireturn, 1), (12, .aload_n 0, 1), (13, .getfield 10, 3), (16, .iload_n 1, 1), (17, .iload_n 2, 1), (18, .invokevirtual 84, 3), (21, .ifCond .eq 6, 3), (24, .ldc 87, 2), (26, .ireturn, 1), (27, .aload_n 0, 1), (28, .invokevirtual 70, 3), (31, .aload_n 0, 1), (32, .invokevirtual 73, 3), (35, .aload_n 0, 1), (36, .getfield 10, 3), (39, .iload_n 1, 1), (40, .iload_n 2, 1), (41, .invokevirtual 88, 3), (44, .aload_n 0, 1), (45, .getfield 10, 3), (48, .aload_n 0, 1), (49, .getfield 10, 3), (52, .getfield 91, 3), (55, .invokevirtual 95, 3), (58, .ireturn, 1)]
set_option maxRecDepth 20000 in
theorem dX5_road_0 : ∀ r ∈ rX5_road_0, decode cX5_road r.1 = .ok r.2 := by decide +kernel
def rX5_shut_0 : List (Nat × Instr × Nat) := [(0, .aload_n 0, 1), (1, .iload_n 1, 1), (2, .iload_n 2, 1), (3, .invokevirtual 80, 3), (6, .ifCond .eq 12, 3), (9, .iload_n 3, 1), (10, .iconst 0, 1), (11, .iconst 1, 1), (12, .invokestatic 60, 3), (15, .ifCond .ne 6, 3), (18, .ldc 64, 2), (20, .ireturn, 1), (21, .aload_n 0, 1), (22, .getfield 10, 3), (25, .iload_n 1, 1), (26, .iload_n 2, 1), (27, .invokevirtual 99, 3), (30, .ifCond .ne 7, 3), (33, .iconst 1, 1), (34, .goto 4, 3), (37, .iconst 0, 1), (38, .istore 4, 2), (40, .aload_n 0, 1), (41, .getfield 10, 3), (44, .iload_n 1, 1), (45, .iload_n 2, 1), (46, .invokevirtual 84, 3), (49, .ifCond .eq 18, 3), (52, .iload 4, 2), (54, .iload_n 3, 1), (55, .iconst 1, 1), (56, .if_icmp .ne 7, 3), (59, .iconst 1, 1), (60, .goto 4, 3), (63, .iconst 0, 1), (64, .if_icmp .ne 6, 3), (67, .ldc 87, 2), (69, .ireturn, 1), (70, .aload_n 0, 1), (71, .invokevirtual 70, 3)]
set_option maxRecDepth 20000 in
theorem dX5_shut_0 : ∀ r ∈ rX5_shut_0, decode cX5_shut r.1 = .ok r.2 := by decide +kernel
def rX5_shut_1 : List (Nat × Instr × Nat) := [(74, .aload_n 0, 1), (75, .invokevirtual 73, 3), (78, .aload_n 0, 1), (79, .getfield 10, 3), (82, .iload_n 1, 1), (83, .iload_n 2, 1), (84, .invokevirtual 102, 3), (87, .aload_n 0, 1), (88, .getfield 10, 3), (91, .aload_n 0, 1), (92, .getfield 10, 3), (95, .getfield 105, 3), (98, .invokevirtual 95, 3), (101, .ireturn, 1)]
set_option maxRecDepth 20000 in
theorem dX5_shut_1 : ∀ r ∈ rX5_shut_1, decode cX5_shut r.1 = .ok r.2 := by decide +kernel
def rX5_set_0 : List (Nat × Instr × Nat) := [(0, .iload_n 1, 1), (1, .iload_n 2, 1), (2, .invokestatic 108, 3), (5, .ifCond .ne 6, 3), (8, .ldc 64, 2), (10, .ireturn, 1), (11, .aload_n 0, 1), (12, .invokevirtual 70, 3), (15, .aload_n 0, 1), (16, .invokevirtual 73, 3), (19, .aload_n 0, 1), (20, .getfield 10, 3), (23, .getfield 111, 3), (26, .iload_n 1, 1), (27, .iaload, 1), (28, .istore_n 3, 1), (29, .aload_n 0, 1), (30, .getfield 10, 3), (33, .getfield 111, 3), (36, .iload_n 1, 1), (37, .iload_n 2, 1), (38, .iastore, 1), (39, .iload_n 3, 1), (40, .ireturn, 1)]
set_option maxRecDepth 20000 in
theorem dX5_set_0 : ∀ r ∈ rX5_set_0, decode cX5_set r.1 = .ok r.2 := by decide +kernel
def rX5_believe_0 : List (Nat × Instr × Nat) := [(0, .aload_n 0, 1), (1, .iload_n 1, 1), (2, .invokevirtual 114, 3), (5, .ifCond .ne 6, 3), (8, .ldc 64, 2), (10, .ireturn, 1), (11, .aload_n 0, 1), (12, .invokevirtual 70, 3), (15, .aload_n 0, 1), (16, .getfield 10, 3), (19, .iload_n 1, 1), (20, .putfield 118, 3), (23, .aload_n 0, 1), (24, .getfield 10, 3), (27, .iconst 0, 1), (28, .putfield 121, 3), (31, .iload_n 1, 1), (32, .invokestatic 124, 3), (35, .ireturn, 1)]
set_option maxRecDepth 20000 in
theorem dX5_believe_0 : ∀ r ∈ rX5_believe_0, decode cX5_believe r.1 = .ok r.2 := by decide +kernel
def rX5_check_0 : List (Nat × Instr × Nat) := [(0, .aload_n 0, 1), (1, .iload_n 1, 1), (2, .invokevirtual 114, 3), (5, .ifCond .eq 12, 3), (8, .iload_n 2, 1), (9, .iconst 0, 1), (10, .iconst 3, 1), (11, .invokestatic 60, 3), (14, .ifCond .ne 6, 3), (17, .ldc 64, 2), (19, .ireturn, 1), (20, .iload_n 1, 1), (21, .invokestatic 124, 3), (24, .aload_n 0, 1), (25, .getfield 10, 3), (28, .getfield 111, 3), (31, .iconst 2, 1), (32, .iaload, 1), (33, .if_icmp .le 6, 3), (36, .ldc 64, 2), (38, .ireturn, 1), (39, .aload_n 0, 1), (40, .invokevirtual 129, 3), (43, .astore_n 3, 1), (44, .aload_n 0, 1), (45, .getfield 10, 3), (48, .aload_n 3, 1), (49, .iload_n 1, 1), (50, .iload_n 2, 1), (51, .invokevirtual 133, 3), (54, .ifCond .ne 6, 3), (57, .ldc 87, 2), (59, .ireturn, 1), (60, .aload_n 0, 1), (61, .invokevirtual 70, 3), (64, .aload_n 0, 1), (65, .getfield 10, 3), (68, .aload_n 3, 1), (69, .iload_n 1, 1), (70, .iload_n 2, 1)]
set_option maxRecDepth 20000 in
theorem dX5_check_0 : ∀ r ∈ rX5_check_0, decode cX5_check r.1 = .ok r.2 := by decide +kernel
def rX5_check_1 : List (Nat × Instr × Nat) := [(71, .invokevirtual 137, 3), (74, .aload_n 0, 1), (75, .getfield 10, 3), (78, .getfield 118, 3), (81, .invokestatic 124, 3), (84, .ireturn, 1)]
set_option maxRecDepth 20000 in
theorem dX5_check_1 : ∀ r ∈ rX5_check_1, decode cX5_check r.1 = .ok r.2 := by decide +kernel
def rX5_placeOf_0 : List (Nat × Instr × Nat) := [(0, .aload_n 0, 1), (1, .iload_n 1, 1), (2, .invokevirtual 141, 3), (5, .ifCond .ne 6, 3), (8, .ldc 64, 2), (10, .ireturn, 1), (11, .iload_n 2, 1), (12, .tableswitch 87 0 4 #[36, 46, 56, 66, 75], 36), (48, .aload_n 0, 1), (49, .getfield 10, 3), (52, .getfield 144, 3), (55, .iload_n 1, 1), (56, .iaload, 1), (57, .ireturn, 1), (58, .aload_n 0, 1), (59, .getfield 10, 3), (62, .getfield 91, 3), (65, .iload_n 1, 1), (66, .iaload, 1), (67, .ireturn, 1), (68, .aload_n 0, 1), (69, .getfield 10, 3), (72, .getfield 105, 3), (75, .iload_n 1, 1), (76, .iaload, 1), (77, .ireturn, 1), (78, .aload_n 0, 1), (79, .getfield 10, 3), (82, .iload_n 1, 1), (83, .invokevirtual 147, 3), (86, .ireturn, 1), (87, .aload_n 0, 1), (88, .getfield 10, 3), (91, .getfield 118, 3), (94, .iload_n 1, 1), (95, .ishr, 1), (96, .iconst 1, 1), (97, .iand, 1), (98, .ireturn, 1), (99, .ldc 64, 2)]
set_option maxRecDepth 20000 in
theorem dX5_placeOf_0 : ∀ r ∈ rX5_placeOf_0, decode cX5_placeOf r.1 = .ok r.2 := by decide +kernel
def rX5_placeOf_1 : List (Nat × Instr × Nat) := [(101, .ireturn, 1)]
set_option maxRecDepth 20000 in
theorem dX5_placeOf_1 : ∀ r ∈ rX5_placeOf_1, decode cX5_placeOf r.1 = .ok r.2 := by decide +kernel
def rX5_behind_0 : List (Nat × Instr × Nat) := [(0, .aload_n 0, 1), (1, .iload_n 1, 1), (2, .invokevirtual 114, 3), (5, .ifCond .eq 20, 3), (8, .aload_n 0, 1), (9, .iload_n 2, 1), (10, .invokevirtual 114, 3), (13, .ifCond .eq 12, 3), (16, .iload_n 3, 1), (17, .iconst (-1), 1), (18, .iconst 3, 1), (19, .invokestatic 60, 3), (22, .ifCond .ne 6, 3), (25, .ldc 64, 2), (27, .ireturn, 1), (28, .aload_n 0, 1), (29, .invokevirtual 129, 3), (32, .iload_n 1, 1), (33, .iload_n 2, 1), (34, .iload_n 3, 1), (35, .ifCond .ge 7, 3), (38, .iconst 4, 1), (39, .goto 4, 3), (42, .iload_n 3, 1), (43, .invokevirtual 163, 3), (46, .ireturn, 1)]
set_option maxRecDepth 20000 in
theorem dX5_behind_0 : ∀ r ∈ rX5_behind_0, decode cX5_behind r.1 = .ok r.2 := by decide +kernel
def rX5_sure_0 : List (Nat × Instr × Nat) := [(0, .aload_n 0, 1), (1, .iload_n 1, 1), (2, .invokevirtual 114, 3), (5, .ifCond .eq 12, 3), (8, .iload_n 2, 1), (9, .iconst 0, 1), (10, .iconst 1, 1), (11, .invokestatic 60, 3), (14, .ifCond .ne 6, 3), (17, .ldc 64, 2), (19, .ireturn, 1), (20, .aload_n 0, 1), (21, .invokevirtual 167, 3), (24, .astore_n 3, 1), (25, .aload_n 3, 1), (26, .getfield 171, 3), (29, .iload_n 1, 1), (30, .iaload, 1), (31, .iconst (-1), 1), (32, .if_icmp .ne 6, 3), (35, .ldc 150, 2), (37, .ireturn, 1), (38, .iload_n 2, 1), (39, .ifCond .ne 12, 3), (42, .aload_n 3, 1), (43, .getfield 171, 3), (46, .iload_n 1, 1), (47, .iaload, 1), (48, .goto 9, 3), (51, .aload_n 3, 1), (52, .getfield 174, 3), (55, .iload_n 1, 1), (56, .iaload, 1), (57, .ireturn, 1)]
set_option maxRecDepth 20000 in
theorem dX5_sure_0 : ∀ r ∈ rX5_sure_0, decode cX5_sure r.1 = .ok r.2 := by decide +kernel
def rX5_deaf_0 : List (Nat × Instr × Nat) := [(0, .aload_n 0, 1), (1, .iload_n 1, 1), (2, .invokevirtual 114, 3), (5, .ifCond .ne 6, 3), (8, .ldc 64, 2), (10, .ireturn, 1), (11, .aload_n 0, 1), (12, .invokevirtual 177, 3), (15, .getfield 171, 3), (18, .iload_n 1, 1), (19, .iaload, 1), (20, .istore_n 2, 1), (21, .iload_n 2, 1), (22, .iconst (-1), 1), (23, .if_icmp .ne 8, 3), (26, .ldc 150, 2), (28, .goto 4, 3), (31, .iload_n 2, 1), (32, .ireturn, 1)]
set_option maxRecDepth 20000 in
theorem dX5_deaf_0 : ∀ r ∈ rX5_deaf_0, decode cX5_deaf r.1 = .ok r.2 := by decide +kernel
def rX5_memory_0 : List (Nat × Instr × Nat) := [(0, .aload_n 0, 1), (1, .iload_n 1, 1), (2, .invokevirtual 114, 3), (5, .ifCond .ne 6, 3), (8, .ldc 64, 2), (10, .ireturn, 1), (11, .aload_n 0, 1), (12, .invokevirtual 167, 3), (15, .astore_n 2, 1), (16, .aload_n 2, 1), (17, .getfield 171, 3), (20, .iload_n 1, 1), (21, .iaload, 1), (22, .iconst (-1), 1), (23, .if_icmp .ne 6, 3), (26, .ldc 150, 2), (28, .ireturn, 1), (29, .aload_n 0, 1), (30, .aload_n 2, 1), (31, .iload_n 1, 1), (32, .invokevirtual 180, 3), (35, .ireturn, 1)]
set_option maxRecDepth 20000 in
theorem dX5_memory_0 : ∀ r ∈ rX5_memory_0, decode cX5_memory r.1 = .ok r.2 := by decide +kernel
def rX5_beliefs_0 : List (Nat × Instr × Nat) := [(0, .iload_n 1, 1), (1, .tableswitch 105 0 4 #[35, 45, 60, 75, 90], 35), (36, .aload_n 0, 1), (37, .getfield 10, 3), (40, .invokevirtual 184, 3), (43, .iconst 1, 1), (44, .isub, 1), (45, .ireturn, 1), (46, .aload_n 0, 1), (47, .invokevirtual 167, 3), (50, .aload_n 0, 1), (51, .getfield 10, 3), (54, .invokevirtual 184, 3), (57, .invokevirtual 188, 3), (60, .ireturn, 1), (61, .aload_n 0, 1), (62, .invokevirtual 167, 3), (65, .aload_n 0, 1), (66, .getfield 10, 3), (69, .invokevirtual 184, 3), (72, .invokevirtual 191, 3), (75, .ireturn, 1), (76, .aload_n 0, 1), (77, .invokevirtual 167, 3), (80, .aload_n 0, 1), (81, .getfield 10, 3), (84, .invokevirtual 184, 3), (87, .invokevirtual 194, 3), (90, .ireturn, 1), (91, .aload_n 0, 1), (92, .invokevirtual 177, 3), (95, .aload_n 0, 1), (96, .getfield 10, 3), (99, .invokevirtual 184, 3), (102, .invokevirtual 188, 3), (105, .ireturn, 1), (106, .ldc 64, 2), (108, .ireturn, 1)]
set_option maxRecDepth 20000 in
theorem dX5_beliefs_0 : ∀ r ∈ rX5_beliefs_0, decode cX5_beliefs r.1 = .ok r.2 := by decide +kernel
def rX5_count_0 : List (Nat × Instr × Nat) := [(0, .iload_n 1, 1), (1, .tableswitch 130 0 7 #[47, 55, 70, 85, 93, 101, 117, 122], 47), (48, .aload_n 0, 1), (49, .getfield 10, 3), (52, .getfield 65, 3), (55, .ireturn, 1), (56, .aload_n 0, 1), (57, .getfield 10, 3), (60, .aload_n 0, 1), (61, .getfield 10, 3), (64, .getfield 91, 3), (67, .invokevirtual 95, 3), (70, .ireturn, 1), (71, .aload_n 0, 1), (72, .getfield 10, 3), (75, .aload_n 0, 1), (76, .getfield 10, 3), (79, .getfield 105, 3), (82, .invokevirtual 95, 3), (85, .ireturn, 1), (86, .aload_n 0, 1), (87, .getfield 10, 3), (90, .getfield 118, 3), (93, .ireturn, 1), (94, .aload_n 0, 1), (95, .getfield 10, 3), (98, .getfield 121, 3), (101, .ireturn, 1), (102, .aload_n 0, 1), (103, .getfield 10, 3), (106, .invokevirtual 215, 3), (109, .ifCond .eq 7, 3), (112, .iconst 1, 1), (113, .goto 4, 3), (116, .iconst 0, 1), (117, .ireturn, 1), (118, .aload_n 0, 1), (119, .getfield 219, 3), (122, .ireturn, 1), (123, .aload_n 0, 1)]
set_option maxRecDepth 20000 in
theorem dX5_count_0 : ∀ r ∈ rX5_count_0, decode cX5_count r.1 = .ok r.2 := by decide +kernel
def rX5_count_1 : List (Nat × Instr × Nat) := [(124, .getfield 26, 3), (127, .getfield 222, 3), (130, .ireturn, 1), (131, .iload_n 1, 1), (132, .bipush 20, 2), (134, .bipush 22, 2), (136, .invokestatic 60, 3), (139, .ifCond .eq 18, 3), (142, .aload_n 0, 1), (143, .getfield 10, 3), (146, .getfield 111, 3), (149, .iload_n 1, 1), (150, .bipush 20, 2), (152, .isub, 1), (153, .iaload, 1), (154, .goto 5, 3), (157, .ldc 64, 2), (159, .ireturn, 1)]
set_option maxRecDepth 20000 in
theorem dX5_count_1 : ∀ r ∈ rX5_count_1, decode cX5_count r.1 = .ok r.2 := by decide +kernel
def rX5_undo_0 : List (Nat × Instr × Nat) := [(0, .aload_n 0, 1), (1, .getfield 219, 3), (4, .ifCond .gt 6, 3), (7, .ldc 87, 2), (9, .ireturn, 1), (10, .aload_n 0, 1), (11, .dup, 1), (12, .getfield 219, 3), (15, .iconst 1, 1), (16, .isub, 1), (17, .putfield 219, 3), (20, .aload_n 0, 1), (21, .getfield 10, 3), (24, .aload_n 0, 1), (25, .getfield 19, 3), (28, .aload_n 0, 1), (29, .getfield 219, 3), (32, .aaload, 1), (33, .invokevirtual 225, 3), (36, .aload_n 0, 1), (37, .invokevirtual 73, 3), (40, .aload_n 0, 1), (41, .getfield 219, 3), (44, .ireturn, 1)]
set_option maxRecDepth 20000 in
theorem dX5_undo_0 : ∀ r ∈ rX5_undo_0, decode cX5_undo r.1 = .ok r.2 := by decide +kernel
def rX5_isWithin_0 : List (Nat × Instr × Nat) := [(0, .iload_n 0, 1), (1, .iload_n 1, 1), (2, .if_icmp .lt 12, 3), (5, .iload_n 0, 1), (6, .iload_n 2, 1), (7, .if_icmp .gt 7, 3), (10, .iconst 1, 1), (11, .goto 4, 3), (14, .iconst 0, 1), (15, .ireturn, 1)]
set_option maxRecDepth 20000 in
theorem dX5_isWithin_0 : ∀ r ∈ rX5_isWithin_0, decode cX5_isWithin r.1 = .ok r.2 := by decide +kernel
def rX5_isPlace_0 : List (Nat × Instr × Nat) := [(0, .iload_n 1, 1), (1, .iconst 0, 1), (2, .aload_n 0, 1), (3, .getfield 10, 3), (6, .getfield 65, 3), (9, .iconst 1, 1), (10, .isub, 1), (11, .invokestatic 60, 3), (14, .ireturn, 1)]
set_option maxRecDepth 20000 in
theorem dX5_isPlace_0 : ∀ r ∈ rX5_isPlace_0, decode cX5_isPlace r.1 = .ok r.2 := by decide +kernel
def rX5_arePlaces_0 : List (Nat × Instr × Nat) := [(0, .aload_n 0, 1), (1, .iload_n 1, 1), (2, .invokevirtual 141, 3), (5, .ifCond .eq 20, 3), (8, .aload_n 0, 1), (9, .iload_n 2, 1), (10, .invokevirtual 141, 3), (13, .ifCond .eq 12, 3), (16, .iload_n 1, 1), (17, .iload_n 2, 1), (18, .if_icmp .eq 7, 3), (21, .iconst 1, 1), (22, .goto 4, 3), (25, .iconst 0, 1), (26, .ireturn, 1)]
set_option maxRecDepth 20000 in
theorem dX5_arePlaces_0 : ∀ r ∈ rX5_arePlaces_0, decode cX5_arePlaces r.1 = .ok r.2 := by decide +kernel
def rX5_isSet_0 : List (Nat × Instr × Nat) := [(0, .iload_n 1, 1), (1, .iconst 0, 1), (2, .aload_n 0, 1), (3, .getfield 10, 3), (6, .invokevirtual 184, 3), (9, .iconst 1, 1), (10, .isub, 1), (11, .invokestatic 60, 3), (14, .ireturn, 1)]
set_option maxRecDepth 20000 in
theorem dX5_isSet_0 : ∀ r ∈ rX5_isSet_0, decode cX5_isSet r.1 = .ok r.2 := by decide +kernel
def rX5_isSetting_0 : List (Nat × Instr × Nat) := [(0, .iload_n 0, 1), (1, .iconst 0, 1), (2, .iconst 2, 1), (3, .invokestatic 60, 3), (6, .ifCond .ne 5, 3), (9, .iconst 0, 1), (10, .ireturn, 1), (11, .iload_n 0, 1), (12, .iconst 2, 1), (13, .if_icmp .ne 12, 3), (16, .iload_n 1, 1), (17, .iconst 1, 1), (18, .iconst 2, 1), (19, .invokestatic 60, 3), (22, .goto 9, 3), (25, .iload_n 1, 1), (26, .iconst 0, 1), (27, .iconst 3, 1), (28, .invokestatic 60, 3), (31, .ireturn, 1)]
set_option maxRecDepth 20000 in
theorem dX5_isSetting_0 : ∀ r ∈ rX5_isSetting_0, decode cX5_isSetting r.1 = .ok r.2 := by decide +kernel
def rX5_record_0 : List (Nat × Instr × Nat) := [(0, .aload_n 0, 1), (1, .getfield 219, 3), (4, .iconst 4, 1), (5, .if_icmp .lt 7, 3), (8, .aload_n 0, 1), (9, .invokevirtual 242, 3), (12, .aload_n 0, 1), (13, .getfield 19, 3), (16, .aload_n 0, 1), (17, .getfield 219, 3), (20, .aaload, 1), (21, .aload_n 0, 1), (22, .getfield 10, 3), (25, .invokevirtual 225, 3), (28, .aload_n 0, 1), (29, .dup, 1), (30, .getfield 219, 3), (33, .iconst 1, 1), (34, .iadd, 1), (35, .putfield 219, 3), (38, .return_, 1)]
set_option maxRecDepth 20000 in
theorem dX5_record_0 : ∀ r ∈ rX5_record_0, decode cX5_record r.1 = .ok r.2 := by decide +kernel
def rX5_dropOldest_0 : List (Nat × Instr × Nat) := [(0, .aload_n 0, 1), (1, .getfield 19, 3), (4, .iconst 0, 1), (5, .aaload, 1), (6, .astore_n 1, 1), (7, .iconst 1, 1), (8, .istore_n 2, 1), (9, .iload_n 2, 1), (10, .iconst 4, 1), (11, .if_icmp .ge 23, 3), (14, .aload_n 0, 1), (15, .getfield 19, 3), (18, .iload_n 2, 1), (19, .iconst 1, 1), (20, .isub, 1), (21, .aload_n 0, 1), (22, .getfield 19, 3), (25, .iload_n 2, 1), (26, .aaload, 1), (27, .aastore, 1), (28, .iinc 2 1, 3), (31, .goto (-22), 3), (34, .aload_n 0, 1), (35, .getfield 19, 3), (38, .iconst 3, 1), (39, .aload_n 1, 1), (40, .aastore, 1), (41, .aload_n 0, 1), (42, .iconst 3, 1), (43, .putfield 219, 3), (46, .return_, 1)]
set_option maxRecDepth 20000 in
theorem dX5_dropOldest_0 : ∀ r ∈ rX5_dropOldest_0, decode cX5_dropOldest r.1 = .ok r.2 := by decide +kernel
def rX5_forgetTables_0 : List (Nat × Instr × Nat) := [(0, .aload_n 0, 1), (1, .iconst 0, 1), (2, .putfield 245, 3), (5, .aload_n 0, 1), (6, .iconst 0, 1), (7, .putfield 249, 3), (10, .aload_n 0, 1), (11, .iconst 0, 1), (12, .putfield 252, 3), (15, .return_, 1)]
set_option maxRecDepth 20000 in
theorem dX5_forgetTables_0 : ∀ r ∈ rX5_forgetTables_0, decode cX5_forgetTables r.1 = .ok r.2 := by decide +kernel
def rX5_standingMoves_0 : List (Nat × Instr × Nat) := [(0, .aload_n 0, 1), (1, .getfield 245, 3), (4, .ifCond .ne 19, 3), (7, .aload_n 0, 1), (8, .getfield 33, 3), (11, .aload_n 0, 1), (12, .getfield 10, 3), (15, .invokevirtual 255, 3), (18, .aload_n 0, 1), (19, .iconst 1, 1), (20, .putfield 245, 3), (23, .aload_n 0, 1), (24, .getfield 33, 3), (27, .areturn, 1)]
set_option maxRecDepth 20000 in
theorem dX5_standingMoves_0 : ∀ r ∈ rX5_standingMoves_0, decode cX5_standingMoves r.1 = .ok r.2 := by decide +kernel
def rX5_standingHearing_0 : List (Nat × Instr × Nat) := [(0, .aload_n 0, 1), (1, .getfield 249, 3), (4, .ifCond .ne 19, 3), (7, .aload_n 0, 1), (8, .getfield 42, 3), (11, .aload_n 0, 1), (12, .invokevirtual 129, 3), (15, .invokevirtual 258, 3), (18, .aload_n 0, 1), (19, .iconst 1, 1), (20, .putfield 249, 3), (23, .aload_n 0, 1), (24, .getfield 42, 3), (27, .areturn, 1)]
set_option maxRecDepth 20000 in
theorem dX5_standingHearing_0 : ∀ r ∈ rX5_standingHearing_0, decode cX5_standingHearing r.1 = .ok r.2 := by decide +kernel
def rX5_standingUnhearing_0 : List (Nat × Instr × Nat) := [(0, .aload_n 0, 1), (1, .getfield 252, 3), (4, .ifCond .ne 19, 3), (7, .aload_n 0, 1), (8, .getfield 46, 3), (11, .aload_n 0, 1), (12, .invokevirtual 129, 3), (15, .invokevirtual 258, 3), (18, .aload_n 0, 1), (19, .iconst 1, 1), (20, .putfield 252, 3), (23, .aload_n 0, 1), (24, .getfield 46, 3), (27, .areturn, 1)]
set_option maxRecDepth 20000 in
theorem dX5_standingUnhearing_0 : ∀ r ∈ rX5_standingUnhearing_0, decode cX5_standingUnhearing r.1 = .ok r.2 := by decide +kernel
def rX5_countComing_0 : List (Nat × Instr × Nat) := [(0, .iconst 0, 1), (1, .istore_n 3, 1), (2, .iload_n 3, 1), (3, .sipush 128, 3), (6, .if_icmp .ge 16, 3), (9, .aload_n 0, 1), (10, .getfield 56, 3), (13, .iload_n 3, 1), (14, .iconst 0, 1), (15, .bastore, 1), (16, .iinc 3 1, 3), (19, .goto (-17), 3), (22, .aload_n 0, 1), (23, .getfield 56, 3), (26, .iload_n 2, 1), (27, .iconst 1, 1), (28, .bastore, 1), (29, .iconst 0, 1), (30, .istore_n 3, 1), (31, .aload_n 1, 1), (32, .getfield 171, 3), (35, .iload_n 2, 1), (36, .iaload, 1), (37, .istore 4, 2), (39, .iload 4, 2), (41, .ifCond .le 68, 3), (44, .iconst 1, 1), (45, .istore 5, 2), (47, .iload 5, 2), (49, .aload_n 0, 1), (50, .getfield 10, 3), (53, .invokevirtual 184, 3), (56, .if_icmp .ge 47, 3), (59, .aload_n 0, 1), (60, .getfield 56, 3), (63, .iload 5, 2), (65, .baload, 1), (66, .ifCond .eq 31, 3), (69, .aload_n 1, 1), (70, .getfield 171, 3)]
set_option maxRecDepth 20000 in
theorem dX5_countComing_0 : ∀ r ∈ rX5_countComing_0, decode cX5_countComing r.1 = .ok r.2 := by decide +kernel
def rX5_countComing_1 : List (Nat × Instr × Nat) := [(73, .iload 5, 2), (75, .iaload, 1), (76, .iload 4, 2), (78, .if_icmp .ne 19, 3), (81, .iinc 3 1, 3), (84, .aload_n 0, 1), (85, .iload 5, 2), (87, .aload_n 1, 1), (88, .getfield 174, 3), (91, .iload 5, 2), (93, .iaload, 1), (94, .invokevirtual 262, 3), (97, .iinc 5 1, 3), (100, .goto (-53), 3), (103, .iinc 4 (-1), 3), (106, .goto (-67), 3), (109, .iload_n 3, 1), (110, .ireturn, 1)]
set_option maxRecDepth 20000 in
theorem dX5_countComing_1 : ∀ r ∈ rX5_countComing_1, decode cX5_countComing r.1 = .ok r.2 := by decide +kernel
def rX5_markNext_0 : List (Nat × Instr × Nat) := [(0, .iconst 0, 1), (1, .istore_n 3, 1), (2, .iload_n 3, 1), (3, .iconst 4, 1), (4, .if_icmp .ge 25, 3), (7, .aload_n 0, 1), (8, .getfield 56, 3), (11, .aload_n 0, 1), (12, .getfield 33, 3), (15, .iload_n 1, 1), (16, .iload_n 2, 1), (17, .iload_n 3, 1), (18, .invokevirtual 163, 3), (21, .iconst 1, 1), (22, .bastore, 1), (23, .iinc 3 1, 3), (26, .goto (-24), 3), (29, .return_, 1)]
set_option maxRecDepth 20000 in
theorem dX5_markNext_0 : ∀ r ∈ rX5_markNext_0, decode cX5_markNext r.1 = .ok r.2 := by decide +kernel
def rJ6_bitCount_0f7a4_0 : List (Nat × Instr × Nat) := [(0, .iload_n 0, 1), (1, .iload_n 0, 1), (2, .iconst 1, 1), (3, .iushr, 1), (4, .ldc_w 265, 3), (7, .iand, 1), (8, .isub, 1), (9, .istore_n 0, 1), (10, .iload_n 0, 1), (11, .ldc_w 266, 3), (14, .iand, 1), (15, .iload_n 0, 1), (16, .iconst 2, 1), (17, .iushr, 1), (18, .ldc_w 266, 3), (21, .iand, 1), (22, .iadd, 1), (23, .istore_n 0, 1), (24, .iload_n 0, 1), (25, .iload_n 0, 1), (26, .iconst 4, 1), (27, .iushr, 1), (28, .iadd, 1), (29, .ldc_w 267, 3), (32, .iand, 1), (33, .istore_n 0, 1), (34, .iload_n 0, 1), (35, .iload_n 0, 1), (36, .bipush 8, 2), (38, .iushr, 1), (39, .iadd, 1), (40, .istore_n 0, 1), (41, .iload_n 0, 1), (42, .iload_n 0, 1), (43, .bipush 16, 2), (45, .iushr, 1), (46, .iadd, 1), (47, .istore_n 0, 1), (48, .iload_n 0, 1), (49, .bipush 63, 2)]
set_option maxRecDepth 20000 in
theorem dJ6_bitCount_0f7a4_0 : ∀ r ∈ rJ6_bitCount_0f7a4_0, decode cJ6_bitCount_0f7a4 r.1 = .ok r.2 := by decide +kernel
def rJ6_bitCount_0f7a4_1 : List (Nat × Instr × Nat) := [(51, .iand, 1), (52, .ireturn, 1)]
set_option maxRecDepth 20000 in
theorem dJ6_bitCount_0f7a4_1 : ∀ r ∈ rJ6_bitCount_0f7a4_1, decode cJ6_bitCount_0f7a4 r.1 = .ok r.2 := by decide +kernel
def rL_cell_0 : List (Nat × Instr × Nat) := [(0, .iload_n 1, 1), (1, .aload_n 0, 1), (2, .arraylength, 1), (3, .if_icmp .ge 9, 3), (6, .aload_n 0, 1), (7, .iload_n 1, 1), (8, .iaload, 1), (9, .goto 10, 3), (12, .ldc 7, 2), (14, .iload_n 1, 1), (15, .bipush 61, 2), (17, .iadd, 1), (18, .imul, 1), (19, .ldc 8, 2), (21, .iand, 1), (22, .ireturn, 1)]
set_option maxRecDepth 20000 in
theorem dL_cell_0 : ∀ r ∈ rL_cell_0, decode cL_cell r.1 = .ok r.2 := by decide +kernel
def rL_bits_0 : List (Nat × Instr × Nat) := [(0, .iconst 0, 1), (1, .istore_n 1, 1), (2, .iload_n 0, 1), (3, .istore_n 2, 1), (4, .iload_n 2, 1), (5, .ifCond .le 16, 3), (8, .iload_n 1, 1), (9, .iload_n 2, 1), (10, .iconst 2, 1), (11, .irem, 1), (12, .iadd, 1), (13, .istore_n 1, 1), (14, .iload_n 2, 1), (15, .iconst 2, 1), (16, .idiv, 1), (17, .istore_n 2, 1), (18, .goto (-14), 3), (21, .iload_n 1, 1), (22, .ireturn, 1)]
set_option maxRecDepth 20000 in
theorem dL_bits_0 : ∀ r ∈ rL_bits_0, decode cL_bits r.1 = .ok r.2 := by decide +kernel
def rL_nth_0 : List (Nat × Instr × Nat) := [(0, .iload_n 1, 1), (1, .istore_n 2, 1), (2, .iconst 0, 1), (3, .istore_n 3, 1), (4, .iload_n 3, 1), (5, .bipush 7, 2), (7, .if_icmp .ge 27, 3), (10, .iload_n 0, 1), (11, .iload_n 3, 1), (12, .ishr, 1), (13, .iconst 1, 1), (14, .iand, 1), (15, .iconst 1, 1), (16, .if_icmp .ne 12, 3), (19, .iload_n 2, 1), (20, .ifCond .ne 5, 3), (23, .iload_n 3, 1), (24, .ireturn, 1), (25, .iinc 2 (-1), 3), (28, .iinc 3 1, 3), (31, .goto (-27), 3), (34, .iconst (-1), 1), (35, .ireturn, 1)]
set_option maxRecDepth 20000 in
theorem dL_nth_0 : ∀ r ∈ rL_nth_0, decode cL_nth r.1 = .ok r.2 := by decide +kernel
def rL_signal_0 : List (Nat × Instr × Nat) := [(0, .iconst 0, 1), (1, .istore 4, 2), (3, .iload 4, 2), (5, .iconst 4, 1), (6, .if_icmp .ge 36, 3), (9, .aload_n 0, 1), (10, .iconst 1, 1), (11, .iload_n 1, 1), (12, .ishl, 1), (13, .iload_n 3, 1), (14, .iconst 1, 1), (15, .iload_n 1, 1), (16, .ishl, 1), (17, .iconst (-1), 1), (18, .ixor, 1), (19, .iand, 1), (20, .iload 4, 2), (22, .invokevirtual 9, 3), (25, .iload_n 2, 1), (26, .ishr, 1), (27, .iconst 1, 1), (28, .iand, 1), (29, .iconst 1, 1), (30, .if_icmp .ne 6, 3), (33, .iload 4, 2), (35, .ireturn, 1), (36, .iinc 4 1, 3), (39, .goto (-36), 3), (42, .iconst (-1), 1), (43, .ireturn, 1)]
set_option maxRecDepth 20000 in
theorem dL_signal_0 : ∀ r ∈ rL_signal_0, decode cL_signal r.1 = .ok r.2 := by decide +kernel
def rL_hunts_0 : List (Nat × Instr × Nat) := [(0, .aload_n 0, 1), (1, .iload_n 1, 1), (2, .iconst 0, 1), (3, .invokevirtual 15, 3), (6, .istore_n 3, 1), (7, .iload_n 3, 1), (8, .ifCond .gt 44, 3), (11, .iload_n 3, 1), (12, .ldc 19, 2), (14, .if_icmp .ne 28, 3), (17, .aload_n 0, 1), (18, .iload_n 1, 1), (19, .invokevirtual 20, 3), (22, .ldc 19, 2), (24, .if_icmp .ne 14, 3), (27, .iload_n 1, 1), (28, .invokestatic 24, 3), (31, .ifCond .le 7, 3), (34, .iconst 1, 1), (35, .goto 16, 3), (38, .iconst 0, 1), (39, .goto 12, 3), (42, .iload_n 1, 1), (43, .ifCond .ne 7, 3), (46, .iconst 1, 1), (47, .goto 4, 3), (50, .iconst 0, 1), (51, .ireturn, 1), (52, .iload_n 1, 1), (53, .iload_n 2, 1), (54, .iload_n 1, 1), (55, .invokestatic 24, 3), (58, .irem, 1), (59, .invokestatic 29, 3), (62, .istore 4, 2), (64, .iconst 0, 1), (65, .istore 5, 2), (67, .iconst 0, 1), (68, .istore 6, 2), (70, .aload_n 0, 1)]
set_option maxRecDepth 20000 in
theorem dL_hunts_0 : ∀ r ∈ rL_hunts_0, decode cL_hunts r.1 = .ok r.2 := by decide +kernel
def rL_hunts_1 : List (Nat × Instr × Nat) := [(71, .iload_n 1, 1), (72, .invokevirtual 32, 3), (75, .iload_n 1, 1), (76, .invokestatic 24, 3), (79, .if_icmp .ne 41, 3), (82, .aload_n 0, 1), (83, .iload_n 1, 1), (84, .invokevirtual 35, 3), (87, .iconst 1, 1), (88, .if_icmp .lt 32, 3), (91, .aload_n 0, 1), (92, .iload_n 1, 1), (93, .invokevirtual 20, 3), (96, .ifCond .eq 24, 3), (99, .aload_n 0, 1), (100, .iload_n 1, 1), (101, .invokevirtual 20, 3), (104, .ifCond .lt 12, 3), (107, .aload_n 0, 1), (108, .iload_n 1, 1), (109, .invokevirtual 20, 3), (112, .iload_n 3, 1), (113, .if_icmp .lt 7, 3), (116, .iconst 1, 1), (117, .goto 4, 3), (120, .iconst 0, 1), (121, .istore 7, 2), (123, .iconst 0, 1), (124, .istore 8, 2), (126, .iload 8, 2), (128, .iload_n 3, 1), (129, .if_icmp .ge 196, 3), (132, .iload 7, 2), (134, .ifCond .eq 191, 3), (137, .iload 6, 2), (139, .ifCond .ne 186, 3), (142, .aload_n 0, 1), (143, .iconst 3, 1), (144, .invokevirtual 38, 3), (147, .istore 9, 2)]
set_option maxRecDepth 20000 in
theorem dL_hunts_1 : ∀ r ∈ rL_hunts_1, decode cL_hunts r.1 = .ok r.2 := by decide +kernel
def rL_hunts_2 : List (Nat × Instr × Nat) := [(149, .aload_n 0, 1), (150, .iload 9, 2), (152, .iconst 1, 1), (153, .invokevirtual 15, 3), (156, .istore 10, 2), (158, .aload_n 0, 1), (159, .iload 9, 2), (161, .iconst 0, 1), (162, .invokevirtual 15, 3), (165, .istore 11, 2), (167, .iload 11, 2), (169, .ifCond .le 41, 3), (172, .iload 11, 2), (174, .iload_n 3, 1), (175, .iload 8, 2), (177, .isub, 1), (178, .if_icmp .gt 32, 3), (181, .iload 10, 2), (183, .invokestatic 24, 3), (186, .aload_n 0, 1), (187, .bipush 22, 2), (189, .invokevirtual 38, 3), (192, .if_icmp .gt 18, 3), (195, .iload 9, 2), (197, .iload 4, 2), (199, .ishr, 1), (200, .iconst 1, 1), (201, .iand, 1), (202, .iconst 1, 1), (203, .if_icmp .ne 7, 3), (206, .iconst 1, 1), (207, .goto 4, 3), (210, .iconst 0, 1), (211, .istore 7, 2), (213, .iload 10, 2), (215, .iload 4, 2), (217, .ishr, 1), (218, .iconst 1, 1), (219, .iand, 1), (220, .iconst 1, 1)]
set_option maxRecDepth 20000 in
theorem dL_hunts_2 : ∀ r ∈ rL_hunts_2, decode cL_hunts r.1 = .ok r.2 := by decide +kernel
def rL_hunts_3 : List (Nat × Instr × Nat) := [(221, .if_icmp .ne 7, 3), (224, .iconst 1, 1), (225, .goto 4, 3), (228, .iconst 0, 1), (229, .istore 6, 2), (231, .iload 7, 2), (233, .ifCond .eq 86, 3), (236, .iload 6, 2), (238, .ifCond .ne 81, 3), (241, .aload_n 0, 1), (242, .iconst 1, 1), (243, .iload 4, 2), (245, .ishl, 1), (246, .iload 10, 2), (248, .iconst (-1), 1), (249, .invokevirtual 9, 3), (252, .istore 12, 2), (254, .iload 12, 2), (256, .iload_n 2, 1), (257, .bipush 8, 2), (259, .iload 8, 2), (261, .bipush 8, 2), (263, .irem, 1), (264, .ishl, 1), (265, .idiv, 1), (266, .iload 12, 2), (268, .invokestatic 24, 3), (271, .irem, 1), (272, .invokestatic 29, 3), (275, .istore 13, 2), (277, .aload_n 0, 1), (278, .iload 4, 2), (280, .iload 13, 2), (282, .iload 10, 2), (284, .invokestatic 41, 3), (287, .istore 14, 2), (289, .iload 14, 2), (291, .ifCond .lt 18, 3), (294, .aload_n 0, 1), (295, .iload 10, 2)]
set_option maxRecDepth 20000 in
theorem dL_hunts_3 : ∀ r ∈ rL_hunts_3, decode cL_hunts r.1 = .ok r.2 := by decide +kernel
def rL_hunts_4 : List (Nat × Instr × Nat) := [(297, .iload 14, 2), (299, .invokevirtual 45, 3), (302, .ifCond .le 7, 3), (305, .iconst 1, 1), (306, .goto 4, 3), (309, .iconst 0, 1), (310, .istore 7, 2), (312, .iload 13, 2), (314, .istore 4, 2), (316, .iinc 5 1, 3), (319, .iinc 8 1, 3), (322, .goto (-196), 3), (325, .iload 7, 2), (327, .ifCond .eq 47, 3), (330, .iload 6, 2), (332, .ifCond .eq 42, 3), (335, .iload 5, 2), (337, .iload_n 3, 1), (338, .if_icmp .ge 36, 3), (341, .aload_n 0, 1), (342, .iconst 4, 1), (343, .invokevirtual 38, 3), (346, .iload 5, 2), (348, .if_icmp .ne 26, 3), (351, .iload 5, 2), (353, .ifCond .eq 17, 3), (356, .aload_n 0, 1), (357, .iconst 3, 1), (358, .invokevirtual 38, 3), (361, .iload 4, 2), (363, .ishr, 1), (364, .iconst 1, 1), (365, .iand, 1), (366, .iconst 1, 1), (367, .if_icmp .ne 7, 3), (370, .iconst 1, 1), (371, .goto 4, 3), (374, .iconst 0, 1), (375, .ireturn, 1)]
set_option maxRecDepth 20000 in
theorem dL_hunts_4 : ∀ r ∈ rL_hunts_4, decode cL_hunts r.1 = .ok r.2 := by decide +kernel
def rL_holds_0 : List (Nat × Instr × Nat) := [(0, .aload_n 0, 1), (1, .iconst 0, 1), (2, .invokevirtual 38, 3), (5, .istore_n 1, 1), (6, .iconst 1, 1), (7, .iload_n 1, 1), (8, .ishl, 1), (9, .iconst 1, 1), (10, .isub, 1), (11, .istore_n 2, 1), (12, .iconst 0, 1), (13, .istore_n 3, 1), (14, .iconst 0, 1), (15, .istore 4, 2), (17, .aload_n 0, 1), (18, .iconst 2, 1), (19, .invokevirtual 38, 3), (22, .aload_n 0, 1), (23, .iconst 1, 1), (24, .invokevirtual 38, 3), (27, .if_icmp .gt 19, 3), (30, .aload_n 0, 1), (31, .iconst 3, 1), (32, .invokevirtual 38, 3), (35, .iload_n 2, 1), (36, .iconst (-1), 1), (37, .ixor, 1), (38, .iand, 1), (39, .ifCond .ne 7, 3), (42, .iconst 1, 1), (43, .goto 4, 3), (46, .iconst 0, 1), (47, .istore 5, 2), (49, .iconst 0, 1), (50, .istore 6, 2), (52, .iload 6, 2), (54, .iload_n 1, 1), (55, .if_icmp .ge 144, 3), (58, .iload 5, 2), (60, .ifCond .eq 139, 3)]
set_option maxRecDepth 20000 in
theorem dL_holds_0 : ∀ r ∈ rL_holds_0, decode cL_holds r.1 = .ok r.2 := by decide +kernel
def rL_holds_1 : List (Nat × Instr × Nat) := [(63, .aload_n 0, 1), (64, .iload 6, 2), (66, .iconst 2, 1), (67, .invokevirtual 48, 3), (70, .istore 7, 2), (72, .iload_n 3, 1), (73, .aload_n 0, 1), (74, .iload 6, 2), (76, .iconst 1, 1), (77, .invokevirtual 48, 3), (80, .invokestatic 24, 3), (83, .iadd, 1), (84, .istore_n 3, 1), (85, .iload 4, 2), (87, .iload 7, 2), (89, .invokestatic 24, 3), (92, .iadd, 1), (93, .istore 4, 2), (95, .aload_n 0, 1), (96, .iload 6, 2), (98, .iconst 1, 1), (99, .invokevirtual 48, 3), (102, .iload 6, 2), (104, .ishr, 1), (105, .iconst 1, 1), (106, .iand, 1), (107, .ifCond .ne 83, 3), (110, .iload 7, 2), (112, .aload_n 0, 1), (113, .iload 6, 2), (115, .iconst 1, 1), (116, .invokevirtual 48, 3), (119, .iconst (-1), 1), (120, .ixor, 1), (121, .iand, 1), (122, .ifCond .ne 68, 3), (125, .aload_n 0, 1), (126, .iload 6, 2), (128, .iconst 3, 1), (129, .invokevirtual 48, 3)]
set_option maxRecDepth 20000 in
theorem dL_holds_1 : ∀ r ∈ rL_holds_1, decode cL_holds r.1 = .ok r.2 := by decide +kernel
def rL_holds_2 : List (Nat × Instr × Nat) := [(132, .ifCond .eq 58, 3), (135, .aload_n 0, 1), (136, .iload 6, 2), (138, .iconst 3, 1), (139, .invokevirtual 48, 3), (142, .iload 7, 2), (144, .iand, 1), (145, .iload 7, 2), (147, .if_icmp .ne 43, 3), (150, .aload_n 0, 1), (151, .iconst 1, 1), (152, .iload 6, 2), (154, .ishl, 1), (155, .iconst 0, 1), (156, .iconst (-1), 1), (157, .invokevirtual 9, 3), (160, .aload_n 0, 1), (161, .iload 6, 2), (163, .iconst 3, 1), (164, .invokevirtual 48, 3), (167, .if_icmp .ne 23, 3), (170, .aload_n 0, 1), (171, .iconst 1, 1), (172, .iload 6, 2), (174, .ishl, 1), (175, .iconst 1, 1), (176, .iload 6, 2), (178, .ishl, 1), (179, .iconst (-1), 1), (180, .invokevirtual 9, 3), (183, .ifCond .ne 7, 3), (186, .iconst 1, 1), (187, .goto 4, 3), (190, .iconst 0, 1), (191, .istore 5, 2), (193, .iinc 6 1, 3), (196, .goto (-144), 3), (199, .iconst 0, 1), (200, .istore 6, 2), (202, .iconst 0, 1)]
set_option maxRecDepth 20000 in
theorem dL_holds_2 : ∀ r ∈ rL_holds_2, decode cL_holds r.1 = .ok r.2 := by decide +kernel
def rL_holds_3 : List (Nat × Instr × Nat) := [(203, .istore 7, 2), (205, .iload 7, 2), (207, .iconst 4, 1), (208, .if_icmp .ge 26, 3), (211, .iload 6, 2), (213, .aload_n 0, 1), (214, .aload_n 0, 1), (215, .iconst 3, 1), (216, .invokevirtual 38, 3), (219, .iconst 0, 1), (220, .iload 7, 2), (222, .invokevirtual 9, 3), (225, .ior, 1), (226, .istore 6, 2), (228, .iinc 7 1, 3), (231, .goto (-26), 3), (234, .iload 5, 2), (236, .ifCond .eq 68, 3), (239, .aload_n 0, 1), (240, .iconst 1, 1), (241, .invokevirtual 38, 3), (244, .iload_n 3, 1), (245, .iconst 2, 1), (246, .idiv, 1), (247, .if_icmp .ne 57, 3), (250, .aload_n 0, 1), (251, .iconst 2, 1), (252, .invokevirtual 38, 3), (255, .iload 4, 2), (257, .iconst 2, 1), (258, .idiv, 1), (259, .if_icmp .ne 45, 3), (262, .iload 6, 2), (264, .aload_n 0, 1), (265, .aload_n 0, 1), (266, .iconst 3, 1), (267, .invokevirtual 38, 3), (270, .iconst 0, 1), (271, .iconst (-1), 1), (272, .invokevirtual 9, 3)]
set_option maxRecDepth 20000 in
theorem dL_holds_3 : ∀ r ∈ rL_holds_3, decode cL_holds r.1 = .ok r.2 := by decide +kernel
def rL_holds_4 : List (Nat × Instr × Nat) := [(275, .if_icmp .ne 29, 3), (278, .aload_n 0, 1), (279, .iconst 4, 1), (280, .invokevirtual 51, 3), (283, .aload_n 0, 1), (284, .iconst 1, 1), (285, .invokevirtual 51, 3), (288, .if_icmp .gt 16, 3), (291, .aload_n 0, 1), (292, .iconst 1, 1), (293, .invokevirtual 51, 3), (296, .iload_n 2, 1), (297, .if_icmp .gt 7, 3), (300, .iconst 1, 1), (301, .goto 4, 3), (304, .iconst 0, 1), (305, .ireturn, 1)]
set_option maxRecDepth 20000 in
theorem dL_holds_4 : ∀ r ∈ rL_holds_4, decode cL_holds r.1 = .ok r.2 := by decide +kernel
def rL_acts_0 : List (Nat × Instr × Nat) := [(0, .iload_n 1, 1), (1, .bipush 8, 2), (3, .idiv, 1), (4, .istore_n 2, 1), (5, .aload_n 0, 1), (6, .iconst 0, 1), (7, .invokevirtual 38, 3), (10, .istore_n 3, 1), (11, .iload_n 1, 1), (12, .bipush 8, 2), (14, .irem, 1), (15, .tableswitch 251 0 4 #[33, 61, 61, 130, 213], 33), (48, .aload_n 0, 1), (49, .iload_n 2, 1), (50, .iconst 4, 1), (51, .irem, 1), (52, .invokevirtual 54, 3), (55, .iload_n 3, 1), (56, .bipush 7, 2), (58, .if_icmp .ne 8, 3), (61, .ldc 57, 2), (63, .goto 4, 3), (66, .iload_n 3, 1), (67, .if_icmp .ne 7, 3), (70, .iconst 1, 1), (71, .goto 4, 3), (74, .iconst 0, 1), (75, .ireturn, 1), (76, .aload_n 0, 1), (77, .iconst 1, 1), (78, .invokevirtual 38, 3), (81, .istore 4, 2), (83, .aload_n 0, 1), (84, .iload_n 2, 1), (85, .iload_n 3, 1), (86, .irem, 1), (87, .iload_n 2, 1), (88, .bipush 8, 2), (90, .idiv, 1), (91, .iload_n 3, 1)]
set_option maxRecDepth 20000 in
theorem dL_acts_0 : ∀ r ∈ rL_acts_0, decode cL_acts r.1 = .ok r.2 := by decide +kernel
def rL_acts_1 : List (Nat × Instr × Nat) := [(92, .irem, 1), (93, .invokevirtual 58, 3), (96, .istore 5, 2), (98, .iload 5, 2), (100, .ifCond .le 29, 3), (103, .iload 5, 2), (105, .iload 4, 2), (107, .iconst 1, 1), (108, .iadd, 1), (109, .if_icmp .ne 16, 3), (112, .aload_n 0, 1), (113, .iconst 2, 1), (114, .invokevirtual 38, 3), (117, .iconst 1, 1), (118, .if_icmp .lt 7, 3), (121, .iconst 1, 1), (122, .goto 22, 3), (125, .iconst 0, 1), (126, .goto 18, 3), (129, .aload_n 0, 1), (130, .iconst 1, 1), (131, .invokevirtual 38, 3), (134, .iload 4, 2), (136, .if_icmp .ne 7, 3), (139, .iconst 1, 1), (140, .goto 4, 3), (143, .iconst 0, 1), (144, .ireturn, 1), (145, .aload_n 0, 1), (146, .iconst 2, 1), (147, .invokevirtual 38, 3), (150, .istore 6, 2), (152, .iload_n 2, 1), (153, .bipush 64, 2), (155, .idiv, 1), (156, .iconst 2, 1), (157, .irem, 1), (158, .istore 7, 2), (160, .aload_n 0, 1), (161, .iload_n 2, 1)]
set_option maxRecDepth 20000 in
theorem dL_acts_1 : ∀ r ∈ rL_acts_1, decode cL_acts r.1 = .ok r.2 := by decide +kernel
def rL_acts_2 : List (Nat × Instr × Nat) := [(162, .iload_n 3, 1), (163, .irem, 1), (164, .iload_n 2, 1), (165, .bipush 8, 2), (167, .idiv, 1), (168, .iload_n 3, 1), (169, .irem, 1), (170, .iload 7, 2), (172, .invokevirtual 61, 3), (175, .istore 8, 2), (177, .iload 8, 2), (179, .ifCond .lt 33, 3), (182, .iload 8, 2), (184, .iload 7, 2), (186, .iconst 1, 1), (187, .if_icmp .ne 10, 3), (190, .iload 6, 2), (192, .iconst 1, 1), (193, .isub, 1), (194, .goto 7, 3), (197, .iload 6, 2), (199, .iconst 1, 1), (200, .iadd, 1), (201, .if_icmp .ne 7, 3), (204, .iconst 1, 1), (205, .goto 22, 3), (208, .iconst 0, 1), (209, .goto 18, 3), (212, .aload_n 0, 1), (213, .iconst 2, 1), (214, .invokevirtual 38, 3), (217, .iload 6, 2), (219, .if_icmp .ne 7, 3), (222, .iconst 1, 1), (223, .goto 4, 3), (226, .iconst 0, 1), (227, .ireturn, 1), (228, .aload_n 0, 1), (229, .iload_n 2, 1), (230, .iconst 2, 1)]
set_option maxRecDepth 20000 in
theorem dL_acts_2 : ∀ r ∈ rL_acts_2, decode cL_acts r.1 = .ok r.2 := by decide +kernel
def rL_acts_3 : List (Nat × Instr × Nat) := [(231, .irem, 1), (232, .iload_n 2, 1), (233, .iconst 4, 1), (234, .idiv, 1), (235, .iconst 4, 1), (236, .irem, 1), (237, .invokevirtual 64, 3), (240, .ifCond .lt 24, 3), (243, .aload_n 0, 1), (244, .iconst 2, 1), (245, .iconst 1, 1), (246, .iload_n 2, 1), (247, .bipush 16, 2), (249, .idiv, 1), (250, .iconst 2, 1), (251, .irem, 1), (252, .iadd, 1), (253, .invokevirtual 64, 3), (256, .iconst 1, 1), (257, .if_icmp .lt 7, 3), (260, .iconst 1, 1), (261, .goto 4, 3), (264, .iconst 0, 1), (265, .ireturn, 1), (266, .aload_n 0, 1), (267, .iload_n 2, 1), (268, .iconst 1, 1), (269, .iload_n 3, 1), (270, .ishl, 1), (271, .irem, 1), (272, .iload_n 2, 1), (273, .sipush 128, 3), (276, .idiv, 1), (277, .invokestatic 67, 3), (280, .ireturn, 1)]
set_option maxRecDepth 20000 in
theorem dL_acts_3 : ∀ r ∈ rL_acts_3, decode cL_acts r.1 = .ok r.2 := by decide +kernel
def rL_law_0 : List (Nat × Instr × Nat) := [(0, .new 10, 3), (3, .dup, 1), (4, .invokespecial 71, 3), (7, .astore_n 1, 1), (8, .aload_n 1, 1), (9, .aload_n 0, 1), (10, .iconst 0, 1), (11, .invokestatic 72, 3), (14, .iconst 4, 1), (15, .irem, 1), (16, .invokevirtual 54, 3), (19, .ifCond .ne 54, 3), (22, .aload_n 1, 1), (23, .aload_n 0, 1), (24, .iconst 1, 1), (25, .invokestatic 72, 3), (28, .iconst 4, 1), (29, .irem, 1), (30, .invokevirtual 54, 3), (33, .iconst 1, 1), (34, .if_icmp .ne 39, 3), (37, .aload_n 1, 1), (38, .aload_n 0, 1), (39, .iconst 2, 1), (40, .invokestatic 72, 3), (43, .iconst 4, 1), (44, .irem, 1), (45, .invokevirtual 54, 3), (48, .iconst 2, 1), (49, .if_icmp .ne 24, 3), (52, .aload_n 1, 1), (53, .iconst 0, 1), (54, .iconst 1, 1), (55, .invokevirtual 58, 3), (58, .iconst 1, 1), (59, .if_icmp .ne 14, 3), (62, .aload_n 1, 1), (63, .invokestatic 76, 3), (66, .ifCond .eq 7, 3), (69, .iconst 1, 1)]
set_option maxRecDepth 20000 in
theorem dL_law_0 : ∀ r ∈ rL_law_0, decode cL_law r.1 = .ok r.2 := by decide +kernel
def rL_law_1 : List (Nat × Instr × Nat) := [(70, .goto 4, 3), (73, .iconst 0, 1), (74, .istore_n 2, 1), (75, .iconst 0, 1), (76, .istore_n 3, 1), (77, .iload_n 3, 1), (78, .bipush 16, 2), (80, .if_icmp .ge 64, 3), (83, .iload_n 2, 1), (84, .ifCond .eq 60, 3), (87, .aload_n 0, 1), (88, .iconst 3, 1), (89, .iload_n 3, 1), (90, .iadd, 1), (91, .invokestatic 72, 3), (94, .istore 4, 2), (96, .aload_n 1, 1), (97, .iload 4, 2), (99, .bipush 8, 2), (101, .irem, 1), (102, .ifCond .ne 15, 3), (105, .iload_n 3, 1), (106, .iconst 5, 1), (107, .if_icmp .le 10, 3), (110, .iload 4, 2), (112, .iconst 5, 1), (113, .iadd, 1), (114, .goto 5, 3), (117, .iload 4, 2), (119, .invokestatic 80, 3), (122, .ifCond .eq 14, 3), (125, .aload_n 1, 1), (126, .invokestatic 76, 3), (129, .ifCond .eq 7, 3), (132, .iconst 1, 1), (133, .goto 4, 3), (136, .iconst 0, 1), (137, .istore_n 2, 1), (138, .iinc 3 1, 3), (141, .goto (-64), 3)]
set_option maxRecDepth 20000 in
theorem dL_law_1 : ∀ r ∈ rL_law_1, decode cL_law r.1 = .ok r.2 := by decide +kernel
def rL_law_2 : List (Nat × Instr × Nat) := [(144, .aload_n 1, 1), (145, .iconst 3, 1), (146, .invokevirtual 38, 3), (149, .istore_n 3, 1), (150, .aload_n 1, 1), (151, .iconst 4, 1), (152, .invokevirtual 38, 3), (155, .istore 4, 2), (157, .iload_n 2, 1), (158, .ifCond .eq 52, 3), (161, .aload_n 1, 1), (162, .iconst 0, 1), (163, .invokevirtual 32, 3), (166, .ifCond .ne 44, 3), (169, .aload_n 1, 1), (170, .iconst 0, 1), (171, .iconst 0, 1), (172, .invokevirtual 45, 3), (175, .ldc 84, 2), (177, .if_icmp .ne 33, 3), (180, .aload_n 1, 1), (181, .invokevirtual 85, 3), (184, .ifCond .lt 26, 3), (187, .aload_n 1, 1), (188, .iconst 3, 1), (189, .invokevirtual 38, 3), (192, .iload_n 3, 1), (193, .if_icmp .ne 17, 3), (196, .aload_n 1, 1), (197, .iconst 4, 1), (198, .invokevirtual 38, 3), (201, .iload 4, 2), (203, .if_icmp .ne 7, 3), (206, .iconst 1, 1), (207, .goto 4, 3), (210, .iconst 0, 1), (211, .ireturn, 1)]
set_option maxRecDepth 20000 in
theorem dL_law_2 : ∀ r ∈ rL_law_2, decode cL_law r.1 = .ok r.2 := by decide +kernel
end
section
/-! the walker's own judgement T: a state is a place in the code, locals, a stack and a memory of numbers by cell and place -/
def qK : Nat → List Bool
  | 0 => [true, true, false, false]
  | 1 => [true, true, true, false, false, false]
  | 2 => [true, false, false, false, false, false, false, false, false]
  | 3 => [false, true, true, true, true, false, false, true, true, true]
  | 4 => [true, true]
  | 5 => [true, true, true, false, true, true, true, true, false, false, false, true, true]
  | 6 => [true, true, true, true, false, true, false, false, false, false, true, true, true, true, true]
  | _ => []
/-- memory: numbers (an int is nI of one), longs (lI of one), references, by cell and place -/
abbrev qM : Type := (Nat → Nat → Nat) × (Nat → Nat → Int) × (Nat → Nat → Option Nat)
def lI (z : Int) : Int64 := Int64.ofInt z
abbrev qH : Type := Nat → Nat ⊕ (Nat × Nat)
/-- a method: its code, its name, how many locals, what it answers, its room -/
abbrev qMI : Type := ByteArray × MethodName × Nat × Option FieldType × Room
def qWs (μ : qMI) : List Cond := .code μ.2.1 μ.1 μ.2.2.1 μ.2.2.2.1 :: WS
abbrev qG : Type := Nat × Bool × Nat × Nat
def qV (B : Nat) : Value → Value
  | .ref a => .ref (B + a)
  | v => v
def qF (B : Nat) (M : qM) (a : Nat) (ks : List Bool) : List Value := ks.mapIdx (fun k r => if r then va_rf ((M.2.2 a k).map (B + ·)) else .int (nI (M.1 a k)))
def qAr (B : Nat) (M : qM) (a : Nat) (tn : Nat × Nat) : vp_A := if tn.1 = 3 then (tn.2, .inr (.inl (fun j => lI (M.2.1 a j)))) else if tn.1 < 3 then (tn.2, .inl (fun j => nI (M.1 a j))) else (tn.2, .inr (.inr (.inr (.inr (fun j => (M.2.2 a j).map (B + ·))))))
def qE (tc : Nat → ClassId) (B : Nat) (hd : qH) (M : qM) (a : Nat) : va_E := match hd a with
  | .inl ci => .inr (ci, qF B M a (qK ci))
  | .inr tn => .inl (tc tn.1, qAr B M a tn)
def qW (hd : qH) (tc : Nat → ClassId) (B n : Nat) (M : qM) : va_W := (List.range n).map (fun a => (B + a, qE tc B hd M a))
def qTy : Nat → FieldType
  | 0 => .int
  | 1 => .boolean
  | 2 => .char
  | 3 => .long
  | 4 => .object "BlindHunts$State"
  | _ => .array .int
def qT (tc : Nat → ClassId) : List (ClassId × FieldType) := [(tc 0, .int), (tc 1, .boolean), (tc 2, .char), (tc 3, .long), (tc 4, .object "BlindHunts$State"), (tc 5, .array .int)]
def qFr (B n0 sz : Nat) : Nat → Prop := fun q => (B ≤ q ∧ q < B + n0) ∨ sz ≤ q
def qI (M : qM) (a k : Nat) (x : Nat) : qM := (fun b j => if b = a ∧ j = k then x else M.1 b j, M.2)
def qJ (M : qM) (a k : Nat) (x : Int) : qM := (M.1, fun b j => if b = a ∧ j = k then x else M.2.1 b j, M.2.2)
def qR (M : qM) (a k : Nat) (x : Option Nat) : qM := (M.1, M.2.1, fun b j => if b = a ∧ j = k then x else M.2.2 b j)
def qP : Nat → List (Option Value) → List (Nat × Value)
  | _, [] => []
  | i, none :: r => qP (i + 1) r
  | i, some v :: r => (i, v) :: qP (i + 1) r
def qLs (B : Nat) (loc : List (Option Value)) : List (Nat × Value) := (qP 0 loc).map (fun q => (q.1, qV B q.2))
theorem qP_mem {v : Value} {j : Nat} : ∀ {loc : List (Option Value)} {i : Nat}, (j, v) ∈ qP i loc ↔ i ≤ j ∧ loc[j - i]? = some (some v)
  | [], i => by simp [qP]
  | none :: r, i => by
    rw [qP, qP_mem (loc := r) (i := i + 1)]
    by_cases h : j = i
    · subst h
      constructor
      · intro q; omega
      · intro q; simp at q
    · by_cases h2 : i ≤ j
      · have : j - i = (j - (i + 1)) + 1 := by omega
        rw [this]; simp; omega
      · constructor
        · intro q; omega
        · intro q; omega
  | some w :: r, i => by
    rw [qP, List.mem_cons, qP_mem (loc := r) (i := i + 1)]
    by_cases h : j = i
    · subst h
      simp
      constructor
      · rintro (h | h)
        · exact h.symm
        · omega
      · intro h; exact Or.inl h.symm
    · by_cases h2 : i ≤ j
      · have : j - i = (j - (i + 1)) + 1 := by omega
        rw [this]; simp [h]; omega
      · constructor
        · rintro (q | q)
          · exact absurd (Prod.mk.inj q).1 h
          · omega
        · intro q; omega
theorem qV_cat (B : Nat) (v : Value) : (qV B v).category = v.category := by cases v <;> rfl
theorem qLs_at {B : Nat} {ls : Array Slot} {n : Nat} {loc : List (Option Value)} (h : lv_has ls n (qLs B loc)) {i : Nat} {v : Value} (hl : loc[i]? = some (some v)) : ls[i]? = some (.val (qV B v)) :=
  h.2.2 (i, qV B v) (List.mem_map.mpr ⟨(i, v), qP_mem.mpr ⟨Nat.zero_le _, by simpa using hl⟩, rfl⟩)
/-- the place ahead of i holds no long -/
def qC1 : Option (Option Value) → Bool
  | some (some v) => v.category == 1
  | _ => true
def qOk (loc : List (Option Value)) : Nat → Bool
  | 0 => true
  | i + 1 => qC1 loc[i]?
theorem qLs_set1 {B : Nat} {ls' : Array Slot} {n : Nat} {loc : List (Option Value)} {i : Nat} {v : Value} (hok : qOk loc i = true)
    (h : lv_has ls' n ((i, qV B v) :: (qLs B loc).filter (fun q => !(q.1 == i) && !(q.1 + 1 == i && q.2.category == 2)))) : lv_has ls' n (qLs B (loc.set i (some v))) := by
  refine ⟨h.1, h.2.1, fun q hq => h.2.2 q ?_⟩
  obtain ⟨⟨j, w⟩, hj, rfl⟩ := List.mem_map.mp hq
  obtain ⟨-, hk⟩ := qP_mem.mp hj
  simp only [Nat.sub_zero] at hk
  clear hj
  by_cases e : j = i
  · subst e
    have hlt : j < loc.length := by
      have := (List.getElem?_eq_some_iff.mp hk).1
      simpa using this
    rw [List.getElem?_set_self hlt] at hk
    cases hk
    exact List.mem_cons_self
  · rw [List.getElem?_set_ne (Ne.symm e)] at hk
    refine List.mem_cons_of_mem _ (List.mem_filter.mpr ⟨List.mem_map.mpr ⟨(j, w), qP_mem.mpr ⟨Nat.zero_le _, by simpa using hk⟩, rfl⟩, ?_⟩)
    have e1 : (j == i) = false := by simpa using e
    by_cases e2 : j + 1 = i
    · subst e2
      have hc : w.category = 1 := by
        have h9 : qC1 loc[j]? = true := hok
        rw [hk] at h9
        simpa [qC1] using h9
      simp [e1, qV_cat, hc]
    · simp [e1, e2]
theorem qLs_set2 {B : Nat} {ls' : Array Slot} {n : Nat} {loc : List (Option Value)} {i : Nat} {v : Value} (hok : qOk loc i = true)
    (h : lv_has ls' n ((i, qV B v) :: (qLs B loc).filter (fun q => !(q.1 == i) && (!(q.1 == i + 1) && !(q.1 + 1 == i && q.2.category == 2))))) : lv_has ls' n (qLs B ((loc.set i (some v)).set (i + 1) none)) := by
  refine ⟨h.1, h.2.1, fun q hq => h.2.2 q ?_⟩
  obtain ⟨⟨j, w⟩, hj, rfl⟩ := List.mem_map.mp hq
  obtain ⟨-, hk⟩ := qP_mem.mp hj
  simp only [Nat.sub_zero] at hk
  clear hj
  by_cases e0 : j = i + 1
  · subst e0
    have hlt : i + 1 < (loc.set i (some v)).length := by
      have := (List.getElem?_eq_some_iff.mp hk).1
      simpa using this
    rw [List.getElem?_set_self hlt] at hk
    cases hk
  · rw [List.getElem?_set_ne (Ne.symm e0)] at hk
    by_cases e : j = i
    · subst e
      have hlt : j < loc.length := by
        have := (List.getElem?_eq_some_iff.mp hk).1
        simpa using this
      rw [List.getElem?_set_self hlt] at hk
      cases hk
      exact List.mem_cons_self
    · rw [List.getElem?_set_ne (Ne.symm e)] at hk
      refine List.mem_cons_of_mem _ (List.mem_filter.mpr ⟨List.mem_map.mpr ⟨(j, w), qP_mem.mpr ⟨Nat.zero_le _, by simpa using hk⟩, rfl⟩, ?_⟩)
      have e1 : (j == i) = false := by simpa using e
      have e3 : (j == i + 1) = false := by simpa using e0
      by_cases e2 : j + 1 = i
      · subst e2
        have hc : w.category = 1 := by
          have h9 : qC1 loc[j]? = true := hok
          rw [hk] at h9
          simpa [qC1] using h9
        simp [e1, e3, qV_cat, hc]
      · simp [e1, e2, e3]
/-- fewer locals are known -/
def qLe : List (Option Value) → List (Option Value) → Prop
  | [], _ => True
  | none :: a, [] => qLe a []
  | none :: a, _ :: b => qLe a b
  | some _ :: _, [] => False
  | some v :: a, w :: b => w = some v ∧ qLe a b
theorem qLe_at : ∀ {a b : List (Option Value)}, qLe a b → ∀ {i : Nat} {v : Value}, a[i]? = some (some v) → b[i]? = some (some v)
  | [], _, _, i, v, h => by simp at h
  | none :: a, [], hl, i, v, h => by
    cases i with
    | zero => simp at h
    | succ i =>
      have := qLe_at (a := a) (b := []) hl (i := i) (v := v) (by simpa using h)
      simp at this
  | none :: a, w :: b, hl, i, v, h => by
    cases i with
    | zero => simp at h
    | succ i =>
      have := qLe_at (a := a) (b := b) hl (i := i) (v := v) (by simpa using h)
      simpa using this
  | some u :: a, [], hl, i, v, h => hl.elim
  | some u :: a, w :: b, hl, i, v, h => by
    cases i with
    | zero =>
      have e := hl.1
      subst e
      simpa using h
    | succ i =>
      have := qLe_at (a := a) (b := b) hl.2 (i := i) (v := v) (by simpa using h)
      simpa using this
theorem qLs_le {B : Nat} {ls : Array Slot} {n : Nat} {a b : List (Option Value)} (hl : qLe a b) (h : lv_has ls n (qLs B b)) : lv_has ls n (qLs B a) := by
  refine ⟨h.1, h.2.1, fun q hq => ?_⟩
  obtain ⟨⟨j, w⟩, hj, rfl⟩ := List.mem_map.mp hq
  obtain ⟨-, hj⟩ := qP_mem.mp hj
  exact qLs_at h (qLe_at hl (by simpa using hj))
theorem qW_get {hd : qH} {tc : Nat → ClassId} {B n : Nat} {M : qM} {a : Nat} (ha : a < n) : (qW hd tc B n M)[a]? = some (B + a, qE tc B hd M a) := by
  unfold qW
  rw [List.getElem?_map, List.getElem?_range ha]
  rfl
theorem qW_inv {hd : qH} {tc : Nat → ClassId} {B n : Nat} {M : qM} {a : Nat} {q : Nat × va_E} (h : (qW hd tc B n M)[a]? = some q) : a < n ∧ q = (B + a, qE tc B hd M a) := by
  have hlt : a < n := by
    have := (List.getElem?_eq_some_iff.mp h).1
    simpa [qW] using this
  rw [qW_get hlt] at h
  exact ⟨hlt, (Option.some.inj h).symm⟩
theorem qW_set {hd : qH} {tc : Nat → ClassId} {B n : Nat} {M M' : qM} {a : Nat} (ha : a < n) (ho : ∀ b, b ≠ a → qE tc B hd M' b = qE tc B hd M b) :
    (qW hd tc B n M).set a (B + a, qE tc B hd M' a) = qW hd tc B n M' := by
  apply List.ext_getElem?
  intro i
  by_cases h : i = a
  · subst h
    rw [List.getElem?_set_self (by simpa [qW] using ha), qW_get ha]
  · rw [List.getElem?_set_ne (Ne.symm h)]
    by_cases hi : i < n
    · rw [qW_get hi, qW_get hi, ho i h]
    · rw [List.getElem?_eq_none (by simpa [qW] using hi), List.getElem?_eq_none (by simpa [qW] using hi)]
theorem qW_D {hd : qH} {tc : Nat → ClassId} {B n : Nat} {M : qM} {A : Nat → Prop} (h : ∀ a, a < n → A (B + a)) : va_D A (qW hd tc B n M) := by
  refine ⟨fun i j x y hi hj hxy => ?_, fun k q hk => ?_⟩
  · obtain ⟨-, rfl⟩ := qW_inv hi
    obtain ⟨-, rfl⟩ := qW_inv hj
    have : B + i = B + j := hxy
    omega
  · obtain ⟨h1, rfl⟩ := qW_inv hk
    exact h k h1
theorem qE_congr {tc : Nat → ClassId} {B : Nat} {hd : qH} {M M' : qM} {a : Nat} (h1 : M'.1 a = M.1 a) (h2 : M'.2.1 a = M.2.1 a) (h3 : M'.2.2 a = M.2.2 a) : qE tc B hd M' a = qE tc B hd M a := by
  unfold qE
  cases hd a with
  | inl ci => simp only [qF, h1, h3]
  | inr tn => simp only [qAr, h1, h2, h3]
theorem qE_I {tc : Nat → ClassId} {B : Nat} {hd : qH} {M : qM} {a k : Nat} {x : Nat} (b : Nat) (h : b ≠ a) : qE tc B hd (qI M a k x) b = qE tc B hd M b :=
  qE_congr (funext fun j => by simp [qI, h]) rfl rfl
theorem qE_J {tc : Nat → ClassId} {B : Nat} {hd : qH} {M : qM} {a k : Nat} {x : Int} (b : Nat) (h : b ≠ a) : qE tc B hd (qJ M a k x) b = qE tc B hd M b :=
  qE_congr rfl (funext fun j => by simp [qJ, h]) rfl
theorem qE_R {tc : Nat → ClassId} {B : Nat} {hd : qH} {M : qM} {a k : Nat} {x : Option Nat} (b : Nat) (h : b ≠ a) : qE tc B hd (qR M a k x) b = qE tc B hd M b :=
  qE_congr rfl rfl (funext fun j => by simp [qR, h])
theorem qF_get {B : Nat} {M : qM} {a : Nat} {ks : List Bool} {k : Nat} {r : Bool} (h : ks[k]? = some r) : (qF B M a ks)[k]? = some (if r then va_rf ((M.2.2 a k).map (B + ·)) else .int (nI (M.1 a k))) := by
  unfold qF
  rw [List.getElem?_mapIdx, h]
  rfl
theorem qF_setI {B : Nat} {M : qM} {a : Nat} {ks : List Bool} {k : Nat} {x : Nat} (h : ks[k]? = some false) : (qF B M a ks).set k (.int (nI x)) = qF B (qI M a k x) a ks := by
  apply List.ext_getElem?
  intro i
  have hlen : k < (qF B M a ks).length := by
    have := (List.getElem?_eq_some_iff.mp h).1
    simpa [qF] using this
  by_cases e : i = k
  · subst e
    rw [List.getElem?_set_self hlen, qF_get h]
    simp [qI]
  · rw [List.getElem?_set_ne (Ne.symm e)]
    cases hi : ks[i]? with
    | none => rw [List.getElem?_eq_none (by simpa [qF] using hi), List.getElem?_eq_none (by simpa [qF] using hi)]
    | some r => rw [qF_get hi, qF_get hi]; simp [qI, e]
theorem qF_setR {B : Nat} {M : qM} {a : Nat} {ks : List Bool} {k : Nat} {x : Option Nat} (h : ks[k]? = some true) : (qF B M a ks).set k (va_rf (x.map (B + ·))) = qF B (qR M a k x) a ks := by
  apply List.ext_getElem?
  intro i
  have hlen : k < (qF B M a ks).length := by
    have := (List.getElem?_eq_some_iff.mp h).1
    simpa [qF] using this
  by_cases e : i = k
  · subst e
    rw [List.getElem?_set_self hlen, qF_get h]
    simp [qR]
  · rw [List.getElem?_set_ne (Ne.symm e)]
    cases hi : ks[i]? with
    | none => rw [List.getElem?_eq_none (by simpa [qF] using hi), List.getElem?_eq_none (by simpa [qF] using hi)]
    | some r => rw [qF_get hi, qF_get hi]; simp [qR, e]
theorem qF_len {B : Nat} {M : qM} {a : Nat} {ks : List Bool} : (qF B M a ks).length = ks.length := by simp [qF]
theorem q_over {s U : State} (hW : s.WarmedH U.vm) (h : (Cond.arrayOver (.array .int)).before #[] s = true) : (Cond.arrayOver (.array .int)).before #[] U = true := by
  have h1 : (Cond.arrayOver (.array .int)).before #[] (s.setVm U.vm) = true := by rw [Cond.arrayOver_setVmC hW.alike]; exact h
  exact h1
/-- words that hold of the machine, beside the tables: arrays of states and of rows, the constructors of nested kinds -/
def qN (U : State) : Prop := va_AO "BlindHunts$State" U ∧ (Cond.arrayOver (.array .int)).before #[] U = true ∧ va_Nw (.methodLinkNest RX5 25 yX2_init "BlindHunts") U ∧ va_Nw (.methodLinkNest RX5 32 yX1_init "BlindHunts") U ∧ va_Nw (.methodLinkNest RX5 51 yX4_init "BlindHunts") U
theorem qN.moved {s U : State} (hW : s.WarmedH U.vm) (h : qN s) : qN U :=
  ⟨va_AO.moved hW.alike h.1, q_over hW h.2.1, va_Nw.warmM hW h.2.2.1, va_Nw.warmM hW h.2.2.2.1, va_Nw.warmM hW h.2.2.2.2⟩
theorem goodIn_app9 {big a b : List Cond} (ha : GoodIn big a) (hb : GoodIn big b) : GoodIn big (a ++ b) := fun w h => (List.mem_append.mp h).elim (ha w) (hb w)
def qEnv (p : Program) (s : State) (m : MethodId) (args : Array Value) (meth : Method) (c : Code) (al : Bool) (μ : qMI) : Prop :=
  p.tables.exec = Jvm.exec ∧ c.code = μ.1 ∧ meth.sig.returnType = μ.2.2.2.1 ∧ c.maxLocals = μ.2.2.1 ∧ s.vm.findClass μ.2.1.cls = some m.cls ∧ (∀ w ∈ WS, w.before args s = true) ∧ meth.locks = false ∧ (al = true → meth.name = "<init>" ∧ qN s) ∧ (∀ w ∈ qWs μ, w.before args s = true)
def qZ (κ : qG) (B cs h0 h : Nat) : Prop := if κ.2.1 = true then h0 = B + κ.1 ∧ h = B + κ.1 + cs else cs = 0
/-- what a method answers: Q of the answer and of the memory then -/
def qQ (hd : qH) (κ : qG) (D : va_G) (tc : Nat → ClassId) (B : Nat) (Q : Option Value → qM → Prop) : Array Value → State → Outcome → State → Prop := fun _ st oc t =>
  (∃ (v : Option Value) (M : qM), oc = .returned (v.map (qV B)) ∧ Q v M ∧ (κ.2.1 = true → t.heap.size = B + κ.1 + κ.2.2.1) ∧ va_P D vwCl (qW hd tc B (κ.1 + κ.2.2.1) M) t.heap) ∧ va_F (qFr B κ.1 st.heap.size) st t
def T (l : Launch) (hd : qH) (κ : qG) (μ : qMI) (Q : Option Value → qM → Prop) (cs sl pc : Nat) (loc : List (Option Value)) (st : List Value) (M : qM) : Prop :=
  ∀ (p : Program) (e : Env) (s : State) (m : MethodId) (args : Array Value) (below : List Frame) (meth : Method) (c : Code) (H : Heap) (locs : List Loc) (ls : Array Slot) (D : va_G) (tc : Nat → ClassId) (B : Nat),
    qEnv p s m args meth c κ.2.1 μ → va_K D vwCl (qT tc) s → va_P D vwCl (qW hd tc B (κ.1 + cs) M) H → va_S (qFr B κ.1 s.heap.size) s.heap H locs → qZ κ B cs s.heap.size H.size → lv_has ls μ.2.2.1 (qLs B loc) →
    W p l e μ.2.2.2.2 s m args below meth c H locs cs sl (MQ below (qQ hd κ D tc B Q) args s κ.2.2.1 κ.2.2.2 (qFr B κ.1 s.heap.size)) (F0 m pc ls (st.map (qV B)))
/-- the contract of a method: what it answers from this memory, at these arguments -/
def Ct (l : Launch) (hd : qH) (κ : qG) (μ : qMI) (av : List Value) (M : qM) (Q : Option Value → qM → Prop) : Prop :=
  ∀ (D : va_G) (tc : Nat → ClassId) (B sz : Nat), Met l μ.2.1 (qWs μ) μ.2.2.2.2 (va_Pc (av.map (qV B)) (fun U => U.heap.size = sz ∧ (κ.2.1 = true → sz = B + κ.1 ∧ qN U) ∧ va_P D vwCl (qW hd tc B κ.1 M) U.heap ∧ va_K D vwCl (qT tc) U)) (qQ hd κ D tc B Q) κ.2.2.1 κ.2.2.2 (qFr B κ.1 sz)
theorem Ct.of {l : Launch} {hd : qH} {κ : qG} {μ : qMI} {av : List Value} {M : qM} {Q : Option Value → qM → Prop} (loc : List (Option Value))
    (hy : plainName μ.2.1.cls = true) (hi : κ.2.1 = true → μ.2.1.name = "<init>") (hlen : (lg_sl av).length ≤ μ.2.2.1) (he : lv_args 0 av = qP 0 loc)
    (k : T l hd κ μ Q 0 0 0 loc [] M) : Ct l hd κ μ av M Q := by
  intro D tc B sz
  refine Met.ofW (cc := μ.1) (maxL := μ.2.2.1) (ret := μ.2.2.2.1) hy rfl ?_
  intro p e s m args below meth c s₁ Bd hml hv
  obtain ⟨rfl, hsz, hal, hP, hK⟩ := hv
  have hts : ∀ w ∈ WS, w.before _ s = true := fun w h => atoms_spec (ws := qWs μ) Bd.pre w (List.mem_cons_of_mem _ h)
  have hown : s.vm.findClass μ.2.1.cls = some m.cls := findClass_of_methodNamed Bd.named
  have hlen' : (lg_sl (av.map (qV B))).length ≤ μ.2.2.1 := by
    have : ∀ vs : List Value, (lg_sl (vs.map (qV B))).length = (lg_sl vs).length := by
      intro vs
      induction vs with
      | nil => rfl
      | cons v vs ih =>
        by_cases hc : v.category = 2
        · simp [lg_sl, qV_cat, hc] at ih ⊢; exact ih
        · simp [lg_sl, qV_cat, hc] at ih ⊢; exact ih
    rw [this]; exact hlen
  have hl := lv_entry (av.map (qV B)) (n := μ.2.2.1) hlen'
  rw [lg_entry_eq]
  generalize (lg_sl (av.map (qV B)) ++ List.replicate (μ.2.2.1 - (lg_sl (av.map (qV B))).length) Slot.unset).toArray = ls at hl ⊢
  have hmap : ∀ (vs : List Value) (i : Nat), lv_args i (vs.map (qV B)) = (lv_args i vs).map (fun q => (q.1, qV B q.2)) := by
    intro vs
    induction vs with
    | nil => intro i; rfl
    | cons v vs ih => intro i; simp only [List.map_cons, lv_args, qV_cat, ih]
  rw [hmap, he] at hl
  subst hsz
  refine k p e s m _ below meth c s.heap [] ls D tc B ⟨Bd.exec, Bd.bytes, Bd.returns, hml, hown, hts, Bd.notSynchronized, fun h => ?_, fun w h => atoms_spec (ws := qWs μ) Bd.pre w h⟩ hK hP va_S.rf ?_ hl
  · exact ⟨by rw [← hi h]; exact (name_of_methodNamed Bd.named Bd.method).1, (hal h).2⟩
  · unfold qZ
    by_cases h : κ.2.1 = true
    · rw [if_pos h]; exact ⟨(hal h).1, (hal h).1⟩
    · rw [if_neg h]
theorem Ct.mono {l : Launch} {hd : qH} {κ : qG} {μ : qMI} {av : List Value} {M : qM} {Q Q' : Option Value → qM → Prop} (h : Ct l hd κ μ av M Q) (hq : ∀ v M', Q v M' → Q' v M') : Ct l hd κ μ av M Q' := by
  intro D tc B sz p e ha hc hk s m args below hf happ hP hK
  obtain ⟨t, o, h1, h2, h3, ⟨⟨⟨v, M', e1, e2, e3⟩, hF⟩, hL⟩⟩ := h D tc B sz p e ha hc hk s m args below hf happ hP hK
  exact ⟨t, o, h1, h2, h3, ⟨⟨⟨v, M', e1, hq _ _ e2, e3⟩, hF⟩, hL⟩⟩
end
section
section QRows
variable {l : Launch} {hd : qH} {κ : qG} {μ : qMI} {Q : Option Value → qM → Prop} {cs sl pc pc' : Nat} {loc : List (Option Value)} {st : List Value} {M : qM}
theorem T.drop {loc' : List (Option Value)} (h : qLe loc' loc) (k : T l hd κ μ Q cs sl pc loc' st M) : T l hd κ μ Q cs sl pc loc st M := by
  intro p e s m args below meth c H locs ls D tc B E hK hP hS hZ hL
  exact k p e s m args below meth c H locs ls D tc B E hK hP hS hZ (qLs_le h hL)
theorem T.to {loc' : List (Option Value)} {st' : List Value} {M' : qM} (h1 : loc = loc') (h2 : st = st') (h3 : M = M') (k : T l hd κ μ Q cs sl pc loc' st' M') : T l hd κ μ Q cs sl pc loc st M := by
  subst h1; subst h2; subst h3; exact k
theorem T.top {v v' : Value} (h : v = v') (k : T l hd κ μ Q cs sl pc loc (v' :: st) M) : T l hd κ μ Q cs sl pc loc (v :: st) M := by
  subst h; exact k
theorem T.topi {x y : Int32} (h : x = y) (k : T l hd κ μ Q cs sl pc loc (.int y :: st) M) : T l hd κ μ Q cs sl pc loc (.int x :: st) M := by
  subst h; exact k
theorem T.topl {x y : Int64} (h : x = y) (k : T l hd κ μ Q cs sl pc loc (.long y :: st) M) : T l hd κ μ Q cs sl pc loc (.long x :: st) M := by
  subst h; exact k
theorem T.iconst {n : Int} {v : Int32} (d : decode μ.1 pc = .ok (.iconst n, 1)) (hp : pc + 1 = pc') (hv : Int32.ofInt n = v) (k : T l hd κ μ Q cs sl pc' loc (.int v :: st) M) : T l hd κ μ Q cs sl pc loc (st) M := by
  subst hp
  intro p e s m args below meth c H locs ls D tc B E hK hP hS hZ hL
  exact lv_iconst E.1 E.2.1 d hv (k p e s m args below meth c H locs ls D tc B E hK hP hS hZ hL)
theorem T.bipush {n : Int} {v : Int32} (d : decode μ.1 pc = .ok (.bipush n, 2)) (hp : pc + 2 = pc') (hv : (Int8.ofInt n).toInt32 = v) (k : T l hd κ μ Q cs sl pc' loc (.int v :: st) M) : T l hd κ μ Q cs sl pc loc (st) M := by
  subst hp
  intro p e s m args below meth c H locs ls D tc B E hK hP hS hZ hL
  exact lv_bipush E.1 E.2.1 d hv (k p e s m args below meth c H locs ls D tc B E hK hP hS hZ hL)
theorem T.sipush {n : Int} {v : Int32} (d : decode μ.1 pc = .ok (.sipush n, 3)) (hp : pc + 3 = pc') (hv : (Int16.ofInt n).toInt32 = v) (k : T l hd κ μ Q cs sl pc' loc (.int v :: st) M) : T l hd κ μ Q cs sl pc loc (st) M := by
  subst hp
  intro p e s m args below meth c H locs ls D tc B E hK hP hS hZ hL
  exact lv_sipush E.1 E.2.1 d hv (k p e s m args below meth c H locs ls D tc B E hK hP hS hZ hL)
theorem T.lconst {n : Fin 2} {v : Int64} (d : decode μ.1 pc = .ok (.lconst n, 1)) (hp : pc + 1 = pc') (hv : Int64.ofNat (n : Nat) = v) (k : T l hd κ μ Q cs sl pc' loc (.long v :: st) M) : T l hd κ μ Q cs sl pc loc (st) M := by
  subst hp
  intro p e s m args below meth c H locs ls D tc B E hK hP hS hZ hL
  exact lv_lconst E.1 E.2.1 d hv (k p e s m args below meth c H locs ls D tc B E hK hP hS hZ hL)
theorem T.iload_n {k0 : Fin 4} {i : Nat} {x : Int32} (d : decode μ.1 pc = .ok (.iload_n k0, 1)) (hp : pc + 1 = pc') (hi : (k0 : Nat) = i) (hl : loc[i]? = some (some (.int x))) (k : T l hd κ μ Q cs sl pc' loc (.int x :: st) M) : T l hd κ μ Q cs sl pc loc (st) M := by
  subst hp
  intro p e s m args below meth c H locs ls D tc B E hK hP hS hZ hL
  exact lv_iload_n E.1 E.2.1 d hi (qLs_at hL hl) (k p e s m args below meth c H locs ls D tc B E hK hP hS hZ hL)
theorem T.iload {i : Nat} {x : Int32} (d : decode μ.1 pc = .ok (.iload i, 2)) (hp : pc + 2 = pc') (hl : loc[i]? = some (some (.int x))) (k : T l hd κ μ Q cs sl pc' loc (.int x :: st) M) : T l hd κ μ Q cs sl pc loc (st) M := by
  subst hp
  intro p e s m args below meth c H locs ls D tc B E hK hP hS hZ hL
  exact lv_iload E.1 E.2.1 d (qLs_at hL hl) (k p e s m args below meth c H locs ls D tc B E hK hP hS hZ hL)
theorem T.lload_n {k0 : Fin 4} {i : Nat} {x : Int64} (d : decode μ.1 pc = .ok (.lload_n k0, 1)) (hp : pc + 1 = pc') (hi : (k0 : Nat) = i) (hl : loc[i]? = some (some (.long x))) (k : T l hd κ μ Q cs sl pc' loc (.long x :: st) M) : T l hd κ μ Q cs sl pc loc (st) M := by
  subst hp
  intro p e s m args below meth c H locs ls D tc B E hK hP hS hZ hL
  exact lv_lload_n E.1 E.2.1 d hi (qLs_at hL hl) (k p e s m args below meth c H locs ls D tc B E hK hP hS hZ hL)
theorem T.lload {i : Nat} {x : Int64} (d : decode μ.1 pc = .ok (.lload i, 2)) (hp : pc + 2 = pc') (hl : loc[i]? = some (some (.long x))) (k : T l hd κ μ Q cs sl pc' loc (.long x :: st) M) : T l hd κ μ Q cs sl pc loc (st) M := by
  subst hp
  intro p e s m args below meth c H locs ls D tc B E hK hP hS hZ hL
  exact lv_lload E.1 E.2.1 d (qLs_at hL hl) (k p e s m args below meth c H locs ls D tc B E hK hP hS hZ hL)
theorem T.aload_n {k0 : Fin 4} {i : Nat} {x : Nat} (d : decode μ.1 pc = .ok (.aload_n k0, 1)) (hp : pc + 1 = pc') (hi : (k0 : Nat) = i) (hl : loc[i]? = some (some (.ref x))) (k : T l hd κ μ Q cs sl pc' loc (.ref x :: st) M) : T l hd κ μ Q cs sl pc loc (st) M := by
  subst hp
  intro p e s m args below meth c H locs ls D tc B E hK hP hS hZ hL
  exact lv_aload_n E.1 E.2.1 d hi (qLs_at hL hl) (k p e s m args below meth c H locs ls D tc B E hK hP hS hZ hL)
theorem T.aload {i : Nat} {x : Nat} (d : decode μ.1 pc = .ok (.aload i, 2)) (hp : pc + 2 = pc') (hl : loc[i]? = some (some (.ref x))) (k : T l hd κ μ Q cs sl pc' loc (.ref x :: st) M) : T l hd κ μ Q cs sl pc loc (st) M := by
  subst hp
  intro p e s m args below meth c H locs ls D tc B E hK hP hS hZ hL
  exact lv_aload E.1 E.2.1 d (qLs_at hL hl) (k p e s m args below meth c H locs ls D tc B E hK hP hS hZ hL)
theorem T.istore_n {i : Nat} {k0 : Fin 4} {x : Int32} {loc' : List (Option Value)} (d : decode μ.1 pc = .ok (.istore_n k0, 1)) (hp : pc + 1 = pc') (hi : (k0 : Nat) = i) (hn : i < μ.2.2.1) (hok : qOk loc i = true) (hl : loc.set i (some (.int x)) = loc') (k : T l hd κ μ Q cs sl pc' loc' st M) : T l hd κ μ Q cs sl pc loc (.int x :: st) M := by
  subst hp; subst hl
  intro p e s m args below meth c H locs ls D tc B E hK hP hS hZ hL
  refine lv_istore_n E.1 E.2.1 d hi hL hn rfl (fun ls' hL' => ?_)
  exact k p e s m args below meth c H locs ls' D tc B E hK hP hS hZ (qLs_set1 hok hL')
theorem T.istore {i : Nat} {x : Int32} {loc' : List (Option Value)} (d : decode μ.1 pc = .ok (.istore i, 2)) (hp : pc + 2 = pc') (hn : i < μ.2.2.1) (hok : qOk loc i = true) (hl : loc.set i (some (.int x)) = loc') (k : T l hd κ μ Q cs sl pc' loc' st M) : T l hd κ μ Q cs sl pc loc (.int x :: st) M := by
  subst hp; subst hl
  intro p e s m args below meth c H locs ls D tc B E hK hP hS hZ hL
  refine lv_istore E.1 E.2.1 d hL hn rfl (fun ls' hL' => ?_)
  exact k p e s m args below meth c H locs ls' D tc B E hK hP hS hZ (qLs_set1 hok hL')
theorem T.lstore_n {i : Nat} {k0 : Fin 4} {x : Int64} {loc' : List (Option Value)} (d : decode μ.1 pc = .ok (.lstore_n k0, 1)) (hp : pc + 1 = pc') (hi : (k0 : Nat) = i) (hn : i + 1 < μ.2.2.1) (hok : qOk loc i = true) (hl : (loc.set i (some (.long x))).set (i + 1) none = loc') (k : T l hd κ μ Q cs sl pc' loc' st M) : T l hd κ μ Q cs sl pc loc (.long x :: st) M := by
  subst hp; subst hl
  intro p e s m args below meth c H locs ls D tc B E hK hP hS hZ hL
  refine lv_lstore_n E.1 E.2.1 d hi hL hn rfl (fun ls' hL' => ?_)
  exact k p e s m args below meth c H locs ls' D tc B E hK hP hS hZ (qLs_set2 hok hL')
theorem T.lstore {i : Nat} {x : Int64} {loc' : List (Option Value)} (d : decode μ.1 pc = .ok (.lstore i, 2)) (hp : pc + 2 = pc') (hn : i + 1 < μ.2.2.1) (hok : qOk loc i = true) (hl : (loc.set i (some (.long x))).set (i + 1) none = loc') (k : T l hd κ μ Q cs sl pc' loc' st M) : T l hd κ μ Q cs sl pc loc (.long x :: st) M := by
  subst hp; subst hl
  intro p e s m args below meth c H locs ls D tc B E hK hP hS hZ hL
  refine lv_lstore E.1 E.2.1 d hL hn rfl (fun ls' hL' => ?_)
  exact k p e s m args below meth c H locs ls' D tc B E hK hP hS hZ (qLs_set2 hok hL')
theorem T.astore_n {i : Nat} {k0 : Fin 4} {x : Nat} {loc' : List (Option Value)} (d : decode μ.1 pc = .ok (.astore_n k0, 1)) (hp : pc + 1 = pc') (hi : (k0 : Nat) = i) (hn : i < μ.2.2.1) (hok : qOk loc i = true) (hl : loc.set i (some (.ref x)) = loc') (k : T l hd κ μ Q cs sl pc' loc' st M) : T l hd κ μ Q cs sl pc loc (.ref x :: st) M := by
  subst hp; subst hl
  intro p e s m args below meth c H locs ls D tc B E hK hP hS hZ hL
  refine lv_astore_n E.1 E.2.1 d hi hL hn rfl (fun ls' hL' => ?_)
  exact k p e s m args below meth c H locs ls' D tc B E hK hP hS hZ (qLs_set1 hok hL')
theorem T.astore {i : Nat} {x : Nat} {loc' : List (Option Value)} (d : decode μ.1 pc = .ok (.astore i, 2)) (hp : pc + 2 = pc') (hn : i < μ.2.2.1) (hok : qOk loc i = true) (hl : loc.set i (some (.ref x)) = loc') (k : T l hd κ μ Q cs sl pc' loc' st M) : T l hd κ μ Q cs sl pc loc (.ref x :: st) M := by
  subst hp; subst hl
  intro p e s m args below meth c H locs ls D tc B E hK hP hS hZ hL
  refine lv_astore E.1 E.2.1 d hL hn rfl (fun ls' hL' => ?_)
  exact k p e s m args below meth c H locs ls' D tc B E hK hP hS hZ (qLs_set1 hok hL')
theorem T.iinc {i : Nat} {n : Int} {x v : Int32} {loc' : List (Option Value)} (d : decode μ.1 pc = .ok (.iinc i n, 3)) (hp : pc + 3 = pc') (hl : loc[i]? = some (some (.int x))) (hv : x + Int32.ofInt n = v) (hn : i < μ.2.2.1) (hok : qOk loc i = true) (h' : loc.set i (some (.int v)) = loc') (k : T l hd κ μ Q cs sl pc' loc' st M) : T l hd κ μ Q cs sl pc loc st M := by
  subst hp; subst h'
  intro p e s m args below meth c H locs ls D tc B E hK hP hS hZ hL
  have hm : (i, Value.int x) ∈ qLs B loc := List.mem_map.mpr ⟨(i, .int x), qP_mem.mpr ⟨Nat.zero_le _, by simpa using hl⟩, rfl⟩
  obtain ⟨j, hj⟩ := List.getElem?_of_mem hm
  refine lv_iinc E.1 E.2.1 d hL (k := j) hj hv hn rfl (fun ls' hL' => ?_)
  exact k p e s m args below meth c H locs ls' D tc B E hK hP hS hZ (qLs_set1 hok hL')
theorem T.iadd {x y z : Int32} (d : decode μ.1 pc = .ok (.iadd, 1)) (hp : pc + 1 = pc') (hz : x + y = z) (k : T l hd κ μ Q cs sl pc' loc (.int z :: st) M) : T l hd κ μ Q cs sl pc loc (.int y :: .int x :: st) M := by
  subst hp; subst hz
  intro p e s m args below meth c H locs ls D tc B E hK hP hS hZ hL
  exact lv_iadd E.1 E.2.1 d (k p e s m args below meth c H locs ls D tc B E hK hP hS hZ hL)
theorem T.isub {x y z : Int32} (d : decode μ.1 pc = .ok (.isub, 1)) (hp : pc + 1 = pc') (hz : x - y = z) (k : T l hd κ μ Q cs sl pc' loc (.int z :: st) M) : T l hd κ μ Q cs sl pc loc (.int y :: .int x :: st) M := by
  subst hp; subst hz
  intro p e s m args below meth c H locs ls D tc B E hK hP hS hZ hL
  exact lv_isub E.1 E.2.1 d (k p e s m args below meth c H locs ls D tc B E hK hP hS hZ hL)
theorem T.imul {x y z : Int32} (d : decode μ.1 pc = .ok (.imul, 1)) (hp : pc + 1 = pc') (hz : x * y = z) (k : T l hd κ μ Q cs sl pc' loc (.int z :: st) M) : T l hd κ μ Q cs sl pc loc (.int y :: .int x :: st) M := by
  subst hp; subst hz
  intro p e s m args below meth c H locs ls D tc B E hK hP hS hZ hL
  exact lv_imul E.1 E.2.1 d (k p e s m args below meth c H locs ls D tc B E hK hP hS hZ hL)
theorem T.iand {x y z : Int32} (d : decode μ.1 pc = .ok (.iand, 1)) (hp : pc + 1 = pc') (hz : x &&& y = z) (k : T l hd κ μ Q cs sl pc' loc (.int z :: st) M) : T l hd κ μ Q cs sl pc loc (.int y :: .int x :: st) M := by
  subst hp; subst hz
  intro p e s m args below meth c H locs ls D tc B E hK hP hS hZ hL
  exact lv_iand E.1 E.2.1 d (k p e s m args below meth c H locs ls D tc B E hK hP hS hZ hL)
theorem T.ior {x y z : Int32} (d : decode μ.1 pc = .ok (.ior, 1)) (hp : pc + 1 = pc') (hz : x ||| y = z) (k : T l hd κ μ Q cs sl pc' loc (.int z :: st) M) : T l hd κ μ Q cs sl pc loc (.int y :: .int x :: st) M := by
  subst hp; subst hz
  intro p e s m args below meth c H locs ls D tc B E hK hP hS hZ hL
  exact lv_ior E.1 E.2.1 d (k p e s m args below meth c H locs ls D tc B E hK hP hS hZ hL)
theorem T.ixor {x y z : Int32} (d : decode μ.1 pc = .ok (.ixor, 1)) (hp : pc + 1 = pc') (hz : x ^^^ y = z) (k : T l hd κ μ Q cs sl pc' loc (.int z :: st) M) : T l hd κ μ Q cs sl pc loc (.int y :: .int x :: st) M := by
  subst hp; subst hz
  intro p e s m args below meth c H locs ls D tc B E hK hP hS hZ hL
  exact lv_ixor E.1 E.2.1 d (k p e s m args below meth c H locs ls D tc B E hK hP hS hZ hL)
theorem T.ishl {x y z : Int32} (d : decode μ.1 pc = .ok (.ishl, 1)) (hp : pc + 1 = pc') (hz : x <<< (y &&& 31) = z) (k : T l hd κ μ Q cs sl pc' loc (.int z :: st) M) : T l hd κ μ Q cs sl pc loc (.int y :: .int x :: st) M := by
  subst hp; subst hz
  intro p e s m args below meth c H locs ls D tc B E hK hP hS hZ hL
  exact lv_ishl E.1 E.2.1 d (k p e s m args below meth c H locs ls D tc B E hK hP hS hZ hL)
theorem T.ishr {x y z : Int32} (d : decode μ.1 pc = .ok (.ishr, 1)) (hp : pc + 1 = pc') (hz : x >>> (y &&& 31) = z) (k : T l hd κ μ Q cs sl pc' loc (.int z :: st) M) : T l hd κ μ Q cs sl pc loc (.int y :: .int x :: st) M := by
  subst hp; subst hz
  intro p e s m args below meth c H locs ls D tc B E hK hP hS hZ hL
  exact lv_ishr E.1 E.2.1 d (k p e s m args below meth c H locs ls D tc B E hK hP hS hZ hL)
theorem T.iushr {x y z : Int32} (d : decode μ.1 pc = .ok (.iushr, 1)) (hp : pc + 1 = pc') (hz : (x.toUInt32 >>> (y.toUInt32 &&& Int32.toUInt32 31)).toInt32 = z) (k : T l hd κ μ Q cs sl pc' loc (.int z :: st) M) : T l hd κ μ Q cs sl pc loc (.int y :: .int x :: st) M := by
  subst hp
  intro p e s m args below meth c H locs ls D tc B E hK hP hS hZ hL
  exact lv_iushr E.1 E.2.1 d hz (k p e s m args below meth c H locs ls D tc B E hK hP hS hZ hL)
theorem T.idiv {x y z : Int32} (d : decode μ.1 pc = .ok (.idiv, 1)) (hp : pc + 1 = pc') (hne : ¬ y = 0) (hz : x / y = z) (k : T l hd κ μ Q cs sl pc' loc (.int z :: st) M) : T l hd κ μ Q cs sl pc loc (.int y :: .int x :: st) M := by
  subst hp; subst hz
  intro p e s m args below meth c H locs ls D tc B E hK hP hS hZ hL
  exact lv_idiv E.1 E.2.1 d hne (k p e s m args below meth c H locs ls D tc B E hK hP hS hZ hL)
theorem T.ladd {x y z : Int64} (d : decode μ.1 pc = .ok (.ladd, 1)) (hp : pc + 1 = pc') (hz : x + y = z) (k : T l hd κ μ Q cs sl pc' loc (.long z :: st) M) : T l hd κ μ Q cs sl pc loc (.long y :: .long x :: st) M := by
  subst hp; subst hz
  intro p e s m args below meth c H locs ls D tc B E hK hP hS hZ hL
  exact lv_ladd E.1 E.2.1 d (k p e s m args below meth c H locs ls D tc B E hK hP hS hZ hL)
theorem T.lsub {x y z : Int64} (d : decode μ.1 pc = .ok (.lsub, 1)) (hp : pc + 1 = pc') (hz : x - y = z) (k : T l hd κ μ Q cs sl pc' loc (.long z :: st) M) : T l hd κ μ Q cs sl pc loc (.long y :: .long x :: st) M := by
  subst hp; subst hz
  intro p e s m args below meth c H locs ls D tc B E hK hP hS hZ hL
  exact lv_lsub E.1 E.2.1 d (k p e s m args below meth c H locs ls D tc B E hK hP hS hZ hL)
theorem T.i2l {x : Int32} {v : Int64} (d : decode μ.1 pc = .ok (.i2l, 1)) (hp : pc + 1 = pc') (hv : x.toInt64 = v) (k : T l hd κ μ Q cs sl pc' loc (.long v :: st) M) : T l hd κ μ Q cs sl pc loc (.int x :: st) M := by
  subst hp
  intro p e s m args below meth c H locs ls D tc B E hK hP hS hZ hL
  exact lv_i2l E.1 E.2.1 d hv (k p e s m args below meth c H locs ls D tc B E hK hP hS hZ hL)
theorem T.i2c {x v : Int32} (d : decode μ.1 pc = .ok (.i2c, 1)) (hp : pc + 1 = pc') (hv : (x.toUInt32 % 65536).toInt32 = v) (k : T l hd κ μ Q cs sl pc' loc (.int v :: st) M) : T l hd κ μ Q cs sl pc loc (.int x :: st) M := by
  subst hp
  intro p e s m args below meth c H locs ls D tc B E hK hP hS hZ hL
  exact lv_i2c E.1 E.2.1 d hv (k p e s m args below meth c H locs ls D tc B E hK hP hS hZ hL)
theorem T.dup {v : Value} (d : decode μ.1 pc = .ok (.dup, 1)) (hp : pc + 1 = pc') (hc : v.category = 1) (k : T l hd κ μ Q cs sl pc' loc (v :: v :: st) M) : T l hd κ μ Q cs sl pc loc (v :: st) M := by
  subst hp
  intro p e s m args below meth c H locs ls D tc B E hK hP hS hZ hL
  exact lv_dup E.1 E.2.1 d ((qV_cat B v).trans hc) (k p e s m args below meth c H locs ls D tc B E hK hP hS hZ hL)
theorem T.dup2 {v w : Value} (d : decode μ.1 pc = .ok (.dup2, 1)) (hp : pc + 1 = pc') (hc : v.category = 1) (hc2 : w.category = 1) (k : T l hd κ μ Q cs sl pc' loc (v :: w :: v :: w :: st) M) : T l hd κ μ Q cs sl pc loc (v :: w :: st) M := by
  subst hp
  intro p e s m args below meth c H locs ls D tc B E hK hP hS hZ hL
  exact lv_dup2_11 E.1 E.2.1 d ((qV_cat B v).trans hc) ((qV_cat B w).trans hc2) (k p e s m args below meth c H locs ls D tc B E hK hP hS hZ hL)
theorem T.if_eq {x : Int32} {off : Int} {tgt : Nat} (d : decode μ.1 pc = .ok (.ifCond .eq off, 3)) (hp : pc + 3 = pc') (ht : (pc : Int) + off = (tgt : Int)) (kt : x = 0 → T l hd κ μ Q cs sl tgt loc st M) (kf : ¬ x = 0 → T l hd κ μ Q cs sl pc' loc st M) : T l hd κ μ Q cs sl pc loc (.int x :: st) M := by
  subst hp
  intro p e s m args below meth c H locs ls D tc B E hK hP hS hZ hL
  exact lv_if_eq E.1 E.2.1 d ht (fun hc => (kt hc p e s m args below meth c H locs ls D tc B E hK hP hS hZ hL)) (fun hc => (kf hc p e s m args below meth c H locs ls D tc B E hK hP hS hZ hL))
theorem T.icmp_eq {x y : Int32} {off : Int} {tgt : Nat} (d : decode μ.1 pc = .ok (.if_icmp .eq off, 3)) (hp : pc + 3 = pc') (ht : (pc : Int) + off = (tgt : Int)) (kt : x = y → T l hd κ μ Q cs sl tgt loc st M) (kf : ¬ x = y → T l hd κ μ Q cs sl pc' loc st M) : T l hd κ μ Q cs sl pc loc (.int y :: .int x :: st) M := by
  subst hp
  intro p e s m args below meth c H locs ls D tc B E hK hP hS hZ hL
  exact lv_icmp_eq E.1 E.2.1 d ht (fun hc => (kt hc p e s m args below meth c H locs ls D tc B E hK hP hS hZ hL)) (fun hc => (kf hc p e s m args below meth c H locs ls D tc B E hK hP hS hZ hL))
theorem T.if_ne {x : Int32} {off : Int} {tgt : Nat} (d : decode μ.1 pc = .ok (.ifCond .ne off, 3)) (hp : pc + 3 = pc') (ht : (pc : Int) + off = (tgt : Int)) (kt : ¬ x = 0 → T l hd κ μ Q cs sl tgt loc st M) (kf : x = 0 → T l hd κ μ Q cs sl pc' loc st M) : T l hd κ μ Q cs sl pc loc (.int x :: st) M := by
  subst hp
  intro p e s m args below meth c H locs ls D tc B E hK hP hS hZ hL
  exact lv_if_ne E.1 E.2.1 d ht (fun hc => (kt hc p e s m args below meth c H locs ls D tc B E hK hP hS hZ hL)) (fun hc => (kf hc p e s m args below meth c H locs ls D tc B E hK hP hS hZ hL))
theorem T.icmp_ne {x y : Int32} {off : Int} {tgt : Nat} (d : decode μ.1 pc = .ok (.if_icmp .ne off, 3)) (hp : pc + 3 = pc') (ht : (pc : Int) + off = (tgt : Int)) (kt : ¬ x = y → T l hd κ μ Q cs sl tgt loc st M) (kf : x = y → T l hd κ μ Q cs sl pc' loc st M) : T l hd κ μ Q cs sl pc loc (.int y :: .int x :: st) M := by
  subst hp
  intro p e s m args below meth c H locs ls D tc B E hK hP hS hZ hL
  exact lv_icmp_ne E.1 E.2.1 d ht (fun hc => (kt hc p e s m args below meth c H locs ls D tc B E hK hP hS hZ hL)) (fun hc => (kf hc p e s m args below meth c H locs ls D tc B E hK hP hS hZ hL))
theorem T.if_lt {x : Int32} {off : Int} {tgt : Nat} (d : decode μ.1 pc = .ok (.ifCond .lt off, 3)) (hp : pc + 3 = pc') (ht : (pc : Int) + off = (tgt : Int)) (kt : x < 0 → T l hd κ μ Q cs sl tgt loc st M) (kf : ¬ x < 0 → T l hd κ μ Q cs sl pc' loc st M) : T l hd κ μ Q cs sl pc loc (.int x :: st) M := by
  subst hp
  intro p e s m args below meth c H locs ls D tc B E hK hP hS hZ hL
  exact lv_if_lt E.1 E.2.1 d ht (fun hc => (kt hc p e s m args below meth c H locs ls D tc B E hK hP hS hZ hL)) (fun hc => (kf hc p e s m args below meth c H locs ls D tc B E hK hP hS hZ hL))
theorem T.icmp_lt {x y : Int32} {off : Int} {tgt : Nat} (d : decode μ.1 pc = .ok (.if_icmp .lt off, 3)) (hp : pc + 3 = pc') (ht : (pc : Int) + off = (tgt : Int)) (kt : x < y → T l hd κ μ Q cs sl tgt loc st M) (kf : ¬ x < y → T l hd κ μ Q cs sl pc' loc st M) : T l hd κ μ Q cs sl pc loc (.int y :: .int x :: st) M := by
  subst hp
  intro p e s m args below meth c H locs ls D tc B E hK hP hS hZ hL
  exact lv_icmp_lt E.1 E.2.1 d ht (fun hc => (kt hc p e s m args below meth c H locs ls D tc B E hK hP hS hZ hL)) (fun hc => (kf hc p e s m args below meth c H locs ls D tc B E hK hP hS hZ hL))
theorem T.if_ge {x : Int32} {off : Int} {tgt : Nat} (d : decode μ.1 pc = .ok (.ifCond .ge off, 3)) (hp : pc + 3 = pc') (ht : (pc : Int) + off = (tgt : Int)) (kt : 0 ≤ x → T l hd κ μ Q cs sl tgt loc st M) (kf : ¬ 0 ≤ x → T l hd κ μ Q cs sl pc' loc st M) : T l hd κ μ Q cs sl pc loc (.int x :: st) M := by
  subst hp
  intro p e s m args below meth c H locs ls D tc B E hK hP hS hZ hL
  exact lv_if_ge E.1 E.2.1 d ht (fun hc => (kt hc p e s m args below meth c H locs ls D tc B E hK hP hS hZ hL)) (fun hc => (kf hc p e s m args below meth c H locs ls D tc B E hK hP hS hZ hL))
theorem T.icmp_ge {x y : Int32} {off : Int} {tgt : Nat} (d : decode μ.1 pc = .ok (.if_icmp .ge off, 3)) (hp : pc + 3 = pc') (ht : (pc : Int) + off = (tgt : Int)) (kt : y ≤ x → T l hd κ μ Q cs sl tgt loc st M) (kf : ¬ y ≤ x → T l hd κ μ Q cs sl pc' loc st M) : T l hd κ μ Q cs sl pc loc (.int y :: .int x :: st) M := by
  subst hp
  intro p e s m args below meth c H locs ls D tc B E hK hP hS hZ hL
  exact lv_icmp_ge E.1 E.2.1 d ht (fun hc => (kt hc p e s m args below meth c H locs ls D tc B E hK hP hS hZ hL)) (fun hc => (kf hc p e s m args below meth c H locs ls D tc B E hK hP hS hZ hL))
theorem T.if_gt {x : Int32} {off : Int} {tgt : Nat} (d : decode μ.1 pc = .ok (.ifCond .gt off, 3)) (hp : pc + 3 = pc') (ht : (pc : Int) + off = (tgt : Int)) (kt : 0 < x → T l hd κ μ Q cs sl tgt loc st M) (kf : ¬ 0 < x → T l hd κ μ Q cs sl pc' loc st M) : T l hd κ μ Q cs sl pc loc (.int x :: st) M := by
  subst hp
  intro p e s m args below meth c H locs ls D tc B E hK hP hS hZ hL
  exact lv_if_gt E.1 E.2.1 d ht (fun hc => (kt hc p e s m args below meth c H locs ls D tc B E hK hP hS hZ hL)) (fun hc => (kf hc p e s m args below meth c H locs ls D tc B E hK hP hS hZ hL))
theorem T.icmp_gt {x y : Int32} {off : Int} {tgt : Nat} (d : decode μ.1 pc = .ok (.if_icmp .gt off, 3)) (hp : pc + 3 = pc') (ht : (pc : Int) + off = (tgt : Int)) (kt : y < x → T l hd κ μ Q cs sl tgt loc st M) (kf : ¬ y < x → T l hd κ μ Q cs sl pc' loc st M) : T l hd κ μ Q cs sl pc loc (.int y :: .int x :: st) M := by
  subst hp
  intro p e s m args below meth c H locs ls D tc B E hK hP hS hZ hL
  exact lv_icmp_gt E.1 E.2.1 d ht (fun hc => (kt hc p e s m args below meth c H locs ls D tc B E hK hP hS hZ hL)) (fun hc => (kf hc p e s m args below meth c H locs ls D tc B E hK hP hS hZ hL))
theorem T.if_le {x : Int32} {off : Int} {tgt : Nat} (d : decode μ.1 pc = .ok (.ifCond .le off, 3)) (hp : pc + 3 = pc') (ht : (pc : Int) + off = (tgt : Int)) (kt : x ≤ 0 → T l hd κ μ Q cs sl tgt loc st M) (kf : ¬ x ≤ 0 → T l hd κ μ Q cs sl pc' loc st M) : T l hd κ μ Q cs sl pc loc (.int x :: st) M := by
  subst hp
  intro p e s m args below meth c H locs ls D tc B E hK hP hS hZ hL
  exact lv_if_le E.1 E.2.1 d ht (fun hc => (kt hc p e s m args below meth c H locs ls D tc B E hK hP hS hZ hL)) (fun hc => (kf hc p e s m args below meth c H locs ls D tc B E hK hP hS hZ hL))
theorem T.icmp_le {x y : Int32} {off : Int} {tgt : Nat} (d : decode μ.1 pc = .ok (.if_icmp .le off, 3)) (hp : pc + 3 = pc') (ht : (pc : Int) + off = (tgt : Int)) (kt : x ≤ y → T l hd κ μ Q cs sl tgt loc st M) (kf : ¬ x ≤ y → T l hd κ μ Q cs sl pc' loc st M) : T l hd κ μ Q cs sl pc loc (.int y :: .int x :: st) M := by
  subst hp
  intro p e s m args below meth c H locs ls D tc B E hK hP hS hZ hL
  exact lv_icmp_le E.1 E.2.1 d ht (fun hc => (kt hc p e s m args below meth c H locs ls D tc B E hK hP hS hZ hL)) (fun hc => (kf hc p e s m args below meth c H locs ls D tc B E hK hP hS hZ hL))
theorem T.goto {off : Int} {tgt : Nat} (d : decode μ.1 pc = .ok (.goto off, 3)) (ht : (pc : Int) + off = (tgt : Int)) (k : T l hd κ μ Q cs sl tgt loc st M) : T l hd κ μ Q cs sl pc loc st M := by
  intro p e s m args below meth c H locs ls D tc B E hK hP hS hZ hL
  exact lv_goto E.1 E.2.1 d ht (k p e s m args below meth c H locs ls D tc B E hK hP hS hZ hL)
theorem T.ldc {index : Nat} {v : Int32} (d : decode μ.1 pc = .ok (.ldc index, 2)) (hp : pc + 2 = pc') (hc : Cond.constant μ.2.1.cls index v ∈ WS) (k : T l hd κ μ Q cs sl pc' loc (.int v :: st) M) : T l hd κ μ Q cs sl pc loc st M := by
  subst hp
  intro p e s m args below meth c H locs ls D tc B E hK hP hS hZ hL
  exact lv_ldc E.1 E.2.1 E.2.2.2.2.1 (E.2.2.2.2.2.1 _ hc) d (k p e s m args below meth c H locs ls D tc B E hK hP hS hZ hL)
theorem T.ldcw {index : Nat} {v : Int32} (d : decode μ.1 pc = .ok (.ldc_w index, 3)) (hp : pc + 3 = pc') (hc : Cond.constant μ.2.1.cls index v ∈ WS) (k : T l hd κ μ Q cs sl pc' loc (.int v :: st) M) : T l hd κ μ Q cs sl pc loc st M := by
  subst hp
  intro p e s m args below meth c H locs ls D tc B E hK hP hS hZ hL
  exact lv_ldcw E.1 E.2.1 E.2.2.2.2.1 (E.2.2.2.2.2.1 _ hc) d (k p e s m args below meth c H locs ls D tc B E hK hP hS hZ hL)
theorem T.ldc2 {index : Nat} {v : Int64} (d : decode μ.1 pc = .ok (.ldc2_w index, 3)) (hp : pc + 3 = pc') (hc : Cond.constantLong μ.2.1.cls index v ∈ WS) (k : T l hd κ μ Q cs sl pc' loc (.long v :: st) M) : T l hd κ μ Q cs sl pc loc st M := by
  subst hp
  intro p e s m args below meth c H locs ls D tc B E hK hP hS hZ hL
  exact lv_ldc2 E.1 E.2.1 E.2.2.2.2.1 (E.2.2.2.2.2.1 _ hc) d (k p e s m args below meth c H locs ls D tc B E hK hP hS hZ hL)
theorem T.tableOut {dflt lo hi : Int} {offs : Array Int} {len : Nat} {x : Int32} {tgt : Nat} (d : decode μ.1 pc = .ok (.tableswitch dflt lo hi offs, len)) (h : x.toInt < lo ∨ hi < x.toInt) (ht : (pc : Int) + dflt = (tgt : Int)) (k : T l hd κ μ Q cs sl tgt loc st M) : T l hd κ μ Q cs sl pc loc (.int x :: st) M := by
  intro p e s m args below meth c H locs ls D tc B E hK hP hS hZ hL
  exact lv_tableOut E.1 E.2.1 d h ht (k p e s m args below meth c H locs ls D tc B E hK hP hS hZ hL)
theorem T.tableIn {dflt lo hi off : Int} {offs : Array Int} {len : Nat} {x : Int32} {tgt : Nat} (d : decode μ.1 pc = .ok (.tableswitch dflt lo hi offs, len)) (h1 : ¬ x.toInt < lo) (h2 : ¬ hi < x.toInt) (ho : offs[(x.toInt - lo).toNat]? = some off) (ht : (pc : Int) + off = (tgt : Int)) (k : T l hd κ μ Q cs sl tgt loc st M) : T l hd κ μ Q cs sl pc loc (.int x :: st) M := by
  intro p e s m args below meth c H locs ls D tc B E hK hP hS hZ hL
  exact lv_tableIn E.1 E.2.1 d h1 h2 ho ht (k p e s m args below meth c H locs ls D tc B E hK hP hS hZ hL)
theorem T.lcmp {x y : Int64} {z : Int32} (d : decode μ.1 pc = .ok (.lcmp, 1)) (hp : pc + 1 = pc') (hz : lg_cmp x y = z) (k : T l hd κ μ Q cs sl pc' loc (.int z :: st) M) : T l hd κ μ Q cs sl pc loc (.long y :: .long x :: st) M := by
  subst hp; subst hz
  intro p e s m args below meth c H locs ls D tc B E hK hP hS hZ hL
  exact W.lcmp E.1 E.2.1 d (k p e s m args below meth c H locs ls D tc B E hK hP hS hZ hL)
theorem qA_in {κ : qG} {B cs h0 h a : Nat} (hZ : qZ κ B cs h0 h) (ha : a < κ.1 + cs) : qFr B κ.1 h0 (B + a) := by
  unfold qZ at hZ
  by_cases hb : κ.2.1 = true
  · rw [if_pos hb] at hZ
    by_cases h1 : a < κ.1
    · exact Or.inl ⟨Nat.le_add_right _ _, by omega⟩
    · exact Or.inr (by omega)
  · rw [if_neg hb] at hZ
    subst hZ
    exact Or.inl ⟨Nat.le_add_right _ _, by omega⟩
theorem qWD {hd : qH} {κ : qG} {tc : Nat → ClassId} {B cs h0 h : Nat} {M : qM} (hZ : qZ κ B cs h0 h) : va_D (qFr B κ.1 h0) (qW hd tc B (κ.1 + cs) M) := qW_D (fun _ ha => qA_in hZ ha)
theorem qZ_put {κ : qG} {B cs h0 h h1 : Nat} (hZ : qZ κ B cs h0 h) (e : h1 = h) : qZ κ B cs h0 h1 := by subst e; exact hZ
theorem T.getI {a ci k0 index N : Nat} {C : String} {F : u_T} (d : decode μ.1 pc = .ok (.getfield index, 3)) (hp : pc + 3 = pc') (hh : hd a = .inl ci) (ha : a < κ.1 + cs) (hc : vwCl[ci]? = some (C, F, N)) (hin : ∀ w ∈ u_ws C F N, w ∈ WS) (hk : k0 < N) (hkd : (qK ci)[k0]? = some false)
    (hlink : Cond.fieldLink μ.2.1.cls index (F k0).1 (F k0).2.1 (F k0).2.2.1 ∈ WS) {x : Nat} (hx : M.1 a k0 = x) (k : T l hd κ μ Q cs sl pc' loc (.int (nI x) :: st) M) : T l hd κ μ Q cs sl pc loc (.ref a :: st) M := by
  subst hp; subst hx
  intro p e s m args below meth c H locs ls D tc B E hK hP hS hZ hL
  have he : (qW hd tc B (κ.1 + cs) M)[a]? = some (B + a, .inr (ci, qF B M a (qK ci))) := by rw [qW_get ha]; simp only [qE, hh]
  exact va_get (D := D) (ci := ci) (v := .int (nI (M.1 a k0))) E.1 E.2.1 E.2.2.2.2.2.1 hin E.2.2.2.2.1 hK hP a he hc k0 hk (E.2.2.2.2.2.1 _ hlink) (fun _ h9 => h9) (by rw [qF_get hkd]; rfl) d (k p e s m args below meth c H locs ls D tc B E hK hP hS hZ hL)
theorem T.getR {a ci k0 index N : Nat} {C : String} {F : u_T} (d : decode μ.1 pc = .ok (.getfield index, 3)) (hp : pc + 3 = pc') (hh : hd a = .inl ci) (ha : a < κ.1 + cs) (hc : vwCl[ci]? = some (C, F, N)) (hin : ∀ w ∈ u_ws C F N, w ∈ WS) (hk : k0 < N) (hkd : (qK ci)[k0]? = some true)
    (hlink : Cond.fieldLink μ.2.1.cls index (F k0).1 (F k0).2.1 (F k0).2.2.1 ∈ WS) {b : Nat} (hx : M.2.2 a k0 = some b) (k : T l hd κ μ Q cs sl pc' loc (.ref b :: st) M) : T l hd κ μ Q cs sl pc loc (.ref a :: st) M := by
  subst hp
  intro p e s m args below meth c H locs ls D tc B E hK hP hS hZ hL
  have he : (qW hd tc B (κ.1 + cs) M)[a]? = some (B + a, .inr (ci, qF B M a (qK ci))) := by rw [qW_get ha]; simp only [qE, hh]
  exact va_get (D := D) (ci := ci) (v := .ref (B + b)) E.1 E.2.1 E.2.2.2.2.2.1 hin E.2.2.2.2.1 hK hP a he hc k0 hk (E.2.2.2.2.2.1 _ hlink) (fun _ h9 => h9) (by rw [qF_get hkd, hx]; rfl) d (k p e s m args below meth c H locs ls D tc B E hK hP hS hZ hL)
/-- what a store into a cell leaves -/
theorem q_stored {D : va_G} {tc : Nat → ClassId} {hd : qH} {κ : qG} {B cs h0 a : Nat} {M M' : qM} {H H1 : Heap} {locs : List Loc} {H0 : Heap} {k9 : Nat} (hP : va_P D vwCl (qW hd tc B (κ.1 + cs) M) H) (hS : va_S (qFr B κ.1 h0) H0 H locs) (hZ : qZ κ B cs h0 H.size) (ha : a < κ.1 + cs)
    (he : va_at D vwCl (B + a, qE tc B hd M' a) H1) (z : H1.size = H.size) (oq : ∀ q : Nat, q ≠ B + a → H1[q]? = H[q]?) (ho : ∀ b, b ≠ a → qE tc B hd M' b = qE tc B hd M b) :
    va_P D vwCl (qW hd tc B (κ.1 + cs) M') H1 ∧ va_S (qFr B κ.1 h0) H0 H1 (locs ++ [⟨B + a, k9⟩]) ∧ qZ κ B cs h0 H1.size := by
  refine ⟨?_, hS.put z oq (qA_in hZ ha), qZ_put hZ z⟩
  rw [← qW_set ha ho]
  exact hP.set (qWD hZ) (qW_get ha) he oq
theorem T.putI {a ci k0 index N : Nat} {C : String} {F : u_T} {x : Nat} (d : decode μ.1 pc = .ok (.putfield index, 3)) (hp : pc + 3 = pc') (hh : hd a = .inl ci) (ha : a < κ.1 + cs) (hc : vwCl[ci]? = some (C, F, N)) (hin : ∀ w ∈ u_ws C F N, w ∈ WS) (ty0 : Nat → FieldType) (hty : ∀ k, k < N → parseFieldDescriptor (F k).2.2.1 = some (ty0 k)) (hnm : ∀ a, a < N → ∀ b, b < N → a ≠ b → (F a).2.1 ≠ (F b).2.1) (hk : k0 < N) (hkd : (qK ci)[k0]? = some false)
    (hlink : Cond.fieldLink μ.2.1.cls index (F k0).1 (F k0).2.1 (F k0).2.2.1 ∈ WS) (hfin : (F k0).2.2.2 = false) (hn : narrow (ty0 k0) (.int (nI x)) = .int (nI x)) (hft : fits (ty0 k0) (.int (nI x)) = true) (k : T l hd κ μ Q cs sl pc' loc st (qI M a k0 x)) : T l hd κ μ Q cs sl pc loc (.int (nI x) :: .ref a :: st) M := by
  subst hp
  intro p e s m args below meth c H locs ls D tc B E hK hP hS hZ hL
  have he : va_at D vwCl (B + a, .inr (ci, qF B M a (qK ci))) H := by
    have h9 := hP a _ (qW_get ha)
    simpa only [qE, hh] using h9
  have hap := va_apart (own := μ.2.1.cls) E.2.2.2.2.2.1 hin ty0 hty hnm hK hc
  obtain ⟨r, h1, cell, q1, q2, q3, q4⟩ := he
  have hr : r = (C, F, N) := Option.some.inj (h1.symm.trans hc)
  subst hr
  obtain ⟨hS9, hfc, kC, hkC, hkind⟩ := hK.1 ci _ hc
  obtain ⟨cf, kf, fi, f, hi, hsl⟩ := hS9 k0 hk
  have hlay := E.2.2.2.2.2.1 _ (hin _ (u_in_lay hk))
  unfold u_lay at hlay
  have hst := (u_facts hfc hkC (u_lays E.2.2.2.2.2.1 hin hk) hi).1
  rw [if_neg (by rw [hfin]; decide)] at hlay
  have h6 := u_store hfc hkC hkind hlay hi (hty k0 hk) hn hft
  refine W.putK E.1 E.2.1 (f := f) ⟨E.2.2.2.2.1, E.2.2.2.2.2.1 _ hlink, ⟨_, _, _, hi⟩, hst⟩ (by rw [q2]; exact h6) q1 q3 (by rw [hsl]; exact k2_hasslot (q4 k0 hk)) rfl rfl d fun H1 e1 e2 e3 => ?_
  rw [hsl] at e1 ⊢
  have hlen : k0 < (qF B M a (qK ci)).length := by rw [qF_len]; exact (List.getElem?_eq_some_iff.mp hkd).1
  have hat : va_at D vwCl (B + a, qE tc B hd (qI M a k0 x) a) H1 := by
    have h8 : qE tc B hd (qI M a k0 x) a = .inr (ci, (qF B M a (qK ci)).set k0 (.int (nI x))) := by
      simp only [qE, hh]
      rw [← qF_setI hkd]
      try rfl
    rw [h8]
    exact ⟨_, hc, t_OB.to (V := updV (vp_V (qF B M a (qK ci))) k0 (.int (nI x))) ⟨_, e1, q2, q3, t_set q4 hap hk (.int (nI x))⟩ (fun j _ => vp_updV_set hlen (.int (nI x)) j)⟩
  obtain ⟨g1, g2, g3⟩ := q_stored hP hS hZ ha hat e2 e3 (fun b hb => qE_I b hb)
  exact k p e s m args below meth c H1 _ ls D tc B E hK g1 g2 g3 hL
theorem T.putIF {a ci k0 index N : Nat} {C : String} {F : u_T} {x : Nat} (d : decode μ.1 pc = .ok (.putfield index, 3)) (hp : pc + 3 = pc') (hh : hd a = .inl ci) (ha : a < κ.1 + cs) (hc : vwCl[ci]? = some (C, F, N)) (hin : ∀ w ∈ u_ws C F N, w ∈ WS) (ty0 : Nat → FieldType) (hty : ∀ k, k < N → parseFieldDescriptor (F k).2.2.1 = some (ty0 k)) (hnm : ∀ a, a < N → ∀ b, b < N → a ≠ b → (F a).2.1 ≠ (F b).2.1) (hk : k0 < N) (hkd : (qK ci)[k0]? = some false)
    (hlink : Cond.fieldLink μ.2.1.cls index (F k0).1 (F k0).2.1 (F k0).2.2.1 ∈ WS) (hfin : (F k0).2.2.2 = true) (hal : κ.2.1 = true) (hdecl : (F k0).1 = μ.2.1.cls) (hn : narrow (ty0 k0) (.int (nI x)) = .int (nI x)) (hft : fits (ty0 k0) (.int (nI x)) = true) (k : T l hd κ μ Q cs sl pc' loc st (qI M a k0 x)) : T l hd κ μ Q cs sl pc loc (.int (nI x) :: .ref a :: st) M := by
  subst hp
  intro p e s m args below meth c H locs ls D tc B E hK hP hS hZ hL
  have he : va_at D vwCl (B + a, .inr (ci, qF B M a (qK ci))) H := by
    have h9 := hP a _ (qW_get ha)
    simpa only [qE, hh] using h9
  have hap := va_apart (own := μ.2.1.cls) E.2.2.2.2.2.1 hin ty0 hty hnm hK hc
  obtain ⟨r, h1, cell, q1, q2, q3, q4⟩ := he
  have hr : r = (C, F, N) := Option.some.inj (h1.symm.trans hc)
  subst hr
  obtain ⟨hS9, hfc, kC, hkC, hkind⟩ := hK.1 ci _ hc
  obtain ⟨cf, kf, fi, f, hi, hsl⟩ := hS9 k0 hk
  have hlay := E.2.2.2.2.2.1 _ (hin _ (u_in_lay hk))
  unfold u_lay at hlay
  have hst := (u_facts hfc hkC (u_lays E.2.2.2.2.2.1 hin hk) hi).1
  rw [if_pos hfin] at hlay
  have hcf : m.cls = cf := by
    obtain ⟨_, _, c9, _, _, _, -, -, hf9, -, -, -, ho9, -⟩ := Cond.laysFinal_spec hlay
    have e1 : c9 = cf := by have := hi.symm.trans hf9; simp at this; exact this.1.symm
    rw [hdecl] at ho9
    rw [← e1]; exact Option.some.inj (E.2.2.2.2.1.symm.trans ho9)
  have h6 := u_fits hfc hkC hkind (Or.inr hlay) hi (hty k0 hk) hn hft
  refine W.putFinK E.1 E.2.1 E.2.2.2.2.1 (E.2.2.2.2.2.1 _ hlink) hi hst hcf ((E.2.2.2.2.2.2.2.1 hal).1) (by rw [q2]; exact h6) q1 q3 (by rw [hsl]; exact k2_hasslot (q4 k0 hk)) rfl rfl d fun H1 e1 e2 e3 => ?_
  rw [hsl] at e1 ⊢
  have hlen : k0 < (qF B M a (qK ci)).length := by rw [qF_len]; exact (List.getElem?_eq_some_iff.mp hkd).1
  have hat : va_at D vwCl (B + a, qE tc B hd (qI M a k0 x) a) H1 := by
    have h8 : qE tc B hd (qI M a k0 x) a = .inr (ci, (qF B M a (qK ci)).set k0 (.int (nI x))) := by
      simp only [qE, hh]
      rw [← qF_setI hkd]
      try rfl
    rw [h8]
    exact ⟨_, hc, t_OB.to (V := updV (vp_V (qF B M a (qK ci))) k0 (.int (nI x))) ⟨_, e1, q2, q3, t_set q4 hap hk (.int (nI x))⟩ (fun j _ => vp_updV_set hlen (.int (nI x)) j)⟩
  obtain ⟨g1, g2, g3⟩ := q_stored hP hS hZ ha hat e2 e3 (fun b hb => qE_I b hb)
  exact k p e s m args below meth c H1 _ ls D tc B E hK g1 g2 g3 hL
theorem T.putR {a ci k0 index N : Nat} {C : String} {F : u_T} {x : Nat} (d : decode μ.1 pc = .ok (.putfield index, 3)) (hp : pc + 3 = pc') (hh : hd a = .inl ci) (ha : a < κ.1 + cs) (hc : vwCl[ci]? = some (C, F, N)) (hin : ∀ w ∈ u_ws C F N, w ∈ WS) (ty0 : Nat → FieldType) (hty : ∀ k, k < N → parseFieldDescriptor (F k).2.2.1 = some (ty0 k)) (hnm : ∀ a, a < N → ∀ b, b < N → a ≠ b → (F a).2.1 ≠ (F b).2.1) (hk : k0 < N) (hkd : (qK ci)[k0]? = some true)
    (hlink : Cond.fieldLink μ.2.1.cls index (F k0).1 (F k0).2.1 (F k0).2.2.1 ∈ WS) (hfin : (F k0).2.2.2 = false) (hn : ∀ y, narrow (ty0 k0) (.ref y) = .ref y) (hft : ∀ y, fits (ty0 k0) (.ref y) = true) (k : T l hd κ μ Q cs sl pc' loc st (qR M a k0 (some x))) : T l hd κ μ Q cs sl pc loc (.ref x :: .ref a :: st) M := by
  subst hp
  intro p e s m args below meth c H locs ls D tc B E hK hP hS hZ hL
  have he : va_at D vwCl (B + a, .inr (ci, qF B M a (qK ci))) H := by
    have h9 := hP a _ (qW_get ha)
    simpa only [qE, hh] using h9
  have hap := va_apart (own := μ.2.1.cls) E.2.2.2.2.2.1 hin ty0 hty hnm hK hc
  obtain ⟨r, h1, cell, q1, q2, q3, q4⟩ := he
  have hr : r = (C, F, N) := Option.some.inj (h1.symm.trans hc)
  subst hr
  obtain ⟨hS9, hfc, kC, hkC, hkind⟩ := hK.1 ci _ hc
  obtain ⟨cf, kf, fi, f, hi, hsl⟩ := hS9 k0 hk
  have hlay := E.2.2.2.2.2.1 _ (hin _ (u_in_lay hk))
  unfold u_lay at hlay
  have hst := (u_facts hfc hkC (u_lays E.2.2.2.2.2.1 hin hk) hi).1
  rw [if_neg (by rw [hfin]; decide)] at hlay
  have h6 := u_store hfc hkC hkind hlay hi (hty k0 hk) (hn (B + x)) (hft (B + x))
  refine W.putK E.1 E.2.1 (f := f) ⟨E.2.2.2.2.1, E.2.2.2.2.2.1 _ hlink, ⟨_, _, _, hi⟩, hst⟩ (by rw [q2]; exact h6) q1 q3 (by rw [hsl]; exact k2_hasslot (q4 k0 hk)) rfl rfl d fun H1 e1 e2 e3 => ?_
  rw [hsl] at e1 ⊢
  have hlen : k0 < (qF B M a (qK ci)).length := by rw [qF_len]; exact (List.getElem?_eq_some_iff.mp hkd).1
  have hat : va_at D vwCl (B + a, qE tc B hd (qR M a k0 (some x)) a) H1 := by
    have h8 : qE tc B hd (qR M a k0 (some x)) a = .inr (ci, (qF B M a (qK ci)).set k0 (.ref (B + x))) := by
      simp only [qE, hh]
      rw [← qF_setR (x := some x) hkd]
      try rfl
    rw [h8]
    exact ⟨_, hc, t_OB.to (V := updV (vp_V (qF B M a (qK ci))) k0 (.ref (B + x))) ⟨_, e1, q2, q3, t_set q4 hap hk (.ref (B + x))⟩ (fun j _ => vp_updV_set hlen (.ref (B + x)) j)⟩
  obtain ⟨g1, g2, g3⟩ := q_stored hP hS hZ ha hat e2 e3 (fun b hb => qE_R b hb)
  exact k p e s m args below meth c H1 _ ls D tc B E hK g1 g2 g3 hL
theorem T.putRF {a ci k0 index N : Nat} {C : String} {F : u_T} {x : Nat} (d : decode μ.1 pc = .ok (.putfield index, 3)) (hp : pc + 3 = pc') (hh : hd a = .inl ci) (ha : a < κ.1 + cs) (hc : vwCl[ci]? = some (C, F, N)) (hin : ∀ w ∈ u_ws C F N, w ∈ WS) (ty0 : Nat → FieldType) (hty : ∀ k, k < N → parseFieldDescriptor (F k).2.2.1 = some (ty0 k)) (hnm : ∀ a, a < N → ∀ b, b < N → a ≠ b → (F a).2.1 ≠ (F b).2.1) (hk : k0 < N) (hkd : (qK ci)[k0]? = some true)
    (hlink : Cond.fieldLink μ.2.1.cls index (F k0).1 (F k0).2.1 (F k0).2.2.1 ∈ WS) (hfin : (F k0).2.2.2 = true) (hal : κ.2.1 = true) (hdecl : (F k0).1 = μ.2.1.cls) (hn : ∀ y, narrow (ty0 k0) (.ref y) = .ref y) (hft : ∀ y, fits (ty0 k0) (.ref y) = true) (k : T l hd κ μ Q cs sl pc' loc st (qR M a k0 (some x))) : T l hd κ μ Q cs sl pc loc (.ref x :: .ref a :: st) M := by
  subst hp
  intro p e s m args below meth c H locs ls D tc B E hK hP hS hZ hL
  have he : va_at D vwCl (B + a, .inr (ci, qF B M a (qK ci))) H := by
    have h9 := hP a _ (qW_get ha)
    simpa only [qE, hh] using h9
  have hap := va_apart (own := μ.2.1.cls) E.2.2.2.2.2.1 hin ty0 hty hnm hK hc
  obtain ⟨r, h1, cell, q1, q2, q3, q4⟩ := he
  have hr : r = (C, F, N) := Option.some.inj (h1.symm.trans hc)
  subst hr
  obtain ⟨hS9, hfc, kC, hkC, hkind⟩ := hK.1 ci _ hc
  obtain ⟨cf, kf, fi, f, hi, hsl⟩ := hS9 k0 hk
  have hlay := E.2.2.2.2.2.1 _ (hin _ (u_in_lay hk))
  unfold u_lay at hlay
  have hst := (u_facts hfc hkC (u_lays E.2.2.2.2.2.1 hin hk) hi).1
  rw [if_pos hfin] at hlay
  have hcf : m.cls = cf := by
    obtain ⟨_, _, c9, _, _, _, -, -, hf9, -, -, -, ho9, -⟩ := Cond.laysFinal_spec hlay
    have e1 : c9 = cf := by have := hi.symm.trans hf9; simp at this; exact this.1.symm
    rw [hdecl] at ho9
    rw [← e1]; exact Option.some.inj (E.2.2.2.2.1.symm.trans ho9)
  have h6 := u_fits hfc hkC hkind (Or.inr hlay) hi (hty k0 hk) (hn (B + x)) (hft (B + x))
  refine W.putFinK E.1 E.2.1 E.2.2.2.2.1 (E.2.2.2.2.2.1 _ hlink) hi hst hcf ((E.2.2.2.2.2.2.2.1 hal).1) (by rw [q2]; exact h6) q1 q3 (by rw [hsl]; exact k2_hasslot (q4 k0 hk)) rfl rfl d fun H1 e1 e2 e3 => ?_
  rw [hsl] at e1 ⊢
  have hlen : k0 < (qF B M a (qK ci)).length := by rw [qF_len]; exact (List.getElem?_eq_some_iff.mp hkd).1
  have hat : va_at D vwCl (B + a, qE tc B hd (qR M a k0 (some x)) a) H1 := by
    have h8 : qE tc B hd (qR M a k0 (some x)) a = .inr (ci, (qF B M a (qK ci)).set k0 (.ref (B + x))) := by
      simp only [qE, hh]
      rw [← qF_setR (x := some x) hkd]
      try rfl
    rw [h8]
    exact ⟨_, hc, t_OB.to (V := updV (vp_V (qF B M a (qK ci))) k0 (.ref (B + x))) ⟨_, e1, q2, q3, t_set q4 hap hk (.ref (B + x))⟩ (fun j _ => vp_updV_set hlen (.ref (B + x)) j)⟩
  obtain ⟨g1, g2, g3⟩ := q_stored hP hS hZ ha hat e2 e3 (fun b hb => qE_R b hb)
  exact k p e s m args below meth c H1 _ ls D tc B E hK g1 g2 g3 hL
theorem T.iald {a n j : Nat} {i : Int32} {x : Nat} (d : decode μ.1 pc = .ok (.iaload, 1)) (hp : pc + 1 = pc') (hh : hd a = .inr (0, n)) (ha : a < κ.1 + cs) (hi : i = nI j) (hj : j < n) (hn : n < 2 ^ 31) (hx : M.1 a j = x) (k : T l hd κ μ Q cs sl pc' loc (.int (nI x) :: st) M) : T l hd κ μ Q cs sl pc loc (.int i :: .ref a :: st) M := by
  subst hp; subst hi; subst hx
  intro p e s m args below meth c H locs ls D tc B E hK hP hS hZ hL
  have he : (qW hd tc B (κ.1 + cs) M)[a]? = some (B + a, .inl (tc 0, n, .inl (fun j => nI (M.1 a j)))) := by rw [qW_get ha]; simp [qE, hh, qAr]
  refine va_iald E.1 E.2.1 hK hP a 0 he rfl (vp_in_nI hj hn) d ?_
  rw [nI_clamp (by omega)]
  exact (k p e s m args below meth c H locs ls D tc B E hK hP hS hZ hL)
theorem T.zald {a n j : Nat} {i : Int32} {x : Nat} (d : decode μ.1 pc = .ok (.baload, 1)) (hp : pc + 1 = pc') (hh : hd a = .inr (1, n)) (ha : a < κ.1 + cs) (hi : i = nI j) (hj : j < n) (hn : n < 2 ^ 31) (hx : M.1 a j = x) (k : T l hd κ μ Q cs sl pc' loc (.int (nI x) :: st) M) : T l hd κ μ Q cs sl pc loc (.int i :: .ref a :: st) M := by
  subst hp; subst hi; subst hx
  intro p e s m args below meth c H locs ls D tc B E hK hP hS hZ hL
  have he : (qW hd tc B (κ.1 + cs) M)[a]? = some (B + a, .inl (tc 1, n, .inl (fun j => nI (M.1 a j)))) := by rw [qW_get ha]; simp [qE, hh, qAr]
  refine va_zald E.1 E.2.1 hK hP a 1 he rfl (vp_in_nI hj hn) d ?_
  rw [nI_clamp (by omega)]
  exact (k p e s m args below meth c H locs ls D tc B E hK hP hS hZ hL)
theorem T.cald {a n j : Nat} {i : Int32} {x : Nat} (d : decode μ.1 pc = .ok (.caload, 1)) (hp : pc + 1 = pc') (hh : hd a = .inr (2, n)) (ha : a < κ.1 + cs) (hi : i = nI j) (hj : j < n) (hn : n < 2 ^ 31) (hx : M.1 a j = x) (k : T l hd κ μ Q cs sl pc' loc (.int (nI x) :: st) M) : T l hd κ μ Q cs sl pc loc (.int i :: .ref a :: st) M := by
  subst hp; subst hi; subst hx
  intro p e s m args below meth c H locs ls D tc B E hK hP hS hZ hL
  have he : (qW hd tc B (κ.1 + cs) M)[a]? = some (B + a, .inl (tc 2, n, .inl (fun j => nI (M.1 a j)))) := by rw [qW_get ha]; simp [qE, hh, qAr]
  refine va_cald E.1 E.2.1 hK hP a 2 he rfl (vp_in_nI hj hn) d ?_
  rw [nI_clamp (by omega)]
  exact (k p e s m args below meth c H locs ls D tc B E hK hP hS hZ hL)
theorem T.lald {a n j : Nat} {i : Int32} {x : Int} (d : decode μ.1 pc = .ok (.laload, 1)) (hp : pc + 1 = pc') (hh : hd a = .inr (3, n)) (ha : a < κ.1 + cs) (hi : i = nI j) (hj : j < n) (hn : n < 2 ^ 31) (hx : M.2.1 a j = x) (k : T l hd κ μ Q cs sl pc' loc (.long (lI x) :: st) M) : T l hd κ μ Q cs sl pc loc (.int i :: .ref a :: st) M := by
  subst hp; subst hi; subst hx
  intro p e s m args below meth c H locs ls D tc B E hK hP hS hZ hL
  have he : (qW hd tc B (κ.1 + cs) M)[a]? = some (B + a, .inl (tc 3, n, .inr (.inl (fun j => lI (M.2.1 a j))))) := by rw [qW_get ha]; simp [qE, hh, qAr]
  refine va_lald E.1 E.2.1 hK hP a 3 he rfl (vp_in_nI hj hn) d ?_
  rw [nI_clamp (by omega)]
  exact (k p e s m args below meth c H locs ls D tc B E hK hP hS hZ hL)
theorem T.iast {a n j : Nat} {i : Int32} {x : Nat} (d : decode μ.1 pc = .ok (.iastore, 1)) (hp : pc + 1 = pc') (hh : hd a = .inr (0, n)) (ha : a < κ.1 + cs) (hi : i = nI j) (hj : j < n) (hn : n < 2 ^ 31) (k : T l hd κ μ Q cs sl pc' loc st (qI M a j x)) : T l hd κ μ Q cs sl pc loc (.int (nI x) :: .int i :: .ref a :: st) M := by
  subst hp; subst hi
  intro p e s m args below meth c H locs ls D tc B E hK hP hS hZ hL
  have he : va_at D vwCl (B + a, .inl (tc 0, n, .inl (fun j => nI (M.1 a j)))) H := by
    have h9 := hP a _ (qW_get ha)
    simpa [qE, hh, qAr] using h9
  refine W.iast E.1 E.2.1 he ((hK.2 0 _ rfl).1 n (fun j => .int (nI (M.1 a j)))) (fun q => by cases q) (by show ¬ (nI j < 0 ∨ (arrV _ _ _).slots.size ≤ _); rw [arrV_size]; exact vp_in_nI hj hn) rfl rfl d fun H1 e1 e2 e3 => ?_
  have hat : va_at D vwCl (B + a, qE tc B hd (qI M a j x) a) H1 := by
    have h8 : qE tc B hd (qI M a j x) a = .inl (tc 0, n, .inl (fun y => nI ((qI M a j x).1 a y))) := by simp [qE, hh, qAr]
    rw [h8]
    show H1[B + a]? = some (vp_cell _ _)
    rw [e1, nI_clamp (by omega)]
    rw [vp_cell_i, vp_cell_i, arrV_store]
    congr 2
    funext q
    by_cases hq : q = j
    · subst hq
      simp [updV, qI]
    · simp [updV, qI, hq]
  obtain ⟨g1, g2, g3⟩ := q_stored hP hS hZ ha hat e2 e3 (fun b hb => qE_I b hb)
  exact k p e s m args below meth c H1 _ ls D tc B E hK g1 g2 g3 hL
theorem T.zast {a n j : Nat} {i : Int32} {x : Nat} (d : decode μ.1 pc = .ok (.bastore, 1)) (hp : pc + 1 = pc') (hh : hd a = .inr (1, n)) (ha : a < κ.1 + cs) (hi : i = nI j) (hj : j < n) (hn : n < 2 ^ 31) (hw : narrow .boolean (.int (nI x)) = .int (nI x)) (k : T l hd κ μ Q cs sl pc' loc st (qI M a j x)) : T l hd κ μ Q cs sl pc loc (.int (nI x) :: .int i :: .ref a :: st) M := by
  subst hp; subst hi
  intro p e s m args below meth c H locs ls D tc B E hK hP hS hZ hL
  have he : va_at D vwCl (B + a, .inl (tc 1, n, .inl (fun j => nI (M.1 a j)))) H := by
    have h9 := hP a _ (qW_get ha)
    simpa [qE, hh, qAr] using h9
  refine W.zast E.1 E.2.1 he ((hK.2 1 _ rfl).1 n (fun j => .int (nI (M.1 a j)))) (fun q => by cases q) (by show ¬ (nI j < 0 ∨ (arrV _ _ _).slots.size ≤ _); rw [arrV_size]; exact vp_in_nI hj hn) rfl rfl d fun H1 e1 e2 e3 => ?_
  have hat : va_at D vwCl (B + a, qE tc B hd (qI M a j x) a) H1 := by
    have h8 : qE tc B hd (qI M a j x) a = .inl (tc 1, n, .inl (fun y => nI ((qI M a j x).1 a y))) := by simp [qE, hh, qAr]
    rw [h8]
    show H1[B + a]? = some (vp_cell _ _)
    rw [hw] at e1
    rw [e1, nI_clamp (by omega)]
    rw [vp_cell_i, vp_cell_i, arrV_store]
    congr 2
    funext q
    by_cases hq : q = j
    · subst hq
      simp [updV, qI]
    · simp [updV, qI, hq]
  obtain ⟨g1, g2, g3⟩ := q_stored hP hS hZ ha hat e2 e3 (fun b hb => qE_I b hb)
  exact k p e s m args below meth c H1 _ ls D tc B E hK g1 g2 g3 hL
theorem T.cast {a n j : Nat} {i : Int32} {x : Nat} (d : decode μ.1 pc = .ok (.castore, 1)) (hp : pc + 1 = pc') (hh : hd a = .inr (2, n)) (ha : a < κ.1 + cs) (hi : i = nI j) (hj : j < n) (hn : n < 2 ^ 31) (hw : narrow .char (.int (nI x)) = .int (nI x)) (k : T l hd κ μ Q cs sl pc' loc st (qI M a j x)) : T l hd κ μ Q cs sl pc loc (.int (nI x) :: .int i :: .ref a :: st) M := by
  subst hp; subst hi
  intro p e s m args below meth c H locs ls D tc B E hK hP hS hZ hL
  have he : va_at D vwCl (B + a, .inl (tc 2, n, .inl (fun j => nI (M.1 a j)))) H := by
    have h9 := hP a _ (qW_get ha)
    simpa [qE, hh, qAr] using h9
  refine W.cast E.1 E.2.1 he ((hK.2 2 _ rfl).1 n (fun j => .int (nI (M.1 a j)))) (fun q => by cases q) (by show ¬ (nI j < 0 ∨ (arrV _ _ _).slots.size ≤ _); rw [arrV_size]; exact vp_in_nI hj hn) rfl rfl d fun H1 e1 e2 e3 => ?_
  have hat : va_at D vwCl (B + a, qE tc B hd (qI M a j x) a) H1 := by
    have h8 : qE tc B hd (qI M a j x) a = .inl (tc 2, n, .inl (fun y => nI ((qI M a j x).1 a y))) := by simp [qE, hh, qAr]
    rw [h8]
    show H1[B + a]? = some (vp_cell _ _)
    rw [hw] at e1
    rw [e1, nI_clamp (by omega)]
    rw [vp_cell_i, vp_cell_i, arrV_store]
    congr 2
    funext q
    by_cases hq : q = j
    · subst hq
      simp [updV, qI]
    · simp [updV, qI, hq]
  obtain ⟨g1, g2, g3⟩ := q_stored hP hS hZ ha hat e2 e3 (fun b hb => qE_I b hb)
  exact k p e s m args below meth c H1 _ ls D tc B E hK g1 g2 g3 hL
theorem T.last {a n j : Nat} {i : Int32} {x : Int} (d : decode μ.1 pc = .ok (.lastore, 1)) (hp : pc + 1 = pc') (hh : hd a = .inr (3, n)) (ha : a < κ.1 + cs) (hi : i = nI j) (hj : j < n) (hn : n < 2 ^ 31) (k : T l hd κ μ Q cs sl pc' loc st (qJ M a j x)) : T l hd κ μ Q cs sl pc loc (.long (lI x) :: .int i :: .ref a :: st) M := by
  subst hp; subst hi
  intro p e s m args below meth c H locs ls D tc B E hK hP hS hZ hL
  have he : va_at D vwCl (B + a, .inl (tc 3, n, .inr (.inl (fun j => lI (M.2.1 a j))))) H := by
    have h9 := hP a _ (qW_get ha)
    simpa [qE, hh, qAr] using h9
  refine W.last E.1 E.2.1 he ((hK.2 3 _ rfl).1 n (fun j => .long (lI (M.2.1 a j)))) (fun q => by cases q) (by show ¬ (nI j < 0 ∨ (arrV _ _ _).slots.size ≤ _); rw [arrV_size]; exact vp_in_nI hj hn) rfl rfl d fun H1 e1 e2 e3 => ?_
  have hat : va_at D vwCl (B + a, qE tc B hd (qJ M a j x) a) H1 := by
    have h8 : qE tc B hd (qJ M a j x) a = .inl (tc 3, n, .inr (.inl (fun y => lI ((qJ M a j x).2.1 a y)))) := by simp [qE, hh, qAr]
    rw [h8]
    show H1[B + a]? = some (vp_cell _ _)
    rw [e1, nI_clamp (by omega)]
    rw [vp_cell_l, vp_cell_l, arrV_store]
    congr 2
    funext q
    by_cases hq : q = j
    · subst hq
      simp [updV, qJ]
    · simp [updV, qJ, hq]
  obtain ⟨g1, g2, g3⟩ := q_stored hP hS hZ ha hat e2 e3 (fun b hb => qE_J b hb)
  exact k p e s m args below meth c H1 _ ls D tc B E hK g1 g2 g3 hL
theorem T.qald {a n j b : Nat} {i : Int32} (d : decode μ.1 pc = .ok (.aaload, 1)) (hp : pc + 1 = pc') {t : Nat} (ht : t = 4 ∨ t = 5) (hh : hd a = .inr (t, n)) (ha : a < κ.1 + cs) (hi : i = nI j) (hj : j < n) (hn : n < 2 ^ 31) (hx : M.2.2 a j = some b) (k : T l hd κ μ Q cs sl pc' loc (.ref b :: st) M) : T l hd κ μ Q cs sl pc loc (.int i :: .ref a :: st) M := by
  subst hp; subst hi
  intro p e s m args below meth c H locs ls D tc B E hK hP hS hZ hL
  have he : va_at D vwCl (B + a, .inl (tc t, n, .inr (.inr (.inr (.inr (fun j => (M.2.2 a j).map (B + ·))))))) H := by
    have h9 := hP a _ (qW_get ha)
    rcases ht with rfl | rfl <;> simpa [qE, hh, qAr] using h9
  have hT : ∃ ty : FieldType, (qT tc)[t]? = some (tc t, ty) ∧ ty.isReference = true := by
    rcases ht with rfl | rfl
    · exact ⟨_, rfl, rfl⟩
    · exact ⟨_, rfl, rfl⟩
  obtain ⟨ty, ht1, ht2⟩ := hT
  refine W.aald (v := .ref (B + b)) (ty := ty) E.1 E.2.1 he ((hK.2 t _ ht1).1 n (fun j => va_rf ((M.2.2 a j).map (B + ·)))) ht2 (fun q => by cases q) (by show ¬ (nI j < 0 ∨ (arrV _ _ _).slots.size ≤ _); rw [arrV_size]; exact vp_in_nI hj hn) ?_ rfl rfl d (k p e s m args below meth c H locs ls D tc B E hK hP hS hZ hL)
  rw [nI_clamp (by omega)]
  show (arrV _ _ _).slots[_]? = _
  rw [arrV_read _ _ hj]
  show some (va_rf ((M.2.2 a j).map (B + ·))) = _
  rw [hx]
  rfl
theorem T.qast {a n j b ci : Nat} {i : Int32} {r : vw_C} (d : decode μ.1 pc = .ok (.aastore, 1)) (hp : pc + 1 = pc') (hh : hd a = .inr (4, n)) (ha : a < κ.1 + cs) (hi : i = nI j) (hj : j < n) (hn : n < 2 ^ 31) (hb : b < κ.1 + cs) (hhb : hd b = .inl ci) (hc : vwCl[ci]? = some r) (hr : r.1 = "BlindHunts$State") (k : T l hd κ μ Q cs sl pc' loc st (qR M a j (some b))) : T l hd κ μ Q cs sl pc loc (.ref b :: .int i :: .ref a :: st) M := by
  subst hp; subst hi
  intro p e s m args below meth c H locs ls D tc B E hK hP hS hZ hL
  have he : va_at D vwCl (B + a, .inl (tc 4, n, .inr (.inr (.inr (.inr (fun j => (M.2.2 a j).map (B + ·))))))) H := by
    have h9 := hP a _ (qW_get ha)
    simpa [qE, hh, qAr] using h9
  have hv : va_at D vwCl (B + b, .inr (ci, qF B M b (qK ci))) H := by
    have h9 := hP b _ (qW_get hb)
    simpa [qE, hhb] using h9
  obtain ⟨r', hr', cellV, g1, g2, g3, -⟩ := hv
  have hcls := (hK.1 ci r hc).2
  obtain ⟨kA, comp, k1, k2, k3, -⟩ := (hK.2 4 _ rfl).2
  rw [← hr] at k3
  have hcomp : comp = D.1 ci := Option.some.inj (k3.symm.trans hcls.1)
  subst hcomp
  obtain ⟨kC, hkC, -⟩ := hcls.2
  have hin9 : vp_in (nI j) n := vp_in_nI hj hn
  refine W.aast E.1 E.2.1 he (fun q h => by cases h) (fun h => by cases h) k1 k2 rfl hkC ⟨fun q => hin9 (Or.inl q), by show _ < (arrV _ _ _).slots.size; rw [arrV_size, nI_clamp (by omega)]; exact hj⟩ g1 (fun q h => by rw [g3] at h; cases h) (by rw [g2]; exact hkC) (by rw [g2]; exact va_assign hcls) rfl rfl d fun H1 e1 e2 e3 => ?_
  have hat : va_at D vwCl (B + a, qE tc B hd (qR M a j (some b)) a) H1 := by
    have h8 : qE tc B hd (qR M a j (some b)) a = .inl (tc 4, n, .inr (.inr (.inr (.inr (fun i => ((qR M a j (some b)).2.2 a i).map (B + ·)))))) := by simp [qE, hh, qAr]
    rw [h8]
    show H1[B + a]? = some (vp_cell _ _)
    rw [e1, nI_clamp (by omega)]
    rw [vp_cell_q, vp_cell_q, arrV_store]
    congr 2
    funext q
    by_cases hq : q = j
    · subst hq
      simp [updV, qR, va_rf]
    · simp [updV, qR, hq]
  obtain ⟨w1, w2, w3⟩ := q_stored hP hS hZ ha hat e2 e3 (fun b hb => qE_R b hb)
  exact k p e s m args below meth c H1 _ ls D tc B E hK w1 w2 w3 hL
theorem q_end {D : va_G} {tc : Nat → ClassId} {B : Nat} {H : Heap} {v : Option Value} {args : Array Value} {s t : State} {locs : List Loc} (hm : cs = κ.2.2.1) (hq : Q v M) (hP : va_P D vwCl (qW hd tc B (κ.1 + cs) M) H) (hS : va_S (qFr B κ.1 s.heap.size) s.heap H locs) (hZ : qZ κ B cs s.heap.size H.size) (ht : t.heap = H) : qQ hd κ D tc B Q args s (.returned (v.map (qV B))) t := by
  subst hm
  refine ⟨⟨v, M, rfl, hq, fun h => ?_, by rw [ht]; exact hP⟩, hS.F ht⟩
  unfold qZ at hZ
  rw [if_pos h] at hZ
  rw [ht]; exact hZ.2
theorem T.iret {v : Int32} (d : decode μ.1 pc = .ok (.ireturn, 1)) (hr : μ.2.2.2.1 = some .int) (hm : cs = κ.2.2.1) (hs : sl = κ.2.2.2) (hq : Q (some (.int v)) M) : T l hd κ μ Q cs sl pc loc [.int v] M := by
  subst hs
  intro p e s m args below meth c H locs ls D tc B E hK hP hS hZ hL
  have h9 := fun (t : State) (ht : t.heap = H) (_ : s.WarmedH t.vm) => q_end (v := some (.int v)) (args := args) (t := t) hm hq hP hS hZ ht
  subst hm
  exact W.iret (v := v) E.1 E.2.1 (E.2.2.1.trans hr) h9 hS.2.2 d E.2.2.2.2.2.2.1
theorem T.zret {v : Int32} {ty : FieldType} (d : decode μ.1 pc = .ok (.ireturn, 1)) (hr : μ.2.2.2.1 = some ty) (hn : narrow ty (.int v) = .int v) (hm : cs = κ.2.2.1) (hs : sl = κ.2.2.2) (hq : Q (some (.int v)) M) : T l hd κ μ Q cs sl pc loc [.int v] M := by
  subst hs
  intro p e s m args below meth c H locs ls D tc B E hK hP hS hZ hL
  have h9 := fun (t : State) (ht : t.heap = H) (_ : s.WarmedH t.vm) => q_end (v := some (.int v)) (args := args) (t := t) hm hq hP hS hZ ht
  subst hm
  exact W.zret (v := v) E.1 E.2.1 (E.2.2.1.trans hr) hn h9 hS.2.2 d E.2.2.2.2.2.2.1
theorem T.lret {v : Int64} (d : decode μ.1 pc = .ok (.lreturn, 1)) (hr : μ.2.2.2.1 = some .long) (hm : cs = κ.2.2.1) (hs : sl = κ.2.2.2) (hq : Q (some (.long v)) M) : T l hd κ μ Q cs sl pc loc [.long v] M := by
  subst hs
  intro p e s m args below meth c H locs ls D tc B E hK hP hS hZ hL
  have h9 := fun (t : State) (ht : t.heap = H) (_ : s.WarmedH t.vm) => q_end (v := some (.long v)) (args := args) (t := t) hm hq hP hS hZ ht
  subst hm
  exact W.lret (v := v) E.1 E.2.1 (E.2.2.1.trans hr) h9 hS.2.2 d E.2.2.2.2.2.2.1
theorem T.aret {v : Nat} {n : String} (d : decode μ.1 pc = .ok (.areturn, 1)) (hr : μ.2.2.2.1 = some (.object n)) (hm : cs = κ.2.2.1) (hs : sl = κ.2.2.2) (hq : Q (some (.ref v)) M) : T l hd κ μ Q cs sl pc loc [.ref v] M := by
  subst hs
  intro p e s m args below meth c H locs ls D tc B E hK hP hS hZ hL
  have h9 := fun (t : State) (ht : t.heap = H) (_ : s.WarmedH t.vm) => q_end (v := some (.ref v)) (args := args) (t := t) hm hq hP hS hZ ht
  subst hm
  exact W.aret (v := .ref (B + v)) E.1 E.2.1 (E.2.2.1.trans hr) (Or.inl ⟨_, rfl⟩) (Or.inr ⟨_, rfl⟩) h9 hS.2.2 d E.2.2.2.2.2.2.1
theorem T.vret (d : decode μ.1 pc = .ok (.return_, 1)) (hr : μ.2.2.2.1 = none) (hm : cs = κ.2.2.1) (hs : sl = κ.2.2.2) (hq : Q none M) : T l hd κ μ Q cs sl pc loc [] M := by
  subst hs
  intro p e s m args below meth c H locs ls D tc B E hK hP hS hZ hL
  have h9 := fun (t : State) (ht : t.heap = H) (_ : s.WarmedH t.vm) => q_end (v := none) (args := args) (t := t) hm hq hP hS hZ ht
  subst hm
  exact W.vret E.1 E.2.1 (E.2.2.1.trans hr) h9 hS.2.2 d E.2.2.2.2.2.2.1
/-- behind a call -/
theorem q_back {p : Program} {e : Env} {R : Room} {s : State} {m : MethodId} {args : Array Value} {below : List Frame} {meth : Method} {c : Code} {H : Heap} {locs : List Loc} {Qs : State → Prop} {ls : Array Slot} {D : va_G} {tc : Nat → ClassId} {B : Nat} {κ' : qG} {Q' : Option Value → qM → Prop} {a9 : Array Value} {pc : Nat} {st0 : List Value}
    (hκ : κ'.1 = κ.1 + cs) (hal : κ'.2.1 = κ.2.1) (hmc : κ.2.1 = false → κ'.2.2.1 = 0)
    (hr : va_Run p l e R s m args below meth c H locs cs sl κ'.2.2.1 κ'.2.2.2 (F0 m pc ls st0) (st.map (qV B)) (qQ hd κ' D tc B Q' a9) (qFr B κ'.1 H.size))
    (hS : va_S (qFr B κ.1 s.heap.size) s.heap H locs) (hZ : qZ κ B cs s.heap.size H.size)
    (k : ∀ (v : Option Value) (M' : qM) (H1 : Heap) (locs1 : List Loc), Q' v M' → va_P D vwCl (qW hd tc B (κ.1 + (cs + κ'.2.2.1)) M') H1 → va_S (qFr B κ.1 s.heap.size) s.heap H1 locs1 → qZ κ B (cs + κ'.2.2.1) s.heap.size H1.size →
      W p l e R s m args below meth c H1 locs1 (cs + κ'.2.2.1) (sl + κ'.2.2.2) Qs (F0 m (pc + 3) ls ((v.toList ++ st).map (qV B)))) : W p l e R s m args below meth c H locs cs sl Qs (F0 m pc ls st0) := by
  intro U hU X
  obtain ⟨v, st₀, t, T', L, h0, X', hL, e1, e2, ⟨⟨v', M', hv, hQ, hz, hP1⟩, hF⟩, stp⟩ := hr U hU X
  have hin : ∀ q, qFr B κ'.1 H.size q → qFr B κ.1 s.heap.size q := by
    intro q hq
    unfold qZ at hZ
    rcases hq with ⟨h1, h2⟩ | h1
    · by_cases hb : κ.2.1 = true
      · rw [if_pos hb] at hZ
        by_cases h3 : q < B + κ.1
        · exact Or.inl ⟨h1, h3⟩
        · exact Or.inr (by omega)
      · rw [if_neg hb] at hZ
        exact Or.inl ⟨h1, by omega⟩
    · exact Or.inr (Nat.le_trans hS.1 h1)
  rw [hκ, Nat.add_assoc] at hP1
  have hF1 : H.size ≤ t.heap.size := by rw [← h0]; exact hF.1
  have hF2 : ∀ q : Nat, q < H.size → ¬ qFr B κ'.1 H.size q → t.heap[q]? = H[q]? := by rw [← h0]; exact hF.2
  have hvv : v = v'.map (qV B) := Outcome.returned.inj hv
  subst hvv
  have hS1 : va_S (qFr B κ.1 s.heap.size) s.heap T'.heap (locs ++ L) := by
    refine ⟨Nat.le_trans hS.1 (by rw [e1]; exact hF1), fun q h1 h2 => ?_, fun q hq => ?_⟩
    · rw [e1, hF2 q (Nat.lt_of_lt_of_le h1 hS.1) (fun z => h2 (hin q z))]
      exact hS.2.1 q h1 h2
    · rcases List.mem_append.mp hq with h | h
      · exact hS.2.2 q h
      · exact hin _ (hL q h)
  have hZ1 : qZ κ B (cs + κ'.2.2.1) s.heap.size T'.heap.size := by
    unfold qZ at hZ ⊢
    by_cases hb : κ.2.1 = true
    · rw [if_pos hb] at hZ ⊢
      have := hz (hal.trans hb)
      rw [e1]
      exact ⟨hZ.1, by omega⟩
    · rw [if_neg hb] at hZ ⊢
      have := hmc (by simpa using hb)
      omega
  obtain ⟨t2, a1, b1⟩ := k v' M' T'.heap (locs ++ L) hQ (by rw [e1]; exact hP1) hS1 hZ1 T' rfl X'
  refine ⟨t2, stp t2 ?_, b1⟩
  have hst : (v'.map (qV B)).toList ++ st.map (qV B) = (v'.toList ++ st).map (qV B) := by cases v' <;> simp
  rw [hst]
  exact a1
theorem q_blind {D : va_G} {tc : Nat → ClassId} {hd : qH} {κ : qG} {B sz : Nat} {M : qM} {av : List Value} : FrameBlind (va_Pc av (fun U => U.heap.size = sz ∧ (κ.2.1 = true → sz = B + κ.1 ∧ qN U) ∧ va_P D vwCl (qW hd tc B κ.1 M) U.heap ∧ va_K D vwCl (qT tc) U)) := by
  intro a U g mk q
  obtain ⟨q0, q1, q2, q3, q4⟩ := q
  exact ⟨q0, q1, fun h => ⟨(q2 h).1, (q2 h).2⟩, q3, va_K.moved (u := U) (U := U.calling g mk a) (Vm.Alike.refl U.vm) q4⟩
abbrev qOkR (κ' : qG) (μ μ' : qMI) (cs sl : Nat) : Prop := μ'.2.2.2.2.cells = κ'.2.2.1 ∧ μ'.2.2.2.2.slots = κ'.2.2.2 ∧ μ'.2.2.2.2.frames + 1 ≤ μ.2.2.2.2.frames ∧ 8 + (μ'.2.2.1 + 11) + μ'.2.2.2.2.locals ≤ μ.2.2.2.2.locals ∧ cs + κ'.2.2.1 ≤ μ.2.2.2.2.cells ∧ sl + κ'.2.2.2 ≤ μ.2.2.2.2.slots
def qMeth (μ : qMI) (n : Nat) : Prop := Cond.code μ.2.1 μ.1 μ.2.2.1 μ.2.2.2.1 ∈ WS ∧ Cond.initialized μ.2.1.cls ∈ WS ∧ μ.2.1.cls ≠ "java/lang/invoke/MethodHandle" ∧ μ.2.1.cls ≠ "java/lang/invoke/VarHandle" ∧ (parseMethodDescriptor μ.2.1.desc).map (fun d => d.parameters.length) = some n
def qVirt (μ : qMI) (n : Nat) : Prop := Cond.instanceMethod μ.2.1 ∈ WS ∧ Cond.selects μ.2.1.cls μ.2.1 μ.2.1 ∈ WS ∧ qMeth μ n
def qStat (μ : qMI) (n : Nat) : Prop := Cond.static μ.2.1 ∈ WS ∧ qMeth μ n
def qCtor (μ : qMI) (n : Nat) : Prop := Cond.instanceMethod μ.2.1 ∈ WS ∧ μ.2.1.name = "<init>" ∧ μ.2.2.2.1 = none ∧ qMeth μ n
theorem qIn {μ : qMI} {w : Cond} (h : w ∈ WS) : w ∈ qWs μ ∧ ((w.onTables && w.keeps) = true ∨ ∃ ty, w = .arrayClass ty) := ⟨List.mem_cons_of_mem _ h, good_of_word (List.mem_filter.mp h).2⟩
theorem qGood {μ μ' : qMI} (h : Cond.code μ'.2.1 μ'.1 μ'.2.2.1 μ'.2.2.2.1 ∈ WS) : GoodIn (qWs μ) (qWs μ') := by
  intro w hw
  rcases List.mem_cons.mp hw with rfl | hw
  · exact qIn h
  · exact qIn hw
theorem T.callV {μ' : qMI} {κ' : qG} {Q' : Option Value → qM → Prop} {index n b : Nat} {as st stk : List Value} {ci N : Nat} {F : u_T} (d : decode μ.1 pc = .ok (.invokevirtual index, 3)) (hp : pc + 3 = pc') (hm : qVirt μ' n) (hl : Cond.methodLink μ.2.1.cls index μ'.2.1 ∈ WS) (hC : Ct l hd κ' μ' (.ref b :: as) M Q') (hs : stk = as.reverse ++ .ref b :: st) (hn : as.length = n) (hb : b < κ.1 + cs) (hhb : hd b = .inl ci) (hc : vwCl[ci]? = some (μ'.2.1.cls, F, N)) (hR : qOkR κ' μ μ' cs sl) (hst : (st.map fun v => v.category).sum ≤ 8)
    (hκ : κ'.1 = κ.1 + cs) (hal : κ'.2.1 = κ.2.1) (hmc : κ.2.1 = false → κ'.2.2.1 = 0)
    (k : ∀ (v : Option Value) (M' : qM), Q' v M' → T l hd κ μ Q (cs + κ'.2.2.1) (sl + κ'.2.2.2) pc' loc (v.toList ++ st) M') : T l hd κ μ Q cs sl pc loc stk M := by
  subst hp; subst hs
  intro p e s m args below meth c H locs ls D tc B E hK hP hS hZ hL
  have hC9 := hC D tc B H.size
  have hts := E.2.2.2.2.2.1
  have hPc : ∀ U : State, U.heap = H → s.WarmedH U.vm → va_Pc ((.ref b :: as).map (qV B)) (fun U => U.heap.size = H.size ∧ (κ'.2.1 = true → H.size = B + κ'.1 ∧ qN U) ∧ va_P D vwCl (qW hd tc B κ'.1 M) U.heap ∧ va_K D vwCl (qT tc) U) ((.ref b :: as).map (qV B)).toArray U := by
    intro U hU hW
    refine ⟨rfl, by rw [hU], fun h => ?_, by rw [hU, hκ]; exact hP, va_K.moved hW.alike hK⟩
    refine ⟨?_, qN.moved hW (E.2.2.2.2.2.2.2.1 (hal ▸ h)).2⟩
    unfold qZ at hZ
    rw [if_pos (hal ▸ h)] at hZ
    rw [hκ]; omega
  have hcat : 2 * (F0 m pc ls ([] : List Value)).monitorRoom + ((st.map (qV B)).map fun v => v.category).sum ≤ 8 := by
    refine lv_room ?_
    rw [List.map_map]
    have : ((fun v : Value => v.category) ∘ qV B) = fun v => v.category := funext fun v => qV_cat B v
    rw [this]; exact hst
  have hG : GoodIn (qWs μ) (wsV μ.2.1.cls index μ'.2.1.cls μ'.2.1 (qWs μ')) := by
    refine goodIn_app9 (fun w hw => ?_) (qGood hm.2.2.1)
    rcases List.mem_cons.mp hw with rfl | hw
    · exact qIn hl
    rcases List.mem_cons.mp hw with rfl | hw
    · exact qIn hm.1
    rcases List.mem_cons.mp hw with rfl | hw
    · exact qIn hm.2.1
    rcases List.mem_cons.mp hw with rfl | hw
    · exact qIn hm.2.2.2.1
    cases hw
  have hts9 : ∀ w ∈ qWs μ, w.before args s = true := E.2.2.2.2.2.2.2.2
  have hrun := va_runV (p := p) (e := e) (below := below) (meth := meth) (H := H) (locs := locs) (cells := cs) (slots := sl) (C := μ'.2.1.cls) (b := B + b) (As := as.map (qV B)) (rest := st.map (qV B)) (g := F0 m pc ls ((as.reverse ++ .ref b :: st).map (qV B))) (Ts := qWs μ) ⟨E.1, E.2.1, E.2.2.2.1, E.2.2.2.2.1, hts9⟩ hC9 (cwV n hts9 hG rfl hR.1 hR.2.1 ⟨rfl, hm.2.2.2.2⟩ ⟨hR.2.2.1, hR.2.2.2.1⟩)
    ⟨q_blind, va_recv (fs := qF B M b (qK ci)) hK hP (ci := ci) (q0 := b) hc (by rw [qW_get hb]; simp only [qE, hhb]), hPc⟩ rfl (by simpa using hn) (hL.1) (by simp [qV]) hcat d ⟨hR.2.2.2.2.1, hR.2.2.2.2.2⟩
  refine q_back hκ hal hmc hrun hS hZ (fun v M' H1 locs1 hQ hP1 hS1 hZ1 => ?_)
  exact k v M' hQ p e s m args below meth c H1 locs1 ls D tc B E hK hP1 hS1 hZ1 hL
theorem T.callS {μ' : qMI} {κ' : qG} {Q' : Option Value → qM → Prop} {index n : Nat} {as st stk : List Value} (d : decode μ.1 pc = .ok (.invokestatic index, 3)) (hp : pc + 3 = pc') (hm : qStat μ' n) (hl : Cond.methodLink μ.2.1.cls index μ'.2.1 ∈ WS) (hC : Ct l hd κ' μ' as M Q') (hs : stk = as.reverse ++ st) (hn : as.length = n) (hR : qOkR κ' μ μ' cs sl) (hst : (st.map fun v => v.category).sum ≤ 8)
    (hκ : κ'.1 = κ.1 + cs) (hal : κ'.2.1 = κ.2.1) (hmc : κ.2.1 = false → κ'.2.2.1 = 0)
    (k : ∀ (v : Option Value) (M' : qM), Q' v M' → T l hd κ μ Q (cs + κ'.2.2.1) (sl + κ'.2.2.2) pc' loc (v.toList ++ st) M') : T l hd κ μ Q cs sl pc loc stk M := by
  subst hp; subst hs
  intro p e s m args below meth c H locs ls D tc B E hK hP hS hZ hL
  have hC9 := hC D tc B H.size
  have hts := E.2.2.2.2.2.1
  have hPc : ∀ U : State, U.heap = H → s.WarmedH U.vm → va_Pc (as.map (qV B)) (fun U => U.heap.size = H.size ∧ (κ'.2.1 = true → H.size = B + κ'.1 ∧ qN U) ∧ va_P D vwCl (qW hd tc B κ'.1 M) U.heap ∧ va_K D vwCl (qT tc) U) (as.map (qV B)).toArray U := by
    intro U hU hW
    refine ⟨rfl, by rw [hU], fun h => ?_, by rw [hU, hκ]; exact hP, va_K.moved hW.alike hK⟩
    refine ⟨?_, qN.moved hW (E.2.2.2.2.2.2.2.1 (hal ▸ h)).2⟩
    unfold qZ at hZ
    rw [if_pos (hal ▸ h)] at hZ
    rw [hκ]; omega
  have hcat : 2 * (F0 m pc ls ([] : List Value)).monitorRoom + ((st.map (qV B)).map fun v => v.category).sum ≤ 8 := by
    refine lv_room ?_
    rw [List.map_map]
    have : ((fun v : Value => v.category) ∘ qV B) = fun v => v.category := funext fun v => qV_cat B v
    rw [this]; exact hst
  have hG : GoodIn (qWs μ) (va_wsS μ.2.1.cls index μ'.2.1 (qWs μ')) := by
    refine goodIn_app9 (fun w hw => ?_) (qGood hm.2.1)
    rcases List.mem_cons.mp hw with rfl | hw
    · exact qIn hl
    rcases List.mem_cons.mp hw with rfl | hw
    · exact qIn hm.1
    rcases List.mem_cons.mp hw with rfl | hw
    · exact qIn hm.2.2.1
    cases hw
  have hts9 : ∀ w ∈ qWs μ, w.before args s = true := E.2.2.2.2.2.2.2.2
  have hrun := va_runS (p := p) (e := e) (below := below) (meth := meth) (H := H) (locs := locs) (cells := cs) (slots := sl) (As := as.map (qV B)) (rest := st.map (qV B)) (g := F0 m pc ls ((as.reverse ++ st).map (qV B))) (Ts := qWs μ) ⟨E.1, E.2.1, E.2.2.2.1, E.2.2.2.2.1, hts9⟩ hC9 (va_cwS n hts9 hG rfl hR.1 hR.2.1 hm.2.2.2 ⟨hR.2.2.1, hR.2.2.2.1⟩)
    ⟨q_blind, hPc⟩ rfl (by simpa using hn) (hL.1) (by simp) hcat d ⟨hR.2.2.2.2.1, hR.2.2.2.2.2⟩
  refine q_back hκ hal hmc hrun hS hZ (fun v M' H1 locs1 hQ hP1 hS1 hZ1 => ?_)
  exact k v M' hQ p e s m args below meth c H1 locs1 ls D tc B E hK hP1 hS1 hZ1 hL
theorem T.callI {μ' : qMI} {κ' : qG} {Q' : Option Value → qM → Prop} {index n b : Nat} {as st stk : List Value} (d : decode μ.1 pc = .ok (.invokespecial index, 3)) (hp : pc + 3 = pc') (hm : qCtor μ' n) (hl : Cond.methodLink μ.2.1.cls index μ'.2.1 ∈ WS) (hC : Ct l hd κ' μ' (.ref b :: as) M Q') (hs : stk = as.reverse ++ .ref b :: st) (hn : as.length = n) (hR : qOkR κ' μ μ' cs sl) (hst : (st.map fun v => v.category).sum ≤ 8)
    (hκ : κ'.1 = κ.1 + cs) (hal : κ'.2.1 = κ.2.1) (hmc : κ.2.1 = false → κ'.2.2.1 = 0)
    (k : ∀ (v : Option Value) (M' : qM), Q' v M' → T l hd κ μ Q (cs + κ'.2.2.1) (sl + κ'.2.2.2) pc' loc (v.toList ++ st) M') : T l hd κ μ Q cs sl pc loc stk M := by
  subst hp; subst hs
  intro p e s m args below meth c H locs ls D tc B E hK hP hS hZ hL
  have hC9 := hC D tc B H.size
  have hts := E.2.2.2.2.2.1
  have hPc : ∀ U : State, U.heap = H → s.WarmedH U.vm → va_Pc ((.ref b :: as).map (qV B)) (fun U => U.heap.size = H.size ∧ (κ'.2.1 = true → H.size = B + κ'.1 ∧ qN U) ∧ va_P D vwCl (qW hd tc B κ'.1 M) U.heap ∧ va_K D vwCl (qT tc) U) ((.ref b :: as).map (qV B)).toArray U := by
    intro U hU hW
    refine ⟨rfl, by rw [hU], fun h => ?_, by rw [hU, hκ]; exact hP, va_K.moved hW.alike hK⟩
    refine ⟨?_, qN.moved hW (E.2.2.2.2.2.2.2.1 (hal ▸ h)).2⟩
    unfold qZ at hZ
    rw [if_pos (hal ▸ h)] at hZ
    rw [hκ]; omega
  have hcat : 2 * (F0 m pc ls ([] : List Value)).monitorRoom + ((st.map (qV B)).map fun v => v.category).sum ≤ 8 := by
    refine lv_room ?_
    rw [List.map_map]
    have : ((fun v : Value => v.category) ∘ qV B) = fun v => v.category := funext fun v => qV_cat B v
    rw [this]; exact hst
  have hts9 : ∀ w ∈ qWs μ, w.before args s = true := E.2.2.2.2.2.2.2.2
  have hrun := va_runI (p := p) (e := e) (below := below) (meth := meth) (H := H) (locs := locs) (cells := cs) (slots := sl) (b := B + b) (As := as.map (qV B)) (rest := st.map (qV B)) (g := F0 m pc ls ((as.reverse ++ .ref b :: st).map (qV B))) (Ts := qWs μ) ⟨E.1, E.2.1, E.2.2.2.1, E.2.2.2.2.1, hts9⟩ hC9 (cwI n hts9 (qGood hm.2.2.2.1) (by unfold qWs; rw [hm.2.2.1]) hR.1 hR.2.1 (hts _ hm.2.2.2.2.1) (hts _ hl) (hts _ hm.1) hm.2.1 hm.2.2.2.2.2 ⟨hR.2.2.1, hR.2.2.2.1⟩)
    ⟨q_blind, hPc⟩ rfl (by simpa using hn) (hL.1) (by simp [qV]) hcat d ⟨hR.2.2.2.2.1, hR.2.2.2.2.2⟩
  refine q_back hκ hal hmc hrun hS hZ (fun v M' H1 locs1 hQ hP1 hS1 hZ1 => ?_)
  exact k v M' hQ p e s m args below meth c H1 locs1 ls D tc B E hK hP1 hS1 hZ1 hL
theorem T.callIN {μ' : qMI} {κ' : qG} {Q' : Option Value → qM → Prop} {index n b : Nat} {as st stk : List Value} {host : String} (d : decode μ.1 pc = .ok (.invokespecial index, 3)) (hp : pc + 3 = pc') (hm : qCtor μ' n) (hl : ∀ s : State, qN s → va_Nw (.methodLinkNest μ.2.1.cls index μ'.2.1 host) s) (hC : Ct l hd κ' μ' (.ref b :: as) M Q') (hs : stk = as.reverse ++ .ref b :: st) (hn : as.length = n) (hala : κ.2.1 = true) (hR : qOkR κ' μ μ' cs sl) (hst : (st.map fun v => v.category).sum ≤ 8)
    (hκ : κ'.1 = κ.1 + cs) (hal : κ'.2.1 = κ.2.1) (hmc : κ.2.1 = false → κ'.2.2.1 = 0)
    (k : ∀ (v : Option Value) (M' : qM), Q' v M' → T l hd κ μ Q (cs + κ'.2.2.1) (sl + κ'.2.2.2) pc' loc (v.toList ++ st) M') : T l hd κ μ Q cs sl pc loc stk M := by
  subst hp; subst hs
  intro p e s m args below meth c H locs ls D tc B E hK hP hS hZ hL
  have hC9 := hC D tc B H.size
  have hts := E.2.2.2.2.2.1
  have hPc : ∀ U : State, U.heap = H → s.WarmedH U.vm → va_Pc ((.ref b :: as).map (qV B)) (fun U => U.heap.size = H.size ∧ (κ'.2.1 = true → H.size = B + κ'.1 ∧ qN U) ∧ va_P D vwCl (qW hd tc B κ'.1 M) U.heap ∧ va_K D vwCl (qT tc) U) ((.ref b :: as).map (qV B)).toArray U := by
    intro U hU hW
    refine ⟨rfl, by rw [hU], fun h => ?_, by rw [hU, hκ]; exact hP, va_K.moved hW.alike hK⟩
    refine ⟨?_, qN.moved hW (E.2.2.2.2.2.2.2.1 (hal ▸ h)).2⟩
    unfold qZ at hZ
    rw [if_pos (hal ▸ h)] at hZ
    rw [hκ]; omega
  have hcat : 2 * (F0 m pc ls ([] : List Value)).monitorRoom + ((st.map (qV B)).map fun v => v.category).sum ≤ 8 := by
    refine lv_room ?_
    rw [List.map_map]
    have : ((fun v : Value => v.category) ∘ qV B) = fun v => v.category := funext fun v => qV_cat B v
    rw [this]; exact hst
  have hts9 : ∀ w ∈ qWs μ, w.before args s = true := E.2.2.2.2.2.2.2.2
  have hnw : va_Nw (.methodLinkNest μ.2.1.cls index μ'.2.1 host) s := hl s (E.2.2.2.2.2.2.2.1 hala).2
  have hrun := va_runIN (p := p) (e := e) (below := below) (meth := meth) (H := H) (locs := locs) (cells := cs) (slots := sl) (b := B + b) (As := as.map (qV B)) (rest := st.map (qV B)) (g := F0 m pc ls ((as.reverse ++ .ref b :: st).map (qV B))) (Ts := qWs μ) ⟨E.1, E.2.1, E.2.2.2.1, E.2.2.2.2.1, hts9⟩ hC9 ⟨va_cnB (host := host) n hts9 (qGood hm.2.2.2.1) (by unfold qWs; rw [hm.2.2.1]) hR.1 hR.2.1 hnw (hts _ hm.2.2.2.2.1) hm.2.2.2.2.2 ⟨hR.2.2.1, hR.2.2.2.1⟩, hm.2.1, hts _ hm.1⟩
    ⟨q_blind, hPc⟩ rfl (by simpa using hn) (hL.1) (by simp [qV]) hcat d ⟨hR.2.2.2.2.1, hR.2.2.2.2.2⟩
  refine q_back hκ hal hmc hrun hS hZ (fun v M' H1 locs1 hQ hP1 hS1 hZ1 => ?_)
  exact k v M' hQ p e s m args below meth c H1 locs1 ls D tc B E hK hP1 hS1 hZ1 hL
theorem T.objInit {a index : Nat} (d : decode μ.1 pc = .ok (.invokespecial index, 3)) (hp : pc + 3 = pc') (h1 : Cond.methodLink μ.2.1.cls index objectInit ∈ WS) (h2 : Cond.instanceMethod objectInit ∈ WS) (h3 : Cond.code objectInit ⟨#[0xb1]⟩ 1 none ∈ WS) (hf : 1 ≤ μ.2.2.2.2.frames) (hl : (st.map fun v => v.category).sum + 12 ≤ μ.2.2.2.2.locals) (k : T l hd κ μ Q cs sl pc' loc st M) : T l hd κ μ Q cs sl pc loc (.ref a :: st) M := by
  subst hp
  intro p e s m args below meth c H locs ls D tc B E hK hP hS hZ hL
  have hts := E.2.2.2.2.2.1
  have hcat : 2 * (F0 m pc ls ([] : List Value)).monitorRoom + ((st.map (qV B)).map fun v => v.category).sum + 12 ≤ μ.2.2.2.2.locals := by
    have e9 : (F0 m pc ls ([] : List Value)).monitorRoom = 0 := rfl
    rw [e9, List.map_map]
    have : ((fun v : Value => v.category) ∘ qV B) = fun v => v.category := funext fun v => qV_cat B v
    rw [this]; omega
  exact W.objInit E.1 E.2.1 E.2.2.2.2.1 (hts _ h1) (hts _ h2) (hts _ h3) rfl (by rw [E.2.2.2.1]; exact hL.1) rfl d hf hcat (k p e s m args below meth c H locs ls D tc B E hK hP hS hZ hL)
theorem T.mmax {x y z : Int32} {index : Nat} (d : decode μ.1 pc = .ok (.invokestatic index, 3)) (hp : pc + 3 = pc') (h1 : Cond.methodLink μ.2.1.cls index Lib.Math.max.name ∈ WS) (h2 : Cond.static Lib.Math.max.name ∈ WS) (h3 : Cond.initialized "java/lang/Math" ∈ WS) (h4 : Cond.code Lib.Math.max.name Lib.Math.max.code 2 (some .int) ∈ WS) (hf : 1 ≤ μ.2.2.2.2.frames) (hl : (st.map fun v => v.category).sum + 13 ≤ μ.2.2.2.2.locals) (hc : cs ≤ μ.2.2.2.2.cells) (hs : sl ≤ μ.2.2.2.2.slots) (hz : (if x < y then y else x) = z) (k : T l hd κ μ Q cs sl pc' loc (.int z :: st) M) : T l hd κ μ Q cs sl pc loc (.int y :: .int x :: st) M := by
  subst hp; subst hz
  intro p e s m args below meth c H locs ls D tc B E hK hP hS hZ hL
  have hts := E.2.2.2.2.2.1
  have hcat : ((st.map (qV B)).map fun v => v.category).sum + 13 ≤ μ.2.2.2.2.locals := by
    rw [List.map_map]
    have : ((fun v : Value => v.category) ∘ qV B) = fun v => v.category := funext fun v => qV_cat B v
    rw [this]; omega
  exact va_mmax E.1 E.2.1 (by rw [E.2.2.2.1]; exact hL.1.symm) E.2.2.2.2.1 (hts _ h1) (hts _ h2) (hts _ h3) (hts _ h4) hf hcat hc hs d (k p e s m args below meth c H locs ls D tc B E hK hP hS hZ hL)
theorem T.mmin {x y z : Int32} {index : Nat} (d : decode μ.1 pc = .ok (.invokestatic index, 3)) (hp : pc + 3 = pc') (h1 : Cond.methodLink μ.2.1.cls index Lib.Math.min.name ∈ WS) (h2 : Cond.static Lib.Math.min.name ∈ WS) (h3 : Cond.initialized "java/lang/Math" ∈ WS) (h4 : Cond.code Lib.Math.min.name Lib.Math.min.code 2 (some .int) ∈ WS) (hf : 1 ≤ μ.2.2.2.2.frames) (hl : (st.map fun v => v.category).sum + 13 ≤ μ.2.2.2.2.locals) (hc : cs ≤ μ.2.2.2.2.cells) (hs : sl ≤ μ.2.2.2.2.slots) (hz : (if y < x then y else x) = z) (k : T l hd κ μ Q cs sl pc' loc (.int z :: st) M) : T l hd κ μ Q cs sl pc loc (.int y :: .int x :: st) M := by
  subst hp; subst hz
  intro p e s m args below meth c H locs ls D tc B E hK hP hS hZ hL
  have hts := E.2.2.2.2.2.1
  have hcat : ((st.map (qV B)).map fun v => v.category).sum + 13 ≤ μ.2.2.2.2.locals := by
    rw [List.map_map]
    have : ((fun v : Value => v.category) ∘ qV B) = fun v => v.category := funext fun v => qV_cat B v
    rw [this]; omega
  exact va_mmin E.1 E.2.1 (by rw [E.2.2.2.1]; exact hL.1.symm) E.2.2.2.2.1 (hts _ h1) (hts _ h2) (hts _ h3) (hts _ h4) hf hcat hc hs d (k p e s m args below meth c H locs ls D tc B E hK hP hS hZ hL)
theorem qW_app {D : va_G} {tc : Nat → ClassId} {hd : qH} {B n : Nat} {M : qM} {H H1 : Heap} (hP : va_P D vwCl (qW hd tc B n M) H) (ho : ∀ q, q < H.size → H1[q]? = H[q]?) (he : va_at D vwCl (B + n, qE tc B hd M n) H1) : va_P D vwCl (qW hd tc B (n + 1) M) H1 := by
  intro k q hk
  obtain ⟨h1, rfl⟩ := qW_inv hk
  by_cases h : k < n
  · exact (hP k _ (qW_get h)).kept (ho _ ((hP k _ (qW_get h)).lt))
  · rw [show k = n by omega]
    exact he
theorem qS_app {κ : qG} {B h0 : Nat} {H0 H H1 : Heap} {locs : List Loc} (hS : va_S (qFr B κ.1 h0) H0 H locs) (hz : H.size ≤ H1.size) (ho : ∀ q, q < H.size → H1[q]? = H[q]?) : va_S (qFr B κ.1 h0) H0 H1 locs :=
  ⟨Nat.le_trans hS.1 hz, fun q h1 h2 => (ho q (Nat.lt_of_lt_of_le h1 hS.1)).trans (hS.2.1 q h1 h2), hS.2.2⟩
theorem T.newo {ci index N : Nat} {C : String} {F : u_T} (d : decode μ.1 pc = .ok (.new index, 3)) (hp : pc + 3 = pc') (hal : κ.2.1 = true) (hh : hd (κ.1 + cs) = .inl ci) (hc : vwCl[ci]? = some (C, F, N)) (hin : ∀ w ∈ u_ws C F N, w ∈ WS) (ty0 : Nat → FieldType) (hty : ∀ k, k < N → parseFieldDescriptor (F k).2.2.1 = some (ty0 k))
    (h1 : Cond.classLink μ.2.1.cls index C ∈ WS) (h2 : Cond.instantiable C N ∈ WS) (h3 : Cond.initialized C ∈ WS) (hfs : ∀ j, j < N → ((qK ci)[j]? = some true ∧ defaultValue (ty0 j) = .null) ∨ ((qK ci)[j]? = some false ∧ defaultValue (ty0 j) = .int 0)) (hM : M.1 (κ.1 + cs) = fun _ => 0) (hM2 : M.2.2 (κ.1 + cs) = fun _ => none)
    (hcells : cs + 1 ≤ μ.2.2.2.2.cells) (hslots : sl + N ≤ μ.2.2.2.2.slots) (k : T l hd κ μ Q (cs + 1) (sl + N) pc' loc (.ref (κ.1 + cs) :: st) M) : T l hd κ μ Q cs sl pc loc st M := by
  subst hp
  intro p e s m args below meth c H locs ls D tc B E hK hP hS hZ hL
  have hts := E.2.2.2.2.2.1
  have hKn := hK.1 ci _ hc
  have hZ0 := hZ
  unfold qZ at hZ0
  rw [if_pos hal] at hZ0
  refine W.newcK E.1 E.2.1 E.2.2.2.2.1 (hts _ h1) (hts _ h2) (hts _ h3) rfl d hcells hslots hKn.2.1 rfl fun H1 kC hkC e1 z1 o1 => ?_
  have hat : va_at D vwCl (B + (κ.1 + cs), qE tc B hd M (κ.1 + cs)) H1 := by
    simp only [qE, hh]
    refine ⟨_, hc, ?_⟩
    have e9 : B + (κ.1 + cs) = H.size := by omega
    show t_OB (B + (κ.1 + cs)) _ _ _ _ _
    rw [e9]
    refine (u_born ty0 hts hin hKn hkC e1 hty).to (fun j hj => ?_)
    show defaultValue (ty0 j) = (qF B M (κ.1 + cs) (qK ci)).getD j .null
    rcases hfs j hj with ⟨g1, g2⟩ | ⟨g1, g2⟩
    · rw [List.getD_eq_getElem?_getD, qF_get g1, g2, hM2]; rfl
    · rw [List.getD_eq_getElem?_getD, qF_get g1, g2, hM]; rfl
  have w1 := qW_app hP o1 hat
  have w3 : qZ κ B (cs + 1) s.heap.size H1.size := by
    unfold qZ
    rw [if_pos hal]
    exact ⟨hZ0.1, by omega⟩
  have w4 := k p e s m args below meth c H1 locs ls D tc B E hK (by rw [← Nat.add_assoc]; exact w1) (qS_app hS (by omega) o1) w3 hL
  have e9 : B + (κ.1 + cs) = H.size := by omega
  have e8 : (Value.ref (κ.1 + cs) :: st).map (qV B) = .ref H.size :: st.map (qV B) := by
    show Value.ref (B + (κ.1 + cs)) :: _ = _
    rw [e9]
  rw [e8] at w4
  exact w4
theorem T.newI {N : Nat} {i : Int32} (d : decode μ.1 pc = .ok (.newarray .int, 2)) (hp : pc + 2 = pc') (hal : κ.2.1 = true) (hw : Cond.arrayClass .int ∈ WS) (hi : i = nI N) (hN : N < 2 ^ 20) (hh : hd (κ.1 + cs) = .inr (0, N)) (hM : M.1 (κ.1 + cs) = fun _ => 0) (hcells : cs + 1 ≤ μ.2.2.2.2.cells) (hslots : sl + N ≤ μ.2.2.2.2.slots) (k : T l hd κ μ Q (cs + 1) (sl + N) pc' loc (.ref (κ.1 + cs) :: st) M) : T l hd κ μ Q cs sl pc loc (.int i :: st) M := by
  subst hp; subst hi
  intro p e s m args below meth c H locs ls D tc B E hK hP hS hZ hL
  have hZ0 := hZ
  unfold qZ at hZ0
  rw [if_pos hal] at hZ0
  have hN31 : N < 2 ^ 31 := Nat.lt_trans hN (by decide)
  refine va_newaK (atype := .int) E.1 E.2.1 (E.2.2.2.2.2.1 _ hw) (g := F0 m pc ls ((.int (nI N) :: st).map (qV B))) rfl d rfl (nI_pos hN31) (nI_clamp hN31) (Nat.le_trans (Nat.mul_le_mul (Nat.le_of_lt hN) (show componentBytes (newarray.typeOf .int) ≤ 8 by decide)) (by decide)) hcells hslots rfl fun H1 cA e1 z1 o1 hAr hNm => ?_
  have hcA : cA = tc 0 := by
    have h9 : va_RA s (tc 0) .int := (hK.2 0 _ rfl).2
    have h8 : s.vm.findClass ("[" ++ (.int : FieldType).toString) = some (tc 0) := h9
    exact Option.some.inj (hNm.symm.trans h8)
  subst hcA
  have hat : va_at D vwCl (B + (κ.1 + cs), qE tc B hd M (κ.1 + cs)) H1 := by
    have e9 : B + (κ.1 + cs) = H.size := by omega
    simp only [qE, hh]
    show H1[B + (κ.1 + cs)]? = some (vp_cell _ _)
    rw [e9, e1]
    simp only [qAr]
    simp [hM, vp_cell]
    rfl
  have w1 := qW_app hP o1 hat
  have w3 : qZ κ B (cs + 1) s.heap.size H1.size := by
    unfold qZ
    rw [if_pos hal]
    exact ⟨hZ0.1, by omega⟩
  have w4 := k p e s m args below meth c H1 locs ls D tc B E hK (by rw [← Nat.add_assoc]; exact w1) (qS_app hS (by omega) o1) w3 hL
  have e9 : B + (κ.1 + cs) = H.size := by omega
  have e8 : (Value.ref (κ.1 + cs) :: st).map (qV B) = .ref H.size :: st.map (qV B) := by
    show Value.ref (B + (κ.1 + cs)) :: _ = _
    rw [e9]
  rw [e8] at w4
  exact w4
theorem T.newZ {N : Nat} {i : Int32} (d : decode μ.1 pc = .ok (.newarray .boolean, 2)) (hp : pc + 2 = pc') (hal : κ.2.1 = true) (hw : Cond.arrayClass .boolean ∈ WS) (hi : i = nI N) (hN : N < 2 ^ 20) (hh : hd (κ.1 + cs) = .inr (1, N)) (hM : M.1 (κ.1 + cs) = fun _ => 0) (hcells : cs + 1 ≤ μ.2.2.2.2.cells) (hslots : sl + N ≤ μ.2.2.2.2.slots) (k : T l hd κ μ Q (cs + 1) (sl + N) pc' loc (.ref (κ.1 + cs) :: st) M) : T l hd κ μ Q cs sl pc loc (.int i :: st) M := by
  subst hp; subst hi
  intro p e s m args below meth c H locs ls D tc B E hK hP hS hZ hL
  have hZ0 := hZ
  unfold qZ at hZ0
  rw [if_pos hal] at hZ0
  have hN31 : N < 2 ^ 31 := Nat.lt_trans hN (by decide)
  refine va_newaK (atype := .boolean) E.1 E.2.1 (E.2.2.2.2.2.1 _ hw) (g := F0 m pc ls ((.int (nI N) :: st).map (qV B))) rfl d rfl (nI_pos hN31) (nI_clamp hN31) (Nat.le_trans (Nat.mul_le_mul (Nat.le_of_lt hN) (show componentBytes (newarray.typeOf .boolean) ≤ 8 by decide)) (by decide)) hcells hslots rfl fun H1 cA e1 z1 o1 hAr hNm => ?_
  have hcA : cA = tc 1 := by
    have h9 : va_RA s (tc 1) .boolean := (hK.2 1 _ rfl).2
    have h8 : s.vm.findClass ("[" ++ (.boolean : FieldType).toString) = some (tc 1) := h9
    exact Option.some.inj (hNm.symm.trans h8)
  subst hcA
  have hat : va_at D vwCl (B + (κ.1 + cs), qE tc B hd M (κ.1 + cs)) H1 := by
    have e9 : B + (κ.1 + cs) = H.size := by omega
    simp only [qE, hh]
    show H1[B + (κ.1 + cs)]? = some (vp_cell _ _)
    rw [e9, e1]
    simp only [qAr]
    simp [hM, vp_cell]
    rfl
  have w1 := qW_app hP o1 hat
  have w3 : qZ κ B (cs + 1) s.heap.size H1.size := by
    unfold qZ
    rw [if_pos hal]
    exact ⟨hZ0.1, by omega⟩
  have w4 := k p e s m args below meth c H1 locs ls D tc B E hK (by rw [← Nat.add_assoc]; exact w1) (qS_app hS (by omega) o1) w3 hL
  have e9 : B + (κ.1 + cs) = H.size := by omega
  have e8 : (Value.ref (κ.1 + cs) :: st).map (qV B) = .ref H.size :: st.map (qV B) := by
    show Value.ref (B + (κ.1 + cs)) :: _ = _
    rw [e9]
  rw [e8] at w4
  exact w4
theorem T.newC {N : Nat} {i : Int32} (d : decode μ.1 pc = .ok (.newarray .char, 2)) (hp : pc + 2 = pc') (hal : κ.2.1 = true) (hw : Cond.arrayClass .char ∈ WS) (hi : i = nI N) (hN : N < 2 ^ 20) (hh : hd (κ.1 + cs) = .inr (2, N)) (hM : M.1 (κ.1 + cs) = fun _ => 0) (hcells : cs + 1 ≤ μ.2.2.2.2.cells) (hslots : sl + N ≤ μ.2.2.2.2.slots) (k : T l hd κ μ Q (cs + 1) (sl + N) pc' loc (.ref (κ.1 + cs) :: st) M) : T l hd κ μ Q cs sl pc loc (.int i :: st) M := by
  subst hp; subst hi
  intro p e s m args below meth c H locs ls D tc B E hK hP hS hZ hL
  have hZ0 := hZ
  unfold qZ at hZ0
  rw [if_pos hal] at hZ0
  have hN31 : N < 2 ^ 31 := Nat.lt_trans hN (by decide)
  refine va_newaK (atype := .char) E.1 E.2.1 (E.2.2.2.2.2.1 _ hw) (g := F0 m pc ls ((.int (nI N) :: st).map (qV B))) rfl d rfl (nI_pos hN31) (nI_clamp hN31) (Nat.le_trans (Nat.mul_le_mul (Nat.le_of_lt hN) (show componentBytes (newarray.typeOf .char) ≤ 8 by decide)) (by decide)) hcells hslots rfl fun H1 cA e1 z1 o1 hAr hNm => ?_
  have hcA : cA = tc 2 := by
    have h9 : va_RA s (tc 2) .char := (hK.2 2 _ rfl).2
    have h8 : s.vm.findClass ("[" ++ (.char : FieldType).toString) = some (tc 2) := h9
    exact Option.some.inj (hNm.symm.trans h8)
  subst hcA
  have hat : va_at D vwCl (B + (κ.1 + cs), qE tc B hd M (κ.1 + cs)) H1 := by
    have e9 : B + (κ.1 + cs) = H.size := by omega
    simp only [qE, hh]
    show H1[B + (κ.1 + cs)]? = some (vp_cell _ _)
    rw [e9, e1]
    simp only [qAr]
    simp [hM, vp_cell]
    rfl
  have w1 := qW_app hP o1 hat
  have w3 : qZ κ B (cs + 1) s.heap.size H1.size := by
    unfold qZ
    rw [if_pos hal]
    exact ⟨hZ0.1, by omega⟩
  have w4 := k p e s m args below meth c H1 locs ls D tc B E hK (by rw [← Nat.add_assoc]; exact w1) (qS_app hS (by omega) o1) w3 hL
  have e9 : B + (κ.1 + cs) = H.size := by omega
  have e8 : (Value.ref (κ.1 + cs) :: st).map (qV B) = .ref H.size :: st.map (qV B) := by
    show Value.ref (B + (κ.1 + cs)) :: _ = _
    rw [e9]
  rw [e8] at w4
  exact w4
theorem T.newJ {N : Nat} {i : Int32} (d : decode μ.1 pc = .ok (.newarray .long, 2)) (hp : pc + 2 = pc') (hal : κ.2.1 = true) (hw : Cond.arrayClass .long ∈ WS) (hi : i = nI N) (hN : N < 2 ^ 20) (hh : hd (κ.1 + cs) = .inr (3, N)) (hM : M.2.1 (κ.1 + cs) = fun _ => 0) (hcells : cs + 1 ≤ μ.2.2.2.2.cells) (hslots : sl + N ≤ μ.2.2.2.2.slots) (k : T l hd κ μ Q (cs + 1) (sl + N) pc' loc (.ref (κ.1 + cs) :: st) M) : T l hd κ μ Q cs sl pc loc (.int i :: st) M := by
  subst hp; subst hi
  intro p e s m args below meth c H locs ls D tc B E hK hP hS hZ hL
  have hZ0 := hZ
  unfold qZ at hZ0
  rw [if_pos hal] at hZ0
  have hN31 : N < 2 ^ 31 := Nat.lt_trans hN (by decide)
  refine va_newaK (atype := .long) E.1 E.2.1 (E.2.2.2.2.2.1 _ hw) (g := F0 m pc ls ((.int (nI N) :: st).map (qV B))) rfl d rfl (nI_pos hN31) (nI_clamp hN31) (Nat.le_trans (Nat.mul_le_mul (Nat.le_of_lt hN) (show componentBytes (newarray.typeOf .long) ≤ 8 by decide)) (by decide)) hcells hslots rfl fun H1 cA e1 z1 o1 hAr hNm => ?_
  have hcA : cA = tc 3 := by
    have h9 : va_RA s (tc 3) .long := (hK.2 3 _ rfl).2
    have h8 : s.vm.findClass ("[" ++ (.long : FieldType).toString) = some (tc 3) := h9
    exact Option.some.inj (hNm.symm.trans h8)
  subst hcA
  have hat : va_at D vwCl (B + (κ.1 + cs), qE tc B hd M (κ.1 + cs)) H1 := by
    have e9 : B + (κ.1 + cs) = H.size := by omega
    simp only [qE, hh]
    show H1[B + (κ.1 + cs)]? = some (vp_cell _ _)
    rw [e9, e1]
    simp only [qAr]
    simp [hM, vp_cell]
    rfl
  have w1 := qW_app hP o1 hat
  have w3 : qZ κ B (cs + 1) s.heap.size H1.size := by
    unfold qZ
    rw [if_pos hal]
    exact ⟨hZ0.1, by omega⟩
  have w4 := k p e s m args below meth c H1 locs ls D tc B E hK (by rw [← Nat.add_assoc]; exact w1) (qS_app hS (by omega) o1) w3 hL
  have e9 : B + (κ.1 + cs) = H.size := by omega
  have e8 : (Value.ref (κ.1 + cs) :: st).map (qV B) = .ref H.size :: st.map (qV B) := by
    show Value.ref (B + (κ.1 + cs)) :: _ = _
    rw [e9]
  rw [e8] at w4
  exact w4
theorem T.newS {N index : Nat} {i : Int32} (d : decode μ.1 pc = .ok (.anewarray index, 3)) (hp : pc + 3 = pc') (hal : κ.2.1 = true) (h1 : Cond.classLink μ.2.1.cls index "BlindHunts$State" ∈ WS) (hi : i = nI N) (hN : N < 2 ^ 20) (hh : hd (κ.1 + cs) = .inr (4, N)) (hM : M.2.2 (κ.1 + cs) = fun _ => none) (hcells : cs + 1 ≤ μ.2.2.2.2.cells) (hslots : sl + N ≤ μ.2.2.2.2.slots) (k : T l hd κ μ Q (cs + 1) (sl + N) pc' loc (.ref (κ.1 + cs) :: st) M) : T l hd κ μ Q cs sl pc loc (.int i :: st) M := by
  subst hp; subst hi
  intro p e s m args below meth c H locs ls D tc B E hK hP hS hZ hL
  have hZ0 := hZ
  unfold qZ at hZ0
  rw [if_pos hal] at hZ0
  have hN31 : N < 2 ^ 31 := Nat.lt_trans hN (by decide)
  refine W.anew E.1 E.2.1 E.2.2.2.2.1 (E.2.2.2.2.2.1 _ h1) (va_AO.use (E.2.2.2.2.2.2.2.1 hal).2.1) (g := F0 m pc ls ((.int (nI N) :: st).map (qV B))) rfl d rfl (nI_pos hN31) (by rw [nI_clamp hN31]; omega) hcells (by rw [nI_clamp hN31]; exact hslots) fun cA kA comp f1 f2 f3 f4 => ?_
  rw [nI_clamp hN31]
  generalize hH1 : H.push ({ cls := cA, slots := Array.replicate N .null, vm := .none } : Cell) = H1
  have z1 : H1.size = H.size + 1 := by rw [← hH1, Array.size_push]
  have e1 : H1[H.size]? = some (arrV cA N (fun _ => .null)) := by rw [← hH1, Array.getElem?_push_size, ← arrV_new]
  have o1 : ∀ q : Nat, q < H.size → H1[q]? = H[q]? := fun q hq => by rw [← hH1, Array.getElem?_push, if_neg (Nat.ne_of_lt hq)]
  have hcA : cA = tc 4 := by
    obtain ⟨_, _, _, _, _, h8⟩ := (hK.2 4 _ rfl).2
    exact Option.some.inj (f1.symm.trans h8)
  subst hcA
  have hat : va_at D vwCl (B + (κ.1 + cs), qE tc B hd M (κ.1 + cs)) H1 := by
    have e9 : B + (κ.1 + cs) = H.size := by omega
    simp only [qE, hh]
    show H1[B + (κ.1 + cs)]? = some (vp_cell _ _)
    rw [e9, e1]
    simp only [qAr]
    simp [hM, vp_cell, va_rf]
  have w1 := qW_app hP o1 hat
  have w3 : qZ κ B (cs + 1) s.heap.size H1.size := by
    unfold qZ
    rw [if_pos hal]
    exact ⟨hZ0.1, by omega⟩
  have w4 := k p e s m args below meth c H1 locs ls D tc B E hK (by rw [← Nat.add_assoc]; exact w1) (qS_app hS (by omega) o1) w3 hL
  have e9 : B + (κ.1 + cs) = H.size := by omega
  have e8 : (Value.ref (κ.1 + cs) :: st).map (qV B) = .ref H.size :: st.map (qV B) := by
    show Value.ref (B + (κ.1 + cs)) :: _ = _
    rw [e9]
  rw [e8] at w4
  exact w4
theorem T.mna {index N K : Nat} (d : decode μ.1 pc = .ok (.multianewarray index 2, 4)) (hp : pc + 4 = pc') (hal : κ.2.1 = true) (h1 : Cond.classLink μ.2.1.cls index ("[" ++ (FieldType.array .int).toString) ∈ WS) (h3 : Cond.arrayClass .int ∈ WS) {n k9 : Int32} (hn : n = nI N) (hk9 : k9 = nI K) (hN : N < 2 ^ 20) (hK9 : K < 2 ^ 20)
    (hh : hd (κ.1 + cs) = .inr (5, N)) (hhi : ∀ j, j < N → hd (κ.1 + cs + 1 + j) = .inr (0, K)) (hM : ∀ j, j < N → M.1 (κ.1 + cs + 1 + j) = fun _ => 0) (hcells : cs + (1 + N) ≤ μ.2.2.2.2.cells) (hslots : sl + (N + N * K) ≤ μ.2.2.2.2.slots)
    (k : T l hd κ μ Q (cs + 1 + N) (sl + N + N * K) pc' loc (.ref (κ.1 + cs) :: st) (M.1, M.2.1, fun b j => if b = κ.1 + cs then (if j < N then some (κ.1 + cs + 1 + j) else none) else M.2.2 b j)) : T l hd κ μ Q cs sl pc loc (.int k9 :: .int n :: st) M := by
  subst hp; subst hn; subst hk9
  intro p e s m args below meth c H locs ls D tc B E hK hP hS hZ hL
  have hts := E.2.2.2.2.2.1
  have hZ0 := hZ
  unfold qZ at hZ0
  rw [if_pos hal] at hZ0
  have hN31 : N < 2 ^ 31 := Nat.lt_trans hN (by decide)
  have hK31 : K < 2 ^ 31 := Nat.lt_trans hK9 (by decide)
  intro U hU Xs
  subst hU
  have hb : c.code = μ.1 := E.2.1
  obtain ⟨vm₁, cA, comp, -, fA, fC, hO, -, X', step⟩ := Xs.multianewarray2F (ty := .int) E.1 E.2.2.2.2.1 (hts _ h1) (show (Cond.arrayOver (.array .int)).before args s = true from (E.2.2.2.2.2.2.2.1 hal).2.2.1) (hts _ h3) (g := F0 m pc ls ((.int (nI K) :: .int (nI N) :: st).map (qV B))) rfl (by rw [hb]; exact d) rfl (nI_pos hN31) (nI_pos hK31) (by rw [nI_clamp hN31]; omega) (by rw [nI_clamp hK31]; show K * 4 ≤ _; omega) (by rw [nI_clamp hK31]; omega) rfl rfl (by rw [nI_clamp hN31]; exact hcells) (by rw [nI_clamp hN31, nI_clamp hK31]; exact hslots)
  rw [nI_clamp hN31, nI_clamp hK31] at X' step
  have ec : tc 0 = comp := by
    have h9 : va_RA s (tc 0) .int := (hK.2 0 _ rfl).2
    have h8 : s.vm.findClass ("[" ++ (FieldType.int).toString) = some (tc 0) := h9
    exact Option.some.inj (h8.symm.trans fC)
  have ea : cA = tc 5 := by
    have h9 : va_RA s (tc 5) (.array .int) := (hK.2 5 _ rfl).2
    have h8 : s.vm.findClass ("[" ++ (FieldType.array .int).toString) = some (tc 5) := h9
    exact Option.some.inj (fA.symm.trans h8)
  subst ec; subst ea
  generalize hF : Jvm.Free.Multi.fill (U.setVm vm₁) (tc 5) (tc 0) N K (defaultValue .int) N = F at X' step
  obtain ⟨f1, f2, -, -⟩ := Jvm.Free.Multi.fill_facts (U.setVm vm₁) (tc 5) (tc 0) N K (defaultValue .int) N
  rw [hF] at f1 f2
  have hold : ∀ x : Nat, x < U.heap.size → F.heap[x]? = U.heap[x]? := fun x hx => by
    have := Jvm.Free.Multi.fill_old (U.setVm vm₁) (tc 5) (tc 0) N K (defaultValue .int) (a := x) hx N
    rw [hF] at this
    exact this
  have hrow : ∀ j : Nat, j < N → F.heap[U.heap.size + 1 + j]? = some (vp_cell (tc 0) (K, .inl (fun _ => 0))) := fun j hj => by
    have := Jvm.Free.Multi.fill_inner (U.setVm vm₁) (tc 5) (tc 0) N K (defaultValue .int) N j hj
    rw [hF] at this
    rw [show U.heap.size + 1 + j = (U.setVm vm₁).heap.size + 1 + j from rfl, this]
    congr 1
    show ({ cls := tc 0, slots := Array.replicate K (.int 0), vm := .none } : Cell) = _
    rw [arrV_new, vp_cell_i]
  have hout : F.heap[U.heap.size]? = some (vp_cell (tc 5) (N, .inr (.inr (.inr (.inr (fun i => if i < N then some (U.heap.size + 1 + i) else none)))))) := by
    rw [show U.heap.size = (U.setVm vm₁).heap.size from rfl, f2, vr_outer, vp_cell_q]
  have hz1 : F.heap.size = U.heap.size + 1 + N := f1
  have e9 : B + (κ.1 + cs) = U.heap.size := by omega
  have hP1 : va_P D vwCl (qW hd tc B (κ.1 + (cs + 1 + N)) (M.1, M.2.1, fun b j => if b = κ.1 + cs then (if j < N then some (κ.1 + cs + 1 + j) else none) else M.2.2 b j)) F.heap := by
    intro k8 q hk8
    obtain ⟨g1, rfl⟩ := qW_inv hk8
    by_cases h : k8 < κ.1 + cs
    · have hco : (fun b j => if b = κ.1 + cs then (if j < N then some (κ.1 + cs + 1 + j) else none) else M.2.2 b j) k8 = M.2.2 k8 := by
        funext j
        show (if k8 = κ.1 + cs then _ else M.2.2 k8 j) = M.2.2 k8 j
        exact if_neg (by omega)
      have hqe : qE tc B hd (M.1, M.2.1, fun b j => if b = κ.1 + cs then (if j < N then some (κ.1 + cs + 1 + j) else none) else M.2.2 b j) k8 = qE tc B hd M k8 := qE_congr rfl rfl hco
      rw [hqe]
      exact (hP k8 _ (qW_get h)).kept (hold _ ((hP k8 _ (qW_get h)).lt))
    · by_cases h9 : k8 = κ.1 + cs
      · subst h9
        simp only [qE, hh]
        show F.heap[B + (κ.1 + cs)]? = some (vp_cell _ _)
        rw [e9, hout]
        congr 2
        simp only [qAr]
        rw [if_neg (by decide), if_neg (by decide)]
        congr 5
        funext i
        simp only [if_true]
        by_cases hi : i < N
        · simp only [hi, if_true, Option.map_some]; congr 1; omega
        · simp only [hi, if_false, Option.map_none]
      · obtain ⟨j, hj, rfl⟩ : ∃ j, j < N ∧ k8 = κ.1 + cs + 1 + j := ⟨k8 - (κ.1 + cs + 1), by omega, by omega⟩
        simp only [qE, hhi j hj]
        show F.heap[B + (κ.1 + cs + 1 + j)]? = some (vp_cell _ _)
        rw [show B + (κ.1 + cs + 1 + j) = U.heap.size + 1 + j by omega, hrow j hj]
        simp only [qAr]
        rw [if_neg (by decide), if_pos (by decide), hM j hj]
        show some (vp_cell (tc 0) (K, .inl fun _ => 0)) = some (vp_cell (tc 0) (K, .inl fun _ => nI 0))
        rw [nI_0]
  have w3 : qZ κ B (cs + 1 + N) s.heap.size F.heap.size := by
    unfold qZ
    rw [if_pos hal]
    exact ⟨hZ0.1, by omega⟩
  have w4 := k p e s m args below meth c F.heap locs ls D tc B E hK hP1 (qS_app hS (by omega) hold) w3 hL F rfl X'
  obtain ⟨t, a1, b1⟩ := w4
  refine ⟨t, step t ?_, b1⟩
  have e8 : (Value.ref (κ.1 + cs) :: st).map (qV B) = .ref U.heap.size :: st.map (qV B) := by
    show Value.ref (B + (κ.1 + cs)) :: _ = _
    rw [e9]
  rw [e8] at a1
  exact a1
end QRows
end
section
/-! ints that are numbers: what the machine's operations make of them -/
theorem nN_and (a b : Nat) : nI a &&& nI b = nI (a &&& b) := by
  apply Int32.toBitVec_inj.1
  show BitVec.ofNat 32 a &&& BitVec.ofNat 32 b = BitVec.ofNat 32 (a &&& b)
  apply BitVec.eq_of_getLsbD_eq
  intro i hi
  simp [hi]
theorem nN_or (a b : Nat) : nI a ||| nI b = nI (a ||| b) := by
  apply Int32.toBitVec_inj.1
  show BitVec.ofNat 32 a ||| BitVec.ofNat 32 b = BitVec.ofNat 32 (a ||| b)
  apply BitVec.eq_of_getLsbD_eq
  intro i hi
  simp [hi]
theorem nN_xor (a b : Nat) : nI a ^^^ nI b = nI (a ^^^ b) := by
  apply Int32.toBitVec_inj.1
  show BitVec.ofNat 32 a ^^^ BitVec.ofNat 32 b = BitVec.ofNat 32 (a ^^^ b)
  apply BitVec.eq_of_getLsbD_eq
  intro i hi
  simp [hi]
theorem nN_sm : ∀ k : Fin 32, ((nI k.val &&& 31).toBitVec.smod 32).toNat = k.val := by decide +kernel
theorem nN_shl {k : Nat} (a : Nat) (hk : k < 32) : nI a <<< (nI k &&& 31) = nI (a <<< k) := by
  apply Int32.toBitVec_inj.1
  rw [Int32.toBitVec_shiftLeft]
  show BitVec.ofNat 32 a <<< ((nI k &&& 31).toBitVec.smod 32) = BitVec.ofNat 32 (a <<< k)
  rw [BitVec.shiftLeft_eq', nN_sm ⟨k, hk⟩]
  apply BitVec.eq_of_toNat_eq
  simp [BitVec.toNat_shiftLeft, Nat.shiftLeft_eq]
theorem nN_shr {a k : Nat} (ha : a < 2 ^ 31) (hk : k < 32) : nI a >>> (nI k &&& 31) = nI (a >>> k) := by
  have h : a >>> k ≤ a := by rw [Nat.shiftRight_eq_div_pow]; exact Nat.div_le_self _ _
  apply Int32.toInt_inj.1
  rw [nI_toInt (by omega), pk_shr _ _ k (nN_sm ⟨k, hk⟩), nI_toInt ha]
  rfl
theorem nN_sub {a b : Nat} (h : b ≤ a) : nI a - nI b = nI (a - b) := pk_sub h
theorem nN_m1 {a : Nat} (h : 1 ≤ a) : nI a + Int32.ofInt (-1) = nI (a - 1) := by
  obtain ⟨b, rfl⟩ : ∃ b, a = b + 1 := ⟨a - 1, by omega⟩
  show nI (b + 1) + (-1) = nI b
  exact pk_m1 b
theorem nN_p (a n : Nat) : nI a + Int32.ofInt (n : Int) = nI (a + n) := nI_add a n
/-- a number of 32 bits, as the machine compares it -/
theorem nN_lt {a b : Nat} (ha : a < 2 ^ 31) (hb : b < 2 ^ 31) : nI a < nI b ↔ a < b := nI_ltI ha hb
theorem nN_le {a b : Nat} (ha : a < 2 ^ 31) (hb : b < 2 ^ 31) : nI a ≤ nI b ↔ a ≤ b := nI_leI ha hb
theorem nN_eq {a b : Nat} (ha : a < 2 ^ 32) (hb : b < 2 ^ 32) : nI a = nI b ↔ a = b := by
  constructor
  · intro h
    have h1 := congrArg (fun x : Int32 => x.toBitVec.toNat) h
    simpa [pk_tn ha, pk_tn hb] using h1
  · intro h; rw [h]
theorem nN_neg {a : Nat} (h1 : 2 ^ 31 ≤ a) (h2 : a < 2 ^ 32) : (nI a).toInt = (a : Int) - 2 ^ 32 := by
  have : (nI a).toInt = (BitVec.ofNat 32 a).toInt := rfl
  rw [this, BitVec.toInt_eq_toNat_cond]
  simp only [BitVec.toNat_ofNat]
  rw [Nat.mod_eq_of_lt (by omega), if_neg (by omega)]
  rfl
theorem nN_of (x : Int32) : ∃ a, a < 2 ^ 32 ∧ x = nI a := ⟨x.toBitVec.toNat, x.toBitVec.isLt, by
  apply Int32.toBitVec_inj.1
  show x.toBitVec = BitVec.ofNat 32 x.toBitVec.toNat
  simp⟩
/-- the number that is in the range, or the machine sees it outside -/
theorem nN_in {a : Nat} (ha : a < 2 ^ 32) : a < 2 ^ 31 ∨ nI a < nI 0 := by
  by_cases h : a < 2 ^ 31
  · exact Or.inl h
  · refine Or.inr ?_
    rw [Int32.lt_iff_toInt_lt, nN_neg (by omega) ha, nI_toInt (by decide)]
    omega
section NRows
variable {l : Launch} {hd : qH} {κ : qG} {μ : qMI} {Q : Option Value → qM → Prop} {cs sl pc pc' tgt : Nat} {loc : List (Option Value)} {st : List Value} {M : qM} {a b : Nat} {off : Int}
theorem T.icmp_eqN (d : decode μ.1 pc = .ok (.if_icmp .eq off, 3)) (hp : pc + 3 = pc') (ht : (pc : Int) + off = (tgt : Int)) (ha : a < 2 ^ 32) (hb : b < 2 ^ 32) (kt : a = b → T l hd κ μ Q cs sl tgt loc st M) (kf : a ≠ b → T l hd κ μ Q cs sl pc' loc st M) : T l hd κ μ Q cs sl pc loc (.int (nI b) :: .int (nI a) :: st) M :=
  T.icmp_eq d hp ht (fun h => kt ((nN_eq ha hb).mp h)) (fun h => kf (fun h2 => h ((nN_eq ha hb).mpr h2)))
theorem T.icmp_neN (d : decode μ.1 pc = .ok (.if_icmp .ne off, 3)) (hp : pc + 3 = pc') (ht : (pc : Int) + off = (tgt : Int)) (ha : a < 2 ^ 32) (hb : b < 2 ^ 32) (kt : a ≠ b → T l hd κ μ Q cs sl tgt loc st M) (kf : a = b → T l hd κ μ Q cs sl pc' loc st M) : T l hd κ μ Q cs sl pc loc (.int (nI b) :: .int (nI a) :: st) M :=
  T.icmp_ne d hp ht (fun h => kt (fun h2 => h ((nN_eq ha hb).mpr h2))) (fun h => kf ((nN_eq ha hb).mp h))
theorem T.icmp_ltN (d : decode μ.1 pc = .ok (.if_icmp .lt off, 3)) (hp : pc + 3 = pc') (ht : (pc : Int) + off = (tgt : Int)) (ha : a < 2 ^ 31) (hb : b < 2 ^ 31) (kt : a < b → T l hd κ μ Q cs sl tgt loc st M) (kf : b ≤ a → T l hd κ μ Q cs sl pc' loc st M) : T l hd κ μ Q cs sl pc loc (.int (nI b) :: .int (nI a) :: st) M :=
  T.icmp_lt d hp ht (fun h => kt ((nN_lt ha hb).mp h)) (fun h => kf (Nat.not_lt.mp (fun h2 => h ((nN_lt ha hb).mpr h2))))
theorem T.icmp_geN (d : decode μ.1 pc = .ok (.if_icmp .ge off, 3)) (hp : pc + 3 = pc') (ht : (pc : Int) + off = (tgt : Int)) (ha : a < 2 ^ 31) (hb : b < 2 ^ 31) (kt : b ≤ a → T l hd κ μ Q cs sl tgt loc st M) (kf : a < b → T l hd κ μ Q cs sl pc' loc st M) : T l hd κ μ Q cs sl pc loc (.int (nI b) :: .int (nI a) :: st) M :=
  T.icmp_ge d hp ht (fun h => kt ((nN_le hb ha).mp h)) (fun h => kf (Nat.not_le.mp (fun h2 => h ((nN_le hb ha).mpr h2))))
theorem T.icmp_gtN (d : decode μ.1 pc = .ok (.if_icmp .gt off, 3)) (hp : pc + 3 = pc') (ht : (pc : Int) + off = (tgt : Int)) (ha : a < 2 ^ 31) (hb : b < 2 ^ 31) (kt : b < a → T l hd κ μ Q cs sl tgt loc st M) (kf : a ≤ b → T l hd κ μ Q cs sl pc' loc st M) : T l hd κ μ Q cs sl pc loc (.int (nI b) :: .int (nI a) :: st) M :=
  T.icmp_gt d hp ht (fun h => kt ((nN_lt hb ha).mp h)) (fun h => kf (Nat.not_lt.mp (fun h2 => h ((nN_lt hb ha).mpr h2))))
theorem T.icmp_leN (d : decode μ.1 pc = .ok (.if_icmp .le off, 3)) (hp : pc + 3 = pc') (ht : (pc : Int) + off = (tgt : Int)) (ha : a < 2 ^ 31) (hb : b < 2 ^ 31) (kt : a ≤ b → T l hd κ μ Q cs sl tgt loc st M) (kf : b < a → T l hd κ μ Q cs sl pc' loc st M) : T l hd κ μ Q cs sl pc loc (.int (nI b) :: .int (nI a) :: st) M :=
  T.icmp_le d hp ht (fun h => kt ((nN_le ha hb).mp h)) (fun h => kf (Nat.not_le.mp (fun h2 => h ((nN_le ha hb).mpr h2))))
theorem T.if_eqN (d : decode μ.1 pc = .ok (.ifCond .eq off, 3)) (hp : pc + 3 = pc') (ht : (pc : Int) + off = (tgt : Int)) (ha : a < 2 ^ 32) (kt : a = 0 → T l hd κ μ Q cs sl tgt loc st M) (kf : a ≠ 0 → T l hd κ μ Q cs sl pc' loc st M) : T l hd κ μ Q cs sl pc loc (.int (nI a) :: st) M :=
  T.if_eq d hp ht (fun h => kt ((nN_eq ha (by decide)).mp (h.trans nI_0.symm))) (fun h => kf (fun h2 => h (by rw [h2]; exact nI_0)))
theorem T.if_neN (d : decode μ.1 pc = .ok (.ifCond .ne off, 3)) (hp : pc + 3 = pc') (ht : (pc : Int) + off = (tgt : Int)) (ha : a < 2 ^ 32) (kt : a ≠ 0 → T l hd κ μ Q cs sl tgt loc st M) (kf : a = 0 → T l hd κ μ Q cs sl pc' loc st M) : T l hd κ μ Q cs sl pc loc (.int (nI a) :: st) M :=
  T.if_ne d hp ht (fun h => kt (fun h2 => h (by rw [h2]; exact nI_0))) (fun h => kf ((nN_eq ha (by decide)).mp (h.trans nI_0.symm)))
theorem T.if_geN (d : decode μ.1 pc = .ok (.ifCond .ge off, 3)) (hp : pc + 3 = pc') (ht : (pc : Int) + off = (tgt : Int)) (ha : a < 2 ^ 31) (kt : T l hd κ μ Q cs sl tgt loc st M) : T l hd κ μ Q cs sl pc loc (.int (nI a) :: st) M :=
  T.if_ge d hp ht (fun _ => kt) (fun h => absurd (nI_pos' ha) h)
theorem T.if_ltN (d : decode μ.1 pc = .ok (.ifCond .lt off, 3)) (hp : pc + 3 = pc') (ht : (pc : Int) + off = (tgt : Int)) (ha : a < 2 ^ 31) (kf : T l hd κ μ Q cs sl pc' loc st M) : T l hd κ μ Q cs sl pc loc (.int (nI a) :: st) M :=
  T.if_lt d hp ht (fun h => absurd h (nI_pos ha)) (fun _ => kf)
theorem T.if_leN (d : decode μ.1 pc = .ok (.ifCond .le off, 3)) (hp : pc + 3 = pc') (ht : (pc : Int) + off = (tgt : Int)) (ha : a < 2 ^ 31) (kt : a = 0 → T l hd κ μ Q cs sl tgt loc st M) (kf : 0 < a → T l hd κ μ Q cs sl pc' loc st M) : T l hd κ μ Q cs sl pc loc (.int (nI a) :: st) M :=
  T.if_le d hp ht (fun h => kt (Classical.byContradiction fun h2 => nI_nle (by omega) ha h)) (fun h => kf (Nat.pos_of_ne_zero (fun h2 => h (by rw [h2]; exact Int32.le_refl _))))
theorem T.if_gtN (d : decode μ.1 pc = .ok (.ifCond .gt off, 3)) (hp : pc + 3 = pc') (ht : (pc : Int) + off = (tgt : Int)) (ha : a < 2 ^ 31) (kt : 0 < a → T l hd κ μ Q cs sl tgt loc st M) (kf : a = 0 → T l hd κ μ Q cs sl pc' loc st M) : T l hd κ μ Q cs sl pc loc (.int (nI a) :: st) M :=
  T.if_gt d hp ht (fun h => kt (Nat.pos_of_ne_zero (fun h2 => by rw [h2] at h; exact absurd h (by decide)))) (fun h => kf (Classical.byContradiction fun h2 => h (by
    have := (nN_lt (a := 0) (by decide) ha).mpr (by omega)
    rwa [nI_0] at this)))
end NRows
end
section
abbrev mX0_init : qMI := (cX0_init, yX0_init, 3, none, { frames := 1, cells := 2, slots := 256, locals := 20 })
theorem uX0_init : qCtor mX0_init 2 := ⟨wI_X0_init, rfl, rfl, ⟨wC_X0_init, wZ_X0, by decide +kernel, by decide +kernel, by decide +kernel⟩⟩
abbrev mX0_solve : qMI := (cX0_solve, yX0_solve, 4, none, { frames := 4, cells := 0, slots := 0, locals := 98 })
theorem uX0_solve : qVirt mX0_solve 1 := ⟨wI_X0_solve, wS_X0_solve, ⟨wC_X0_solve, wZ_X0, by decide +kernel, by decide +kernel, by decide +kernel⟩⟩
abbrev mX0_solveLevel : qMI := (cX0_solveLevel, yX0_solveLevel, 5, (some .boolean), { frames := 3, cells := 0, slots := 0, locals := 74 })
theorem uX0_solveLevel : qVirt mX0_solveLevel 2 := ⟨wI_X0_solveLevel, wS_X0_solveLevel, ⟨wC_X0_solveLevel, wZ_X0, by decide +kernel, by decide +kernel, by decide +kernel⟩⟩
abbrev mX0_partsAreSure : qMI := (cX0_partsAreSure, yX0_partsAreSure, 4, (some .boolean), { frames := 0, cells := 0, slots := 0, locals := 0 })
theorem uX0_partsAreSure : qVirt mX0_partsAreSure 1 := ⟨wI_X0_partsAreSure, wS_X0_partsAreSure, ⟨wC_X0_partsAreSure, wZ_X0, by decide +kernel, by decide +kernel, by decide +kernel⟩⟩
abbrev mX0_settle : qMI := (cX0_settle, yX0_settle, 5, (some .boolean), { frames := 2, cells := 0, slots := 0, locals := 50 })
theorem uX0_settle : qVirt mX0_settle 3 := ⟨wI_X0_settle, wS_X0_settle, ⟨wC_X0_settle, wZ_X0, by decide +kernel, by decide +kernel, by decide +kernel⟩⟩
abbrev mX0_leadsLower : qMI := (cX0_leadsLower, yX0_leadsLower, 7, (some .boolean), { frames := 1, cells := 0, slots := 0, locals := 24 })
theorem uX0_leadsLower : qVirt mX0_leadsLower 4 := ⟨wI_X0_leadsLower, wS_X0_leadsLower, ⟨wC_X0_leadsLower, wZ_X0, by decide +kernel, by decide +kernel, by decide +kernel⟩⟩
abbrev mX0_countSure : qMI := (cX0_countSure, yX0_countSure, 4, (some .int), { frames := 0, cells := 0, slots := 0, locals := 0 })
theorem uX0_countSure : qVirt mX0_countSure 1 := ⟨wI_X0_countSure, wS_X0_countSure, ⟨wC_X0_countSure, wZ_X0, by decide +kernel, by decide +kernel, by decide +kernel⟩⟩
abbrev mX0_hardestBelief : qMI := (cX0_hardestBelief, yX0_hardestBelief, 4, (some .int), { frames := 2, cells := 0, slots := 0, locals := 44 })
theorem uX0_hardestBelief : qVirt mX0_hardestBelief 1 := ⟨wI_X0_hardestBelief, wS_X0_hardestBelief, ⟨wC_X0_hardestBelief, wZ_X0, by decide +kernel, by decide +kernel, by decide +kernel⟩⟩
abbrev mX0_mostNeeded : qMI := (cX0_mostNeeded, yX0_mostNeeded, 4, (some .int), { frames := 1, cells := 0, slots := 0, locals := 21 })
theorem uX0_mostNeeded : qVirt mX0_mostNeeded 1 := ⟨wI_X0_mostNeeded, wS_X0_mostNeeded, ⟨wC_X0_mostNeeded, wZ_X0, by decide +kernel, by decide +kernel, by decide +kernel⟩⟩
abbrev mX1_init : qMI := (cX1_init, yX1_init, 1, none, { frames := 1, cells := 8, slots := 778, locals := 20 })
theorem uX1_init : qCtor mX1_init 0 := ⟨wI_X1_init, rfl, rfl, ⟨wC_X1_init, wZ_X1, by decide +kernel, by decide +kernel, by decide +kernel⟩⟩
abbrev mX1_build : qMI := (cX1_build, yX1_build, 3, none, { frames := 3, cells := 0, slots := 0, locals := 67 })
theorem uX1_build : qVirt mX1_build 1 := ⟨wI_X1_build, wS_X1_build, ⟨wC_X1_build, wZ_X1, by decide +kernel, by decide +kernel, by decide +kernel⟩⟩
abbrev mX1_buildPlace : qMI := (cX1_buildPlace, yX1_buildPlace, 5, none, { frames := 2, cells := 0, slots := 0, locals := 43 })
theorem uX1_buildPlace : qVirt mX1_buildPlace 2 := ⟨wI_X1_buildPlace, wS_X1_buildPlace, ⟨wC_X1_buildPlace, wZ_X1, by decide +kernel, by decide +kernel, by decide +kernel⟩⟩
abbrev mX1_spread : qMI := (cX1_spread, yX1_spread, 4, none, { frames := 0, cells := 0, slots := 0, locals := 0 })
theorem uX1_spread : qVirt mX1_spread 2 := ⟨wI_X1_spread, wS_X1_spread, ⟨wC_X1_spread, wZ_X1, by decide +kernel, by decide +kernel, by decide +kernel⟩⟩
abbrev mX1_listChecks : qMI := (cX1_listChecks, yX1_listChecks, 3, none, { frames := 1, cells := 0, slots := 0, locals := 20 })
theorem uX1_listChecks : qVirt mX1_listChecks 1 := ⟨wI_X1_listChecks, wS_X1_listChecks, ⟨wC_X1_listChecks, wZ_X1, by decide +kernel, by decide +kernel, by decide +kernel⟩⟩
abbrev mX1_after : qMI := (cX1_after, yX1_after, 5, (some .int), { frames := 0, cells := 0, slots := 0, locals := 0 })
theorem uX1_after : qVirt mX1_after 3 := ⟨wI_X1_after, wS_X1_after, ⟨wC_X1_after, wZ_X1, by decide +kernel, by decide +kernel, by decide +kernel⟩⟩
abbrev mX2_init : qMI := (cX2_init, yX2_init, 1, none, { frames := 1, cells := 1, slots := 60, locals := 20 })
theorem uX2_init : qCtor mX2_init 0 := ⟨wI_X2_init, rfl, rfl, ⟨wC_X2_init, wZ_X2, by decide +kernel, by decide +kernel, by decide +kernel⟩⟩
abbrev mX3_init : qMI := (cX3_init, yX3_init, 1, none, { frames := 1, cells := 7, slots := 48, locals := 20 })
theorem uX3_init : qCtor mX3_init 0 := ⟨wI_X3_init, rfl, rfl, ⟨wC_X3_init, wZ_X3, by decide +kernel, by decide +kernel, by decide +kernel⟩⟩
abbrev mX3_takeFrom : qMI := (cX3_takeFrom, yX3_takeFrom, 3, none, { frames := 0, cells := 0, slots := 0, locals := 0 })
theorem uX3_takeFrom : qVirt mX3_takeFrom 1 := ⟨wI_X3_takeFrom, wS_X3_takeFrom, ⟨wC_X3_takeFrom, wZ_X3, by decide +kernel, by decide +kernel, by decide +kernel⟩⟩
abbrev mX3_sets : qMI := (cX3_sets, yX3_sets, 1, (some .int), { frames := 0, cells := 0, slots := 0, locals := 0 })
theorem uX3_sets : qVirt mX3_sets 0 := ⟨wI_X3_sets, wS_X3_sets, ⟨wC_X3_sets, wZ_X3, by decide +kernel, by decide +kernel, by decide +kernel⟩⟩
abbrev mX3_addPlace : qMI := (cX3_addPlace, yX3_addPlace, 2, (some .int), { frames := 0, cells := 0, slots := 0, locals := 0 })
theorem uX3_addPlace : qVirt mX3_addPlace 1 := ⟨wI_X3_addPlace, wS_X3_addPlace, ⟨wC_X3_addPlace, wZ_X3, by decide +kernel, by decide +kernel, by decide +kernel⟩⟩
abbrev mX3_hasRoad : qMI := (cX3_hasRoad, yX3_hasRoad, 3, (some .boolean), { frames := 0, cells := 0, slots := 0, locals := 0 })
theorem uX3_hasRoad : qVirt mX3_hasRoad 2 := ⟨wI_X3_hasRoad, wS_X3_hasRoad, ⟨wC_X3_hasRoad, wZ_X3, by decide +kernel, by decide +kernel, by decide +kernel⟩⟩
abbrev mX3_hasOpenRoad : qMI := (cX3_hasOpenRoad, yX3_hasOpenRoad, 3, (some .boolean), { frames := 0, cells := 0, slots := 0, locals := 0 })
theorem uX3_hasOpenRoad : qVirt mX3_hasOpenRoad 2 := ⟨wI_X3_hasOpenRoad, wS_X3_hasOpenRoad, ⟨wC_X3_hasOpenRoad, wZ_X3, by decide +kernel, by decide +kernel, by decide +kernel⟩⟩
abbrev mX3_addRoad : qMI := (cX3_addRoad, yX3_addRoad, 3, none, { frames := 1, cells := 0, slots := 0, locals := 22 })
theorem uX3_addRoad : qVirt mX3_addRoad 2 := ⟨wI_X3_addRoad, wS_X3_addRoad, ⟨wC_X3_addRoad, wZ_X3, by decide +kernel, by decide +kernel, by decide +kernel⟩⟩
abbrev mX3_turnRoad : qMI := (cX3_turnRoad, yX3_turnRoad, 3, none, { frames := 0, cells := 0, slots := 0, locals := 0 })
theorem uX3_turnRoad : qVirt mX3_turnRoad 2 := ⟨wI_X3_turnRoad, wS_X3_turnRoad, ⟨wC_X3_turnRoad, wZ_X3, by decide +kernel, by decide +kernel, by decide +kernel⟩⟩
abbrev mX3_countRoads : qMI := (cX3_countRoads, yX3_countRoads, 4, (some .int), { frames := 1, cells := 0, slots := 0, locals := 20 })
theorem uX3_countRoads : qVirt mX3_countRoads 1 := ⟨wI_X3_countRoads, wS_X3_countRoads, ⟨wC_X3_countRoads, wZ_X3, by decide +kernel, by decide +kernel, by decide +kernel⟩⟩
abbrev mX3_reach : qMI := (cX3_reach, yX3_reach, 7, (some .int), { frames := 0, cells := 0, slots := 0, locals := 0 })
theorem uX3_reach : qVirt mX3_reach 1 := ⟨wI_X3_reach, wS_X3_reach, ⟨wC_X3_reach, wZ_X3, by decide +kernel, by decide +kernel, by decide +kernel⟩⟩
abbrev mX3_signalOf : qMI := (cX3_signalOf, yX3_signalOf, 3, (some .int), { frames := 1, cells := 0, slots := 0, locals := 21 })
theorem uX3_signalOf : qVirt mX3_signalOf 2 := ⟨wI_X3_signalOf, wS_X3_signalOf, ⟨wC_X3_signalOf, wZ_X3, by decide +kernel, by decide +kernel, by decide +kernel⟩⟩
abbrev mX3_isCaught : qMI := (cX3_isCaught, yX3_isCaught, 1, (some .boolean), { frames := 0, cells := 0, slots := 0, locals := 0 })
theorem uX3_isCaught : qVirt mX3_isCaught 0 := ⟨wI_X3_isCaught, wS_X3_isCaught, ⟨wC_X3_isCaught, wZ_X3, by decide +kernel, by decide +kernel, by decide +kernel⟩⟩
abbrev mX3_rowOfRound : qMI := (cX3_rowOfRound, yX3_rowOfRound, 1, (some .int), { frames := 0, cells := 0, slots := 0, locals := 0 })
theorem uX3_rowOfRound : qStat mX3_rowOfRound 1 := ⟨wT_X3_rowOfRound, ⟨wC_X3_rowOfRound, wZ_X3, by decide +kernel, by decide +kernel, by decide +kernel⟩⟩
abbrev mX3_canBeRound : qMI := (cX3_canBeRound, yX3_canBeRound, 5, (some .boolean), { frames := 1, cells := 0, slots := 0, locals := 24 })
theorem uX3_canBeRound : qVirt mX3_canBeRound 3 := ⟨wI_X3_canBeRound, wS_X3_canBeRound, ⟨wC_X3_canBeRound, wZ_X3, by decide +kernel, by decide +kernel, by decide +kernel⟩⟩
abbrev mX3_addRound : qMI := (cX3_addRound, yX3_addRound, 5, none, { frames := 1, cells := 0, slots := 0, locals := 24 })
theorem uX3_addRound : qVirt mX3_addRound 3 := ⟨wI_X3_addRound, wS_X3_addRound, ⟨wC_X3_addRound, wZ_X3, by decide +kernel, by decide +kernel, by decide +kernel⟩⟩
abbrev mX4_init : qMI := (cX4_init, yX4_init, 1, none, { frames := 1, cells := 2, slots := 14, locals := 20 })
theorem uX4_init : qCtor mX4_init 0 := ⟨wI_X4_init, rfl, rfl, ⟨wC_X4_init, wZ_X4, by decide +kernel, by decide +kernel, by decide +kernel⟩⟩
abbrev mX5_init : qMI := (cX5_init, yX5_init, 2, none, { frames := 2, cells := 70, slots := 1869, locals := 42 })
theorem uX5_init : qCtor mX5_init 0 := ⟨wI_X5_init, rfl, rfl, ⟨wC_X5_init, wZ_X5, by decide +kernel, by decide +kernel, by decide +kernel⟩⟩
abbrev mX5_place : qMI := (cX5_place, yX5_place, 2, (some .int), { frames := 2, cells := 0, slots := 0, locals := 42 })
theorem uX5_place : qVirt mX5_place 1 := ⟨wI_X5_place, wS_X5_place, ⟨wC_X5_place, wZ_X5, by decide +kernel, by decide +kernel, by decide +kernel⟩⟩
abbrev mX5_road : qMI := (cX5_road, yX5_road, 3, (some .int), { frames := 3, cells := 0, slots := 0, locals := 65 })
theorem uX5_road : qVirt mX5_road 2 := ⟨wI_X5_road, wS_X5_road, ⟨wC_X5_road, wZ_X5, by decide +kernel, by decide +kernel, by decide +kernel⟩⟩
abbrev mX5_shut : qMI := (cX5_shut, yX5_shut, 5, (some .int), { frames := 3, cells := 0, slots := 0, locals := 65 })
theorem uX5_shut : qVirt mX5_shut 3 := ⟨wI_X5_shut, wS_X5_shut, ⟨wC_X5_shut, wZ_X5, by decide +kernel, by decide +kernel, by decide +kernel⟩⟩
abbrev mX5_set : qMI := (cX5_set, yX5_set, 4, (some .int), { frames := 2, cells := 0, slots := 0, locals := 43 })
theorem uX5_set : qVirt mX5_set 2 := ⟨wI_X5_set, wS_X5_set, ⟨wC_X5_set, wZ_X5, by decide +kernel, by decide +kernel, by decide +kernel⟩⟩
abbrev mX5_believe : qMI := (cX5_believe, yX5_believe, 2, (some .int), { frames := 2, cells := 0, slots := 0, locals := 43 })
theorem uX5_believe : qVirt mX5_believe 1 := ⟨wI_X5_believe, wS_X5_believe, ⟨wC_X5_believe, wZ_X5, by decide +kernel, by decide +kernel, by decide +kernel⟩⟩
abbrev mX5_check : qMI := (cX5_check, yX5_check, 4, (some .int), { frames := 5, cells := 0, slots := 0, locals := 109 })
theorem uX5_check : qVirt mX5_check 2 := ⟨wI_X5_check, wS_X5_check, ⟨wC_X5_check, wZ_X5, by decide +kernel, by decide +kernel, by decide +kernel⟩⟩
abbrev mX5_placeOf : qMI := (cX5_placeOf, yX5_placeOf, 3, (some .int), { frames := 2, cells := 0, slots := 0, locals := 43 })
theorem uX5_placeOf : qVirt mX5_placeOf 2 := ⟨wI_X5_placeOf, wS_X5_placeOf, ⟨wC_X5_placeOf, wZ_X5, by decide +kernel, by decide +kernel, by decide +kernel⟩⟩
abbrev mX5_behind : qMI := (cX5_behind, yX5_behind, 4, (some .int), { frames := 5, cells := 0, slots := 0, locals := 109 })
theorem uX5_behind : qVirt mX5_behind 3 := ⟨wI_X5_behind, wS_X5_behind, ⟨wC_X5_behind, wZ_X5, by decide +kernel, by decide +kernel, by decide +kernel⟩⟩
abbrev mX5_sure : qMI := (cX5_sure, yX5_sure, 4, (some .int), { frames := 6, cells := 0, slots := 0, locals := 141 })
theorem uX5_sure : qVirt mX5_sure 2 := ⟨wI_X5_sure, wS_X5_sure, ⟨wC_X5_sure, wZ_X5, by decide +kernel, by decide +kernel, by decide +kernel⟩⟩
abbrev mX5_deaf : qMI := (cX5_deaf, yX5_deaf, 3, (some .int), { frames := 6, cells := 0, slots := 0, locals := 141 })
theorem uX5_deaf : qVirt mX5_deaf 1 := ⟨wI_X5_deaf, wS_X5_deaf, ⟨wC_X5_deaf, wZ_X5, by decide +kernel, by decide +kernel, by decide +kernel⟩⟩
abbrev mX5_memory : qMI := (cX5_memory, yX5_memory, 3, (some .int), { frames := 6, cells := 0, slots := 0, locals := 141 })
theorem uX5_memory : qVirt mX5_memory 1 := ⟨wI_X5_memory, wS_X5_memory, ⟨wC_X5_memory, wZ_X5, by decide +kernel, by decide +kernel, by decide +kernel⟩⟩
abbrev mX5_beliefs : qMI := (cX5_beliefs, yX5_beliefs, 2, (some .int), { frames := 6, cells := 0, slots := 0, locals := 141 })
theorem uX5_beliefs : qVirt mX5_beliefs 1 := ⟨wI_X5_beliefs, wS_X5_beliefs, ⟨wC_X5_beliefs, wZ_X5, by decide +kernel, by decide +kernel, by decide +kernel⟩⟩
abbrev mX5_count : qMI := (cX5_count, yX5_count, 2, (some .int), { frames := 2, cells := 0, slots := 0, locals := 43 })
theorem uX5_count : qVirt mX5_count 1 := ⟨wI_X5_count, wS_X5_count, ⟨wC_X5_count, wZ_X5, by decide +kernel, by decide +kernel, by decide +kernel⟩⟩
abbrev mX5_undo : qMI := (cX5_undo, yX5_undo, 1, (some .int), { frames := 1, cells := 0, slots := 0, locals := 22 })
theorem uX5_undo : qVirt mX5_undo 0 := ⟨wI_X5_undo, wS_X5_undo, ⟨wC_X5_undo, wZ_X5, by decide +kernel, by decide +kernel, by decide +kernel⟩⟩
abbrev mX5_isWithin : qMI := (cX5_isWithin, yX5_isWithin, 3, (some .boolean), { frames := 0, cells := 0, slots := 0, locals := 0 })
theorem uX5_isWithin : qStat mX5_isWithin 3 := ⟨wT_X5_isWithin, ⟨wC_X5_isWithin, wZ_X5, by decide +kernel, by decide +kernel, by decide +kernel⟩⟩
abbrev mX5_isPlace : qMI := (cX5_isPlace, yX5_isPlace, 2, (some .boolean), { frames := 1, cells := 0, slots := 0, locals := 22 })
theorem uX5_isPlace : qVirt mX5_isPlace 1 := ⟨wI_X5_isPlace, wS_X5_isPlace, ⟨wC_X5_isPlace, wZ_X5, by decide +kernel, by decide +kernel, by decide +kernel⟩⟩
abbrev mX5_arePlaces : qMI := (cX5_arePlaces, yX5_arePlaces, 3, (some .boolean), { frames := 2, cells := 0, slots := 0, locals := 43 })
theorem uX5_arePlaces : qVirt mX5_arePlaces 2 := ⟨wI_X5_arePlaces, wS_X5_arePlaces, ⟨wC_X5_arePlaces, wZ_X5, by decide +kernel, by decide +kernel, by decide +kernel⟩⟩
abbrev mX5_isSet : qMI := (cX5_isSet, yX5_isSet, 2, (some .boolean), { frames := 1, cells := 0, slots := 0, locals := 22 })
theorem uX5_isSet : qVirt mX5_isSet 1 := ⟨wI_X5_isSet, wS_X5_isSet, ⟨wC_X5_isSet, wZ_X5, by decide +kernel, by decide +kernel, by decide +kernel⟩⟩
abbrev mX5_isSetting : qMI := (cX5_isSetting, yX5_isSetting, 2, (some .boolean), { frames := 1, cells := 0, slots := 0, locals := 22 })
theorem uX5_isSetting : qStat mX5_isSetting 2 := ⟨wT_X5_isSetting, ⟨wC_X5_isSetting, wZ_X5, by decide +kernel, by decide +kernel, by decide +kernel⟩⟩
abbrev mX5_record : qMI := (cX5_record, yX5_record, 1, none, { frames := 1, cells := 0, slots := 0, locals := 22 })
theorem uX5_record : qVirt mX5_record 0 := ⟨wI_X5_record, wS_X5_record, ⟨wC_X5_record, wZ_X5, by decide +kernel, by decide +kernel, by decide +kernel⟩⟩
abbrev mX5_dropOldest : qMI := (cX5_dropOldest, yX5_dropOldest, 3, none, { frames := 0, cells := 0, slots := 0, locals := 0 })
theorem uX5_dropOldest : qVirt mX5_dropOldest 0 := ⟨wI_X5_dropOldest, wS_X5_dropOldest, ⟨wC_X5_dropOldest, wZ_X5, by decide +kernel, by decide +kernel, by decide +kernel⟩⟩
abbrev mX5_forgetTables : qMI := (cX5_forgetTables, yX5_forgetTables, 1, none, { frames := 0, cells := 0, slots := 0, locals := 0 })
theorem uX5_forgetTables : qVirt mX5_forgetTables 0 := ⟨wI_X5_forgetTables, wS_X5_forgetTables, ⟨wC_X5_forgetTables, wZ_X5, by decide +kernel, by decide +kernel, by decide +kernel⟩⟩
abbrev mX5_standingMoves : qMI := (cX5_standingMoves, yX5_standingMoves, 1, (some (.object "BlindHunts$Moves")), { frames := 4, cells := 0, slots := 0, locals := 89 })
theorem uX5_standingMoves : qVirt mX5_standingMoves 0 := ⟨wI_X5_standingMoves, wS_X5_standingMoves, ⟨wC_X5_standingMoves, wZ_X5, by decide +kernel, by decide +kernel, by decide +kernel⟩⟩
abbrev mX5_standingHearing : qMI := (cX5_standingHearing, yX5_standingHearing, 1, (some (.object "BlindHunts$Hunt")), { frames := 5, cells := 0, slots := 0, locals := 121 })
theorem uX5_standingHearing : qVirt mX5_standingHearing 0 := ⟨wI_X5_standingHearing, wS_X5_standingHearing, ⟨wC_X5_standingHearing, wZ_X5, by decide +kernel, by decide +kernel, by decide +kernel⟩⟩
abbrev mX5_standingUnhearing : qMI := (cX5_standingUnhearing, yX5_standingUnhearing, 1, (some (.object "BlindHunts$Hunt")), { frames := 5, cells := 0, slots := 0, locals := 121 })
theorem uX5_standingUnhearing : qVirt mX5_standingUnhearing 0 := ⟨wI_X5_standingUnhearing, wS_X5_standingUnhearing, ⟨wC_X5_standingUnhearing, wZ_X5, by decide +kernel, by decide +kernel, by decide +kernel⟩⟩
abbrev mX5_countComing : qMI := (cX5_countComing, yX5_countComing, 6, (some .int), { frames := 2, cells := 0, slots := 0, locals := 47 })
theorem uX5_countComing : qVirt mX5_countComing 2 := ⟨wI_X5_countComing, wS_X5_countComing, ⟨wC_X5_countComing, wZ_X5, by decide +kernel, by decide +kernel, by decide +kernel⟩⟩
abbrev mX5_markNext : qMI := (cX5_markNext, yX5_markNext, 4, none, { frames := 1, cells := 0, slots := 0, locals := 24 })
theorem uX5_markNext : qVirt mX5_markNext 2 := ⟨wI_X5_markNext, wS_X5_markNext, ⟨wC_X5_markNext, wZ_X5, by decide +kernel, by decide +kernel, by decide +kernel⟩⟩
abbrev mJ6_bitCount_0f7a4 : qMI := (cJ6_bitCount_0f7a4, yJ6_bitCount_0f7a4, 1, (some .int), { frames := 0, cells := 0, slots := 0, locals := 0 })
theorem uJ6_bitCount_0f7a4 : qStat mJ6_bitCount_0f7a4 1 := ⟨wT_J6_bitCount_0f7a4, ⟨wC_J6_bitCount_0f7a4, wZ_J6, by decide +kernel, by decide +kernel, by decide +kernel⟩⟩
abbrev mL_cell : qMI := (cL_cell, yL_cell, 2, (some .int), { frames := 0, cells := 0, slots := 0, locals := 0 })
theorem uL_cell : qStat mL_cell 2 := ⟨wT_L_cell, ⟨wC_L_cell, wZ_L, by decide +kernel, by decide +kernel, by decide +kernel⟩⟩
abbrev mL_bits : qMI := (cL_bits, yL_bits, 3, (some .int), { frames := 0, cells := 0, slots := 0, locals := 0 })
theorem uL_bits : qStat mL_bits 1 := ⟨wT_L_bits, ⟨wC_L_bits, wZ_L, by decide +kernel, by decide +kernel, by decide +kernel⟩⟩
abbrev mL_nth : qMI := (cL_nth, yL_nth, 4, (some .int), { frames := 0, cells := 0, slots := 0, locals := 0 })
theorem uL_nth : qStat mL_nth 2 := ⟨wT_L_nth, ⟨wC_L_nth, wZ_L, by decide +kernel, by decide +kernel, by decide +kernel⟩⟩
abbrev mL_signal : qMI := (cL_signal, yL_signal, 5, (some .int), { frames := 6, cells := 0, slots := 0, locals := 132 })
theorem uL_signal : qStat mL_signal 4 := ⟨wT_L_signal, ⟨wC_L_signal, wZ_L, by decide +kernel, by decide +kernel, by decide +kernel⟩⟩
abbrev mL_hunts : qMI := (cL_hunts, yL_hunts, 15, (some .boolean), { frames := 7, cells := 0, slots := 0, locals := 164 })
theorem uL_hunts : qStat mL_hunts 3 := ⟨wT_L_hunts, ⟨wC_L_hunts, wZ_L, by decide +kernel, by decide +kernel, by decide +kernel⟩⟩
abbrev mL_holds : qMI := (cL_holds, yL_holds, 8, (some .boolean), { frames := 7, cells := 0, slots := 0, locals := 162 })
theorem uL_holds : qStat mL_holds 1 := ⟨wT_L_holds, ⟨wC_L_holds, wZ_L, by decide +kernel, by decide +kernel, by decide +kernel⟩⟩
abbrev mL_acts : qMI := (cL_acts, yL_acts, 9, (some .boolean), { frames := 8, cells := 0, slots := 0, locals := 198 })
theorem uL_acts : qStat mL_acts 2 := ⟨wT_L_acts, ⟨wC_L_acts, wZ_L, by decide +kernel, by decide +kernel, by decide +kernel⟩⟩
/-- the cells of a BlindHunts: 0 itself, states from 1, 9, 39, 47, 55, 63 on, 17 past, 18 text, 20 tables, 29 and 32 hunts, 35 walks, 38 comes -/
def hdX : qH := fun a => match a with
  | 0 => .inl 5
  | 1 => .inl 3 | 2 => .inr (0, 7) | 3 => .inr (0, 7) | 4 => .inr (0, 7) | 5 => .inr (0, 3) | 6 => .inr (0, 8) | 7 => .inr (0, 8) | 8 => .inr (0, 8)
  | 9 => .inl 3 | 10 => .inr (0, 7) | 11 => .inr (0, 7) | 12 => .inr (0, 7) | 13 => .inr (0, 3) | 14 => .inr (0, 8) | 15 => .inr (0, 8) | 16 => .inr (0, 8)
  | 17 => .inr (4, 4)
  | 18 => .inl 2 | 19 => .inr (2, 60)
  | 20 => .inl 1 | 21 => .inr (5, 5) | 22 => .inr (0, 128) | 23 => .inr (0, 128) | 24 => .inr (0, 128) | 25 => .inr (0, 128) | 26 => .inr (0, 128) | 27 => .inr (0, 5) | 28 => .inr (0, 128)
  | 29 => .inl 0 | 30 => .inr (0, 128) | 31 => .inr (0, 128)
  | 32 => .inl 0 | 33 => .inr (0, 128) | 34 => .inr (0, 128)
  | 35 => .inl 4 | 36 => .inr (3, 7) | 37 => .inr (3, 7)
  | 38 => .inr (1, 128)
  | 39 => .inl 3 | 40 => .inr (0, 7) | 41 => .inr (0, 7) | 42 => .inr (0, 7) | 43 => .inr (0, 3) | 44 => .inr (0, 8) | 45 => .inr (0, 8) | 46 => .inr (0, 8)
  | 47 => .inl 3 | 48 => .inr (0, 7) | 49 => .inr (0, 7) | 50 => .inr (0, 7) | 51 => .inr (0, 3) | 52 => .inr (0, 8) | 53 => .inr (0, 8) | 54 => .inr (0, 8)
  | 55 => .inl 3 | 56 => .inr (0, 7) | 57 => .inr (0, 7) | 58 => .inr (0, 7) | 59 => .inr (0, 3) | 60 => .inr (0, 8) | 61 => .inr (0, 8) | 62 => .inr (0, 8)
  | 63 => .inl 3 | 64 => .inr (0, 7) | 65 => .inr (0, 7) | 66 => .inr (0, 7) | 67 => .inr (0, 3) | 68 => .inr (0, 8) | 69 => .inr (0, 8) | 70 => .inr (0, 8)
  | _ => .inl 9
/-- the references in a BlindHunts: pa, the states of the past; sw, whether the walks' rows stand turned -/
def pX (pa : Nat → Nat) (sw : Bool) (a k : Nat) : Option Nat := match a with
  | 0 => [some 1, some 9, some 17, none, some 18, some 20, some 29, some 32, none, none, none, some 35, some 38].getD k none
  | 1 | 9 | 39 | 47 | 55 | 63 => [none, some (a + 1), some (a + 2), some (a + 3), some (a + 4), none, none, some (a + 5), some (a + 6), some (a + 7)].getD k none
  | 17 => if k < 4 then some (pa k) else none
  | 18 => if k = 0 then some 19 else none
  | 20 => [some 21, some 27, some 28].getD k none
  | 21 => if k < 5 then some (22 + k) else none
  | 29 => [some 30, some 31].getD k none
  | 32 => [some 33, some 34].getD k none
  | 35 => if sw then [some 37, some 36].getD k none else [some 36, some 37].getD k none
  | _ => none
abbrev kX : qG := (71, false, 0, 0)
/-- a state's own cell -/
def SO (o : Nat) : Prop := o = 1 ∨ o = 9 ∨ o = 39 ∨ o = 47 ∨ o = 55 ∨ o = 63
theorem SO.o {o : Nat} (h : SO o) : hdX o = .inl 3 := by rcases h with rfl | rfl | rfl | rfl | rfl | rfl <;> rfl
theorem SO.a1 {o : Nat} (h : SO o) : hdX (o + 1) = .inr (0, 7) := by rcases h with rfl | rfl | rfl | rfl | rfl | rfl <;> rfl
theorem SO.a2 {o : Nat} (h : SO o) : hdX (o + 2) = .inr (0, 7) := by rcases h with rfl | rfl | rfl | rfl | rfl | rfl <;> rfl
theorem SO.a3 {o : Nat} (h : SO o) : hdX (o + 3) = .inr (0, 7) := by rcases h with rfl | rfl | rfl | rfl | rfl | rfl <;> rfl
theorem SO.a4 {o : Nat} (h : SO o) : hdX (o + 4) = .inr (0, 3) := by rcases h with rfl | rfl | rfl | rfl | rfl | rfl <;> rfl
theorem SO.a5 {o : Nat} (h : SO o) : hdX (o + 5) = .inr (0, 8) := by rcases h with rfl | rfl | rfl | rfl | rfl | rfl <;> rfl
theorem SO.a6 {o : Nat} (h : SO o) : hdX (o + 6) = .inr (0, 8) := by rcases h with rfl | rfl | rfl | rfl | rfl | rfl <;> rfl
theorem SO.a7 {o : Nat} (h : SO o) : hdX (o + 7) = .inr (0, 8) := by rcases h with rfl | rfl | rfl | rfl | rfl | rfl <;> rfl
theorem SO.lt {o : Nat} (h : SO o) : o + 7 < 71 := by rcases h with rfl | rfl | rfl | rfl | rfl | rfl <;> decide
theorem SO.p1 {o : Nat} (h : SO o) {pa : Nat → Nat} {sw : Bool} : pX pa sw o 1 = some (o + 1) := by rcases h with rfl | rfl | rfl | rfl | rfl | rfl <;> rfl
theorem SO.p2 {o : Nat} (h : SO o) {pa : Nat → Nat} {sw : Bool} : pX pa sw o 2 = some (o + 2) := by rcases h with rfl | rfl | rfl | rfl | rfl | rfl <;> rfl
theorem SO.p3 {o : Nat} (h : SO o) {pa : Nat → Nat} {sw : Bool} : pX pa sw o 3 = some (o + 3) := by rcases h with rfl | rfl | rfl | rfl | rfl | rfl <;> rfl
theorem SO.p4 {o : Nat} (h : SO o) {pa : Nat → Nat} {sw : Bool} : pX pa sw o 4 = some (o + 4) := by rcases h with rfl | rfl | rfl | rfl | rfl | rfl <;> rfl
theorem SO.p7 {o : Nat} (h : SO o) {pa : Nat → Nat} {sw : Bool} : pX pa sw o 7 = some (o + 5) := by rcases h with rfl | rfl | rfl | rfl | rfl | rfl <;> rfl
theorem SO.p8 {o : Nat} (h : SO o) {pa : Nat → Nat} {sw : Bool} : pX pa sw o 8 = some (o + 6) := by rcases h with rfl | rfl | rfl | rfl | rfl | rfl <;> rfl
theorem SO.p9 {o : Nat} (h : SO o) {pa : Nat → Nat} {sw : Bool} : pX pa sw o 9 = some (o + 7) := by rcases h with rfl | rfl | rfl | rfl | rfl | rfl <;> rfl
theorem rP {M : qM} {P : Nat → Nat → Option Nat} {a k b : Nat} (h : M.2.2 = P) (e : P a k = some b) : M.2.2 a k = some b := by rw [h]; exact e
theorem hd_row {g : Nat} (h : g < 5) : hdX (22 + g) = .inr (0, 128) := by
  rcases (by omega : g = 0 ∨ g = 1 ∨ g = 2 ∨ g = 3 ∨ g = 4) with rfl | rfl | rfl | rfl | rfl <;> rfl
theorem pX_21 {pa : Nat → Nat} {sw : Bool} {g : Nat} (h : g < 5) : pX pa sw 21 g = some (22 + g) := by
  show (if g < 5 then some (22 + g) else none) = _
  rw [if_pos h]
end
section
/-! what both sides mean: a state is the numbers s: 0 places, 1 belief, 2 rounds, 3 caught, 4 hare, 5 signals, 6 budget, 7.. colors, 14.. roads, 21.. those not shut, 28.. the last eight rounds (places, signal, belief behind), the newest first -/
def sumTo (f : Nat → Nat) : Nat → Nat
  | 0 => 0
  | n + 1 => sumTo f n + f n
def orTo (f : Nat → Nat) : Nat → Nat
  | 0 => 0
  | n + 1 => orTo f n ||| f n
def ones (x : Nat) : Nat := sumTo (fun k => x >>> k &&& 1) 7
def dif (a b : Nat) : Nat := a &&& (b ^^^ 4294967295)
def goes (s : Nat → Nat) (p c : Nat) : Nat :=
  if s 4 = 0 then (if s (21 + p) = 0 then 1 <<< p else s (21 + p))
  else if s 4 = 1 then s (21 + p) ||| 1 <<< p
  else if s 4 = 2 then (if s (21 + p) = 0 then 1 <<< p else s (21 + p) ||| orTo (fun q => if s (21 + p) >>> q &&& 1 = 1 then s (21 + q) else 0) (s 0))
  else dif (s (21 + p)) c ||| 1 <<< p
def hears (s : Nat → Nat) (f t : Nat) : Nat :=
  if s 5 = 0 then 0 else if s 5 = 1 then s (7 + t) else if s 5 = 2 then (if f = t then 0 else 1) else (if 3 < ones (s (21 + t)) then 3 else ones (s (21 + t)))
/-- the belief behind a round; g = 4: of all signals -/
def thn (s : Nat → Nat) (b c g : Nat) : Nat :=
  orTo (fun p => orTo (fun q => if (if dif b c >>> p &&& 1 = 1 then goes s p c else 0) >>> q &&& 1 = 1 ∧ (g = 4 ∨ hears s p q = g) then 1 <<< q else 0) (s 0)) (s 0)
def WF (b : Nat) (s : Nat → Nat) : Prop :=
  s 0 ≤ 7 ∧ s 1 < 2 ^ s 0 ∧ s 2 ≤ b ∧ s 4 ≤ 3 ∧ s 5 ≤ 3 ∧ (s 6 = 1 ∨ s 6 = 2) ∧ (∀ i, i < 7 → s (7 + i) ≤ 3) ∧ (∀ i, i < 7 → s (14 + i) < 2 ^ s 0) ∧ (∀ i, i < 7 → s (21 + i) < 2 ^ s 0) ∧
  (∀ i, s 0 ≤ i → i < 7 → s (14 + i) = 0 ∧ s (21 + i) = 0) ∧ (s 3 = if 0 < s 2 ∧ s 1 = 0 then 1 else 0) ∧
  (∀ i j, i < 7 → j < 7 → (s (14 + i)).testBit j = (s (14 + j)).testBit i) ∧ (∀ i j, i < 7 → (s (21 + i)).testBit j = true → (s (14 + i)).testBit j = true)
/-- a State's cells hold s -/
def RS (M : qM) (o : Nat) (s : Nat → Nat) : Prop :=
  M.1 o 0 = s 0 ∧ M.1 o 5 = s 1 ∧ M.1 o 6 = s 2 ∧ (∀ i, i < 7 → M.1 (o + 1) i = s (7 + i)) ∧ (∀ i, i < 7 → M.1 (o + 2) i = s (14 + i)) ∧ (∀ i, i < 7 → M.1 (o + 3) i = s (21 + i)) ∧ (∀ i, i < 3 → M.1 (o + 4) i = s (4 + i)) ∧
  (∀ k, k < 8 → k < s 2 → M.1 (o + 5) ((s 2 - 1 - k) % 8) = s (28 + 3 * k) ∧ M.1 (o + 6) ((s 2 - 1 - k) % 8) = s (29 + 3 * k) ∧ M.1 (o + 7) ((s 2 - 1 - k) % 8) = s (30 + 3 * k))
theorem p2_le {n : Nat} (h : n ≤ 7) : 2 ^ n ≤ 128 := Nat.le_trans (Nat.pow_le_pow_right (by decide) h) (by decide)
theorem shr_lt {a k : Nat} {n : Nat} (h : a < n) : a >>> k < n := Nat.lt_of_le_of_lt (by rw [Nat.shiftRight_eq_div_pow]; exact Nat.div_le_self _ _) h
theorem and1_lt (a : Nat) : a &&& 1 < 2 := Nat.lt_of_le_of_lt Nat.and_le_right (by decide)
theorem and1_01 (a : Nat) : a &&& 1 = 0 ∨ a &&& 1 = 1 := by have := and1_lt a; omega
theorem bit_iff (a k : Nat) : a >>> k &&& 1 = 1 ↔ a.testBit k = true := by
  rw [Nat.testBit_eq_decide_div_mod_eq, decide_eq_true_eq, Nat.and_one_is_mod, Nat.shiftRight_eq_div_pow]
theorem ones_le (x : Nat) : ones x ≤ 7 := by
  have h := fun k => and1_lt (x >>> k)
  have h0 := h 0; have h1 := h 1; have h2 := h 2; have h3 := h 3; have h4 := h 4; have h5 := h 5; have h6 := h 6
  simp only [ones, sumTo]
  omega
theorem sumTo_le {f : Nat → Nat} {m : Nat} (h : ∀ i, f i ≤ m) : ∀ n, sumTo f n ≤ m * n
  | 0 => Nat.le_refl _
  | n + 1 => by
    have := sumTo_le h n
    have := h n
    simp only [sumTo, Nat.mul_add, Nat.mul_one]
    omega
theorem dif_zero {a : Nat} (h : a < 2 ^ 32) : dif a 0 = a := by
  unfold dif
  rw [Nat.zero_xor, show (4294967295 : Nat) = 2 ^ 32 - 1 from rfl, Nat.and_two_pow_sub_one_eq_mod, Nat.mod_eq_of_lt h]
def up (s : Nat → Nat) (k v : Nat) : Nat → Nat := fun j => if j = k then v else s j
theorem up_eq {s : Nat → Nat} {k v : Nat} : up s k v k = v := if_pos rfl
theorem up_ne {s : Nat → Nat} {k v j : Nat} (h : j ≠ k) : up s k v j = s j := if_neg h
theorem qI_eq {M : qM} {a k x : Nat} : (qI M a k x).1 a k = x := by simp [qI]
theorem qI_ne {M : qM} {a k x b j : Nat} (h : b ≠ a ∨ j ≠ k) : (qI M a k x).1 b j = M.1 b j := by
  simp only [qI]
  rw [if_neg]
  rintro ⟨h1, h2⟩
  rcases h with h | h
  · exact h h1
  · exact h h2
/-- a read-only method that answers the number x -/
def RI (M : qM) (x : Nat) : Option Value → qM → Prop := fun v M' => M = M' ∧ v = some (.int (nI x))
/-- only the eight cells from o on may have changed -/
def Fr (M M' : qM) (o : Nat) : Prop := M'.2 = M.2 ∧ ∀ a, (a < o ∨ o + 8 ≤ a) → M'.1 a = M.1 a
theorem RS.mono {M M' : qM} {o : Nat} {s : Nat → Nat} (h : RS M o s) (he : ∀ a, o ≤ a → a < o + 8 → M'.1 a = M.1 a) : RS M' o s := by
  unfold RS at *
  rw [he o (by omega) (by omega), he (o + 1) (by omega) (by omega), he (o + 2) (by omega) (by omega), he (o + 3) (by omega) (by omega), he (o + 4) (by omega) (by omega), he (o + 5) (by omega) (by omega), he (o + 6) (by omega) (by omega), he (o + 7) (by omega) (by omega)]
  exact h
theorem or_num {v : Option Value} {A B : Prop} (h : (v = some (.int (nI 1)) ∧ A) ∨ (v = some (.int (nI 0)) ∧ B)) : ∃ z, v = some (.int (nI z)) ∧ z < 2 ∧ ((z = 1 ∧ A) ∨ (z = 0 ∧ B)) := by
  rcases h with ⟨e, h⟩ | ⟨e, h⟩
  · exact ⟨1, e, by decide, Or.inl ⟨rfl, h⟩⟩
  · exact ⟨0, e, by decide, Or.inr ⟨rfl, h⟩⟩
end
section
/-! sets as bits -/
theorem orTo_bit {f : Nat → Nat} {i : Nat} : ∀ n, (orTo f n).testBit i = true ↔ ∃ k, k < n ∧ (f k).testBit i = true
  | 0 => by simp [orTo]
  | n + 1 => by
    rw [orTo, Nat.testBit_or, Bool.or_eq_true, orTo_bit n]
    constructor
    · rintro (⟨k, h1, h2⟩ | h)
      · exact ⟨k, by omega, h2⟩
      · exact ⟨n, by omega, h⟩
    · rintro ⟨k, h1, h2⟩
      by_cases e : k = n
      · subst e; exact Or.inr h2
      · exact Or.inl ⟨k, by omega, h2⟩
theorem one_bit {q i : Nat} : (1 <<< q).testBit i = true ↔ i = q := by
  rw [Nat.one_shiftLeft, Nat.testBit_two_pow, decide_eq_true_eq]
  exact eq_comm
theorem dif_bit {a b i : Nat} (hi : i < 32) : (dif a b).testBit i = true ↔ a.testBit i = true ∧ b.testBit i = false := by
  unfold dif
  rw [Nat.testBit_and, Nat.testBit_xor, show (4294967295 : Nat) = 2 ^ 32 - 1 from rfl, Nat.testBit_two_pow_sub_one, Bool.and_eq_true]
  simp [hi]
theorem lt_bit {a n i : Nat} (h : a < 2 ^ n) (hb : a.testBit i = true) : i < n := by
  refine Nat.lt_of_not_le fun h2 => ?_
  rw [Nat.testBit_lt_two_pow (Nat.lt_of_lt_of_le h (Nat.pow_le_pow_right (by decide) h2))] at hb
  cases hb
theorem bit_lt {a n : Nat} (h : ∀ i, a.testBit i = true → i < n) : a < 2 ^ n := by
  refine Nat.lt_pow_two_of_testBit a (fun i hi => ?_)
  cases hb : a.testBit i with
  | false => rfl
  | true => exact absurd (h i hb) (by omega)
theorem dif_lt {a b n : Nat} (h : a < n) : dif a b < n := Nat.lt_of_le_of_lt Nat.and_le_left h
theorem bit_ext {a b : Nat} (h : ∀ i, a.testBit i = true ↔ b.testBit i = true) : a = b :=
  Nat.eq_of_testBit_eq fun i => Bool.eq_iff_iff.mpr (h i)
theorem goes_lt {b : Nat} {s : Nat → Nat} (hw : WF b s) {p c : Nat} (hp : p < s 0) : goes s p c < 2 ^ s 0 := by
  have h1 := hw.2.2.2.2.2.2.2.2.1
  have h7 := hw.1
  have hp2 : 1 <<< p < 2 ^ s 0 := by rw [Nat.one_shiftLeft]; exact Nat.pow_lt_pow_right (by decide) hp
  have hn := h1 p (by omega)
  unfold goes
  split
  · split
    · exact hp2
    · exact hn
  · split
    · exact Nat.or_lt_two_pow hn hp2
    · split
      · split
        · exact hp2
        · refine Nat.or_lt_two_pow hn (bit_lt fun i hi => ?_)
          obtain ⟨k, hk, hk2⟩ := (orTo_bit _).mp hi
          split at hk2
          · exact lt_bit (h1 k (by omega)) hk2
          · simp at hk2
      · exact Nat.or_lt_two_pow (dif_lt hn) hp2
theorem thn_bit {b c g q : Nat} {s : Nat → Nat} (h7 : s 0 ≤ 7) : (thn s b c g).testBit q = true ↔ q < s 0 ∧ ∃ p, p < s 0 ∧ b.testBit p = true ∧ c.testBit p = false ∧ (goes s p c).testBit q = true ∧ (g = 4 ∨ hears s p q = g) := by
  unfold thn
  rw [orTo_bit]
  constructor
  · rintro ⟨p, hp, h⟩
    obtain ⟨k, hk, h2⟩ := (orTo_bit _).mp h
    by_cases h3 : (if dif b c >>> p &&& 1 = 1 then goes s p c else 0) >>> k &&& 1 = 1 ∧ (g = 4 ∨ hears s p k = g)
    · rw [if_pos h3] at h2
      have e := one_bit.mp h2
      subst e
      obtain ⟨h4, h5⟩ := h3
      by_cases h6 : dif b c >>> p &&& 1 = 1
      · rw [if_pos h6] at h4
        have h8 := (dif_bit (by omega)).mp ((bit_iff _ _).mp h6)
        exact ⟨hk, p, hp, h8.1, h8.2, (bit_iff _ _).mp h4, h5⟩
      · rw [if_neg h6] at h4
        simp at h4
    · rw [if_neg h3] at h2
      simp at h2
  · rintro ⟨hq, p, hp, h1, h2, h3, h4⟩
    refine ⟨p, hp, (orTo_bit _).mpr ⟨q, hq, ?_⟩⟩
    rw [if_pos]
    · exact one_bit.mpr rfl
    · refine ⟨?_, h4⟩
      rw [if_pos ((bit_iff _ _).mpr ((dif_bit (by omega)).mpr ⟨h1, h2⟩))]
      exact (bit_iff _ _).mpr h3
theorem thn_lt {b c g : Nat} {s : Nat → Nat} (h7 : s 0 ≤ 7) : thn s b c g < 2 ^ s 0 := bit_lt fun i hi => ((thn_bit h7).mp hi).1
theorem thn_mono {b b' c g : Nat} {s : Nat → Nat} (h7 : s 0 ≤ 7) (h : ∀ i, b'.testBit i = true → b.testBit i = true) : ∀ i, (thn s b' c g).testBit i = true → (thn s b c g).testBit i = true := by
  intro i hi
  obtain ⟨h1, p, h2, h3, h4⟩ := (thn_bit h7).mp hi
  exact (thn_bit h7).mpr ⟨h1, p, h2, h p h3, h4⟩
/-- where a hare from p can be, of which the signal g is heard -/
def tgt (s : Nat → Nat) (p g : Nat) : Nat := orTo (fun q => if goes s p 0 >>> q &&& 1 = 1 ∧ (g = 4 ∨ hears s p q = g) then 1 <<< q else 0) (s 0)
/-- where it can be, from the places below n of a set -/
def gon (s : Nat → Nat) (g b : Nat) : Nat → Nat
  | 0 => 0
  | n + 1 => if b >>> n &&& 1 = 1 then gon s g b n ||| tgt s n g else gon s g b n
theorem tgt_bit {s : Nat → Nat} {p g i : Nat} : (tgt s p g).testBit i = true ↔ i < s 0 ∧ (goes s p 0).testBit i = true ∧ (g = 4 ∨ hears s p i = g) := by
  unfold tgt
  rw [orTo_bit]
  constructor
  · rintro ⟨k, hk, h2⟩
    split at h2
    · next h3 =>
      have e := one_bit.mp h2
      subst e
      exact ⟨hk, (bit_iff _ _).mp h3.1, h3.2⟩
    · simp at h2
  · rintro ⟨h1, h2, h3⟩
    exact ⟨i, h1, by rw [if_pos ⟨(bit_iff _ _).mpr h2, h3⟩]; exact one_bit.mpr rfl⟩
theorem tgt_4 {b : Nat} {s : Nat → Nat} (hw : WF b s) {p : Nat} (hp : p < s 0) : tgt s p 4 = goes s p 0 := by
  refine bit_ext fun i => ?_
  rw [tgt_bit]
  constructor
  · exact fun h => h.2.1
  · exact fun h => ⟨lt_bit (goes_lt hw hp) h, h, Or.inl rfl⟩
theorem gon_bit {s : Nat → Nat} {g b i : Nat} : ∀ n, (gon s g b n).testBit i = true ↔ ∃ p, p < n ∧ b.testBit p = true ∧ (tgt s p g).testBit i = true
  | 0 => by simp [gon]
  | n + 1 => by
    unfold gon
    by_cases h : b >>> n &&& 1 = 1
    · rw [if_pos h, Nat.testBit_or, Bool.or_eq_true, gon_bit n]
      constructor
      · rintro (⟨p, h1, h2⟩ | h3)
        · exact ⟨p, by omega, h2⟩
        · exact ⟨n, by omega, (bit_iff _ _).mp h, h3⟩
      · rintro ⟨p, h1, h2, h3⟩
        by_cases e : p = n
        · subst e; exact Or.inr h3
        · exact Or.inl ⟨p, by omega, h2, h3⟩
    · rw [if_neg h, gon_bit n]
      constructor
      · rintro ⟨p, h1, h2⟩
        exact ⟨p, by omega, h2⟩
      · rintro ⟨p, h1, h2, h3⟩
        by_cases e : p = n
        · subst e; exact absurd ((bit_iff _ _).mpr h2) h
        · exact ⟨p, by omega, h2, h3⟩
theorem gon_lt {s : Nat → Nat} {g b n : Nat} : gon s g b n < 2 ^ s 0 := bit_lt fun i hi => by
  obtain ⟨p, -, -, h⟩ := (gon_bit n).mp hi
  exact (tgt_bit.mp h).1
/-- the sets whose highest place is n, from those of the lower places -/
theorem gon_spread {s : Nat → Nat} {g a n : Nat} (ha : a < 2 ^ n) : gon s g (a ||| 1 <<< n) (n + 1) = gon s g a n ||| tgt s n g := by
  have hb : ∀ p, (a ||| 1 <<< n).testBit p = true ↔ a.testBit p = true ∨ p = n := fun p => by rw [Nat.testBit_or, Bool.or_eq_true, one_bit]
  refine bit_ext fun i => ?_
  rw [gon_bit, Nat.testBit_or, Bool.or_eq_true, gon_bit]
  constructor
  · rintro ⟨p, h1, h2, h3⟩
    rcases (hb p).mp h2 with h | h
    · exact Or.inl ⟨p, lt_bit ha h, h, h3⟩
    · subst h; exact Or.inr h3
  · rintro (⟨p, h1, h2, h3⟩ | h)
    · exact ⟨p, by omega, (hb p).mpr (Or.inl h2), h3⟩
    · exact ⟨n, by omega, (hb n).mpr (Or.inr rfl), h⟩
theorem gon_more {s : Nat → Nat} {g a n m : Nat} (ha : a < 2 ^ n) (h : n ≤ m) : gon s g a m = gon s g a n := by
  refine bit_ext fun i => ?_
  rw [gon_bit, gon_bit]
  constructor
  · rintro ⟨p, h1, h2, h3⟩
    exact ⟨p, lt_bit ha h2, h2, h3⟩
  · rintro ⟨p, h1, h2, h3⟩
    exact ⟨p, by omega, h2, h3⟩
/-- the belief behind a round, as the tables tell it -/
def aft (s : Nat → Nat) (b c g : Nat) : Nat := if s 4 = 3 then dif (gon s g (dif b c) (s 0)) c else gon s g (dif b c) (s 0)
theorem goes_c {s : Nat → Nat} {p c : Nat} (h : s 4 ≠ 3) (h4 : s 4 ≤ 3) : goes s p c = goes s p 0 := by
  unfold goes
  split
  · rfl
  · split
    · rfl
    · split
      · rfl
      · omega
theorem aft_eq {bb : Nat} {s : Nat → Nat} (hw : WF bb s) {b c g : Nat} : aft s b c g = thn s b c g := by
  have h7 := hw.1
  have h4 := hw.2.2.2.1
  refine bit_ext fun i => ?_
  rw [thn_bit h7]
  unfold aft
  by_cases h3 : s 4 = 3
  · rw [if_pos h3]
    have key : ∀ p, p < s 0 → c.testBit p = false → i < 32 → (((goes s p 0).testBit i = true ∧ c.testBit i = false) ↔ (goes s p c).testBit i = true) := by
      intro p hp hc hi
      unfold goes
      rw [if_neg (by omega), if_neg (by omega), if_neg (by omega), if_neg (by omega), if_neg (by omega), if_neg (by omega), Nat.testBit_or, Nat.testBit_or, Bool.or_eq_true, Bool.or_eq_true, dif_bit hi, dif_bit hi, one_bit]
      constructor
      · rintro ⟨h1 | h1, h2⟩
        · exact Or.inl ⟨h1.1, h2⟩
        · exact Or.inr h1
      · rintro (h1 | h1)
        · exact ⟨Or.inl ⟨h1.1, by simp⟩, h1.2⟩
        · subst h1; exact ⟨Or.inr rfl, hc⟩
    constructor
    · intro h
      have hi : i < 7 := Nat.lt_of_lt_of_le (lt_bit (dif_lt gon_lt) h) h7
      obtain ⟨h1, h2⟩ := (dif_bit (by omega)).mp h
      obtain ⟨p, hp, h5, h6⟩ := (gon_bit _).mp h1
      obtain ⟨h8, h9, h10⟩ := tgt_bit.mp h6
      obtain ⟨h11, h12⟩ := (dif_bit (by omega)).mp h5
      exact ⟨h8, p, hp, h11, h12, (key p hp h12 (by omega)).mp ⟨h9, h2⟩, h10⟩
    · rintro ⟨hi, p, hp, h1, h2, h5, h6⟩
      have h8 := (key p hp h2 (by omega)).mpr h5
      exact (dif_bit (by omega)).mpr ⟨(gon_bit _).mpr ⟨p, hp, (dif_bit (by omega)).mpr ⟨h1, h2⟩, tgt_bit.mpr ⟨hi, h8.1, h6⟩⟩, h8.2⟩
  · rw [if_neg h3, gon_bit]
    constructor
    · rintro ⟨p, hp, h5, h6⟩
      obtain ⟨h8, h9, h10⟩ := tgt_bit.mp h6
      obtain ⟨h11, h12⟩ := (dif_bit (by omega)).mp h5
      exact ⟨h8, p, hp, h11, h12, by rw [goes_c h3 h4]; exact h9, h10⟩
    · rintro ⟨hi, p, hp, h1, h2, h5, h6⟩
      exact ⟨p, hp, (dif_bit (by omega)).mpr ⟨h1, h2⟩, tgt_bit.mpr ⟨hi, by rw [← goes_c h3 h4 (c := c)]; exact h5, h6⟩⟩
theorem hears_lt {b : Nat} {s : Nat → Nat} (hw : WF b s) {p q : Nat} (hq : q < 7) : hears s p q < 4 := by
  have h1 := hw.2.2.2.2.2.2.1 q hq
  unfold hears
  split
  · decide
  · split
    · omega
    · split
      · split <;> decide
      · split <;> omega
end
section
/-! the rounds that beliefs need: 1000 means not for sure; signals g0 to g1 are told apart -/
def enough (s nd : Nat → Nat) (g0 g1 lv b c : Nat) : Bool := (List.range 5).all fun g => !(decide (g0 ≤ g) && decide (g ≤ g1)) || decide (nd (thn s b c g) < lv)
def goodC (s nd : Nat → Nat) (g0 g1 lv b c : Nat) : Bool := decide (ones c ≤ s 6) && enough s nd g0 g1 lv b c
def fstC (s nd : Nat → Nat) (g0 g1 lv b : Nat) : Option Nat := (List.range (2 ^ s 0)).find? (goodC s nd g0 g1 lv b)
def newly (s nd : Nat → Nat) (g0 g1 lv b : Nat) : Bool := decide (0 < b) && decide (b < 2 ^ s 0) && decide (nd b = 1000) && (fstC s nd g0 g1 lv b).isSome
def solN (s : Nat → Nat) (g0 g1 : Nat) : Nat → (Nat → Nat) × (Nat → Nat)
  | 0 => (fun b => if b = 0 then 0 else 1000, fun _ => 0)
  | k + 1 => (fun b => if newly s (solN s g0 g1 k).1 g0 g1 (k + 1) b = true then k + 1 else (solN s g0 g1 k).1 b, fun b => if newly s (solN s g0 g1 k).1 g0 g1 (k + 1) b = true then (fstC s (solN s g0 g1 k).1 g0 g1 (k + 1) b).getD 0 else (solN s g0 g1 k).2 b)
theorem enough_iff {s nd : Nat → Nat} {g0 g1 lv b c : Nat} (hg : g1 ≤ 4) : enough s nd g0 g1 lv b c = true ↔ ∀ g, g0 ≤ g → g ≤ g1 → nd (thn s b c g) < lv := by
  unfold enough
  rw [List.all_eq_true]
  constructor
  · intro h g h1 h2
    have := h g (List.mem_range.mpr (by omega))
    simpa [h1, h2] using this
  · intro h g _
    by_cases h1 : g0 ≤ g
    · by_cases h2 : g ≤ g1
      · simp [h1, h2, h g h1 h2]
      · simp [h2]
    · simp [h1]
theorem sol_val {s : Nat → Nat} {g0 g1 : Nat} : ∀ k b, (solN s g0 g1 k).1 b = 1000 ∨ (solN s g0 g1 k).1 b ≤ k
  | 0, b => by
    simp only [solN]
    split
    · exact Or.inr (Nat.le_refl _)
    · exact Or.inl rfl
  | k + 1, b => by
    simp only [solN]
    split
    · exact Or.inr (Nat.le_refl _)
    · rcases sol_val (s := s) (g0 := g0) (g1 := g1) k b with h | h
      · exact Or.inl h
      · exact Or.inr (by omega)
theorem newly_pos {s nd : Nat → Nat} {g0 g1 lv b : Nat} (h : newly s nd g0 g1 lv b = true) : 0 < b ∧ b < 2 ^ s 0 ∧ nd b = 1000 ∧ (fstC s nd g0 g1 lv b).isSome = true := by
  simp only [newly, Bool.and_eq_true, decide_eq_true_eq] at h
  exact ⟨h.1.1.1, h.1.1.2, h.1.2, h.2⟩
theorem sol_0 {s : Nat → Nat} {g0 g1 : Nat} : ∀ k, (solN s g0 g1 k).1 0 = 0
  | 0 => rfl
  | k + 1 => by
    simp only [solN]
    rw [if_neg, sol_0 k]
    intro h
    exact absurd (newly_pos h).1 (Nat.lt_irrefl 0)
theorem sol_pos {s : Nat → Nat} {g0 g1 b : Nat} (hb : 0 < b) : ∀ k, 0 < (solN s g0 g1 k).1 b
  | 0 => by simp only [solN]; rw [if_neg (by omega)]; decide
  | k + 1 => by
    simp only [solN]
    split
    · omega
    · exact sol_pos hb k
/-- a part of a belief needs no more rounds -/
theorem sol_sub {s : Nat → Nat} {g0 g1 : Nat} (h7 : s 0 ≤ 7) (hg : g1 ≤ 4) : ∀ k b b', k < 1000 → b < 2 ^ s 0 → (∀ i, b'.testBit i = true → b.testBit i = true) → (solN s g0 g1 k).1 b' ≤ (solN s g0 g1 k).1 b
  | 0, b, b', _, _, h => by
    simp only [solN]
    by_cases e : b = 0
    · subst e
      have : b' = 0 := by
        refine Nat.eq_of_testBit_eq fun i => ?_
        cases hb : b'.testBit i with
        | false => simp
        | true => have := h i hb; simp at this
      rw [this]; exact Nat.le_refl _
    · rw [if_neg e]
      split
      · omega
      · exact Nat.le_refl _
  | k + 1, b, b', hk, hb, h => by
    have ih := sol_sub (g0 := g0) h7 hg k b b' (by omega) hb h
    have hb' : b' < 2 ^ s 0 := bit_lt fun i hi => lt_bit hb (h i hi)
    have v1 := sol_val (s := s) (g0 := g0) (g1 := g1) k b
    have v2 := sol_val (s := s) (g0 := g0) (g1 := g1) k b'
    simp only [solN]
    by_cases n1 : newly s (solN s g0 g1 k).1 g0 g1 (k + 1) b = true
    · rw [if_pos n1]
      obtain ⟨p1, p2, p3, p4⟩ := newly_pos n1
      by_cases e0 : b' = 0
      · subst e0
        rw [if_neg (fun h9 => absurd (newly_pos h9).1 (Nat.lt_irrefl 0)), sol_0]
        omega
      · by_cases e1 : (solN s g0 g1 k).1 b' = 1000
        · obtain ⟨c, hc⟩ := Option.isSome_iff_exists.mp p4
          have hc1 := List.mem_of_find?_eq_some hc
          have hc2 := List.find?_some hc
          have hgood : goodC s (solN s g0 g1 k).1 g0 g1 (k + 1) b' c = true := by
            simp only [goodC, Bool.and_eq_true] at hc2 ⊢
            refine ⟨hc2.1, (enough_iff hg).mpr fun g g2 g3 => ?_⟩
            exact Nat.lt_of_le_of_lt (sol_sub h7 hg k _ _ (by omega) (thn_lt h7) (thn_mono h7 h)) ((enough_iff hg).mp hc2.2 g g2 g3)
          have hsome : (fstC s (solN s g0 g1 k).1 g0 g1 (k + 1) b').isSome = true := by
            unfold fstC
            rw [List.find?_isSome]
            exact ⟨c, hc1, hgood⟩
          have n2 : newly s (solN s g0 g1 k).1 g0 g1 (k + 1) b' = true := by
            simp only [newly, Bool.and_eq_true, decide_eq_true_eq]
            exact ⟨⟨⟨Nat.pos_of_ne_zero e0, hb'⟩, e1⟩, hsome⟩
          rw [if_pos n2]; exact Nat.le_refl _
        · split
          · exact Nat.le_refl _
          · omega
    · rw [if_neg n1]
      split
      · next n2 =>
        have := (newly_pos n2).2.2.1
        omega
      · exact ih
/-- a level that settles nothing ends it -/
theorem sol_stop {s : Nat → Nat} {g0 g1 : Nat} (hg : g1 ≤ 4) {k : Nat} (h : ∀ b, newly s (solN s g0 g1 k).1 g0 g1 (k + 1) b = false) : ∀ j, k + j < 999 → solN s g0 g1 (k + j) = solN s g0 g1 k
  | 0, _ => rfl
  | j + 1, hj => by
    have ih := sol_stop hg h j (by omega)
    have key : ∀ b, newly s (solN s g0 g1 (k + j)).1 g0 g1 (k + j + 1) b = false := by
      intro b
      rw [ih]
      have h1 := h b
      have e : ∀ c, goodC s (solN s g0 g1 k).1 g0 g1 (k + j + 1) b c = goodC s (solN s g0 g1 k).1 g0 g1 (k + 1) b c := by
        intro c
        have e2 : enough s (solN s g0 g1 k).1 g0 g1 (k + j + 1) b c = enough s (solN s g0 g1 k).1 g0 g1 (k + 1) b c := by
          rw [Bool.eq_iff_iff, enough_iff hg, enough_iff hg]
          constructor
          · intro q g a1 a2
            have := q g a1 a2
            rcases sol_val (s := s) (g0 := g0) (g1 := g1) k (thn s b c g) with v | v <;> omega
          · intro q g a1 a2
            have := q g a1 a2
            omega
        unfold goodC
        rw [e2]
      have e3 : fstC s (solN s g0 g1 k).1 g0 g1 (k + j + 1) b = fstC s (solN s g0 g1 k).1 g0 g1 (k + 1) b := by
        unfold fstC
        congr 1
        exact funext e
      unfold newly at h1 ⊢
      rw [e3]
      exact h1
    show solN s g0 g1 (k + j + 1) = _
    have : solN s g0 g1 (k + j + 1) = solN s g0 g1 (k + j) := by
      refine Prod.ext (funext fun b => ?_) (funext fun b => ?_)
      · simp only [solN]; rw [key b]; simp
      · simp only [solN]; rw [key b]; simp
    rw [this, ih]
theorem sol_end {s : Nat → Nat} {g0 g1 : Nat} (hg : g1 ≤ 4) {k j : Nat} (h : ∀ b, newly s (solN s g0 g1 k).1 g0 g1 (k + 1) b = false) (hk : k ≤ j) (hj : j < 999) : solN s g0 g1 j = solN s g0 g1 k := by
  have := sol_stop hg h (j - k) (by omega)
  rwa [show k + (j - k) = j by omega] at this
/-- how many beliefs are settled -/
def nset (nd : Nat → Nat) (n : Nat) : Nat := sumTo (fun b => if nd (b + 1) = 1000 then 0 else 1) n
theorem nset_le {nd : Nat → Nat} {n : Nat} : nset nd n ≤ n := by
  have := sumTo_le (f := fun b => if nd (b + 1) = 1000 then 0 else 1) (m := 1) (fun i => by split <;> decide) n
  unfold nset
  omega
theorem sumTo_mono {f g : Nat → Nat} : ∀ n, (∀ i, i < n → f i ≤ g i) → sumTo f n ≤ sumTo g n
  | 0, _ => Nat.le_refl _
  | n + 1, h => by
    have h1 := sumTo_mono n (fun i hi => h i (by omega))
    have h2 := h n (by omega)
    simp only [sumTo]
    omega
theorem sumTo_lt {f g : Nat → Nat} {j : Nat} : ∀ n, (∀ i, i < n → f i ≤ g i) → j < n → f j < g j → sumTo f n < sumTo g n
  | 0, _, h, _ => by omega
  | n + 1, h, hj, hlt => by
    have h1 := sumTo_mono n (fun i hi => h i (by omega))
    have h2 := h n (by omega)
    simp only [sumTo]
    by_cases e : j = n
    · subst e; omega
    · have := sumTo_lt n (fun i hi => h i (by omega)) (by omega : j < n) hlt
      omega
theorem sol_grow {s : Nat → Nat} {g0 g1 k b : Nat} (hk : k < 999) (h7 : s 0 ≤ 7) (h : newly s (solN s g0 g1 k).1 g0 g1 (k + 1) b = true) : nset (solN s g0 g1 k).1 127 < nset (solN s g0 g1 (k + 1)).1 127 := by
  obtain ⟨h1, h2, h3, h4⟩ := newly_pos h
  have := p2_le h7
  have e1 : ∀ x, newly s (solN s g0 g1 k).1 g0 g1 (k + 1) x = true → (solN s g0 g1 (k + 1)).1 x = k + 1 := fun x n1 => by simp only [solN]; rw [if_pos n1]
  have e2 : ∀ x, ¬ newly s (solN s g0 g1 k).1 g0 g1 (k + 1) x = true → (solN s g0 g1 (k + 1)).1 x = (solN s g0 g1 k).1 x := fun x n1 => by simp only [solN]; rw [if_neg n1]
  refine sumTo_lt (j := b - 1) 127 (fun i _ => ?_) (by omega) ?_
  · by_cases n1 : newly s (solN s g0 g1 k).1 g0 g1 (k + 1) (i + 1) = true
    · rw [e1 _ n1, if_neg (show ¬ k + 1 = 1000 by omega)]
      split <;> decide
    · rw [e2 _ n1]; exact Nat.le_refl _
  · rw [show b - 1 + 1 = b by omega, e1 _ h, if_pos h3, if_neg (show ¬ k + 1 = 1000 by omega)]
    decide
end
section
/-! BlindHunts$State, and Integer.bitCount -/
section CX3
variable {l : Launch} {M : qM} {o b : Nat} {s : Nat → Nat} {pa : Nat → Nat} {sw : Bool}
theorem c_bitCount {a : Nat} (ha : a < 128) : Ct l hdX kX mJ6_bitCount_0f7a4 [.int (nI a)] M (RI M (ones a)) := by
  refine Ct.of [some (.int (nI a))] (by decide +kernel) (fun h => absurd h (by decide)) (Nat.le_of_ble_eq_true rfl) rfl ?_
  refine T.iload_n (pc' := 1) (q_d dJ6_bitCount_0f7a4_0 0 rfl) rfl rfl rfl ?_
  refine T.iload_n (pc' := 2) (q_d dJ6_bitCount_0f7a4_0 1 rfl) rfl rfl rfl ?_
  refine T.iconst (pc' := 3) (v := nI 1) (q_d dJ6_bitCount_0f7a4_0 2 rfl) rfl (by decide) ?_
  refine T.iushr (pc' := 4) (q_d dJ6_bitCount_0f7a4_0 3 rfl) rfl rfl ?_
  refine T.ldcw (pc' := 7) (v := nI 1431655765) (q_d dJ6_bitCount_0f7a4_0 4 rfl) rfl wN_J6_265 ?_
  refine T.iand (pc' := 8) (q_d dJ6_bitCount_0f7a4_0 5 rfl) rfl rfl ?_
  refine T.isub (pc' := 9) (q_d dJ6_bitCount_0f7a4_0 6 rfl) rfl rfl ?_
  refine T.istore_n (pc' := 10) (q_d dJ6_bitCount_0f7a4_0 7 rfl) rfl rfl (by decide) rfl rfl ?_
  refine T.iload_n (pc' := 11) (q_d dJ6_bitCount_0f7a4_0 8 rfl) rfl rfl rfl ?_
  refine T.ldcw (pc' := 14) (v := nI 858993459) (q_d dJ6_bitCount_0f7a4_0 9 rfl) rfl wN_J6_266 ?_
  refine T.iand (pc' := 15) (q_d dJ6_bitCount_0f7a4_0 10 rfl) rfl rfl ?_
  refine T.iload_n (pc' := 16) (q_d dJ6_bitCount_0f7a4_0 11 rfl) rfl rfl rfl ?_
  refine T.iconst (pc' := 17) (v := nI 2) (q_d dJ6_bitCount_0f7a4_0 12 rfl) rfl (by decide) ?_
  refine T.iushr (pc' := 18) (q_d dJ6_bitCount_0f7a4_0 13 rfl) rfl rfl ?_
  refine T.ldcw (pc' := 21) (v := nI 858993459) (q_d dJ6_bitCount_0f7a4_0 14 rfl) rfl wN_J6_266 ?_
  refine T.iand (pc' := 22) (q_d dJ6_bitCount_0f7a4_0 15 rfl) rfl rfl ?_
  refine T.iadd (pc' := 23) (q_d dJ6_bitCount_0f7a4_0 16 rfl) rfl rfl ?_
  refine T.istore_n (pc' := 24) (q_d dJ6_bitCount_0f7a4_0 17 rfl) rfl rfl (by decide) rfl rfl ?_
  refine T.iload_n (pc' := 25) (q_d dJ6_bitCount_0f7a4_0 18 rfl) rfl rfl rfl ?_
  refine T.iload_n (pc' := 26) (q_d dJ6_bitCount_0f7a4_0 19 rfl) rfl rfl rfl ?_
  refine T.iconst (pc' := 27) (v := nI 4) (q_d dJ6_bitCount_0f7a4_0 20 rfl) rfl (by decide) ?_
  refine T.iushr (pc' := 28) (q_d dJ6_bitCount_0f7a4_0 21 rfl) rfl rfl ?_
  refine T.iadd (pc' := 29) (q_d dJ6_bitCount_0f7a4_0 22 rfl) rfl rfl ?_
  refine T.ldcw (pc' := 32) (v := nI 252645135) (q_d dJ6_bitCount_0f7a4_0 23 rfl) rfl wN_J6_267 ?_
  refine T.iand (pc' := 33) (q_d dJ6_bitCount_0f7a4_0 24 rfl) rfl rfl ?_
  refine T.istore_n (pc' := 34) (q_d dJ6_bitCount_0f7a4_0 25 rfl) rfl rfl (by decide) rfl rfl ?_
  refine T.iload_n (pc' := 35) (q_d dJ6_bitCount_0f7a4_0 26 rfl) rfl rfl rfl ?_
  refine T.iload_n (pc' := 36) (q_d dJ6_bitCount_0f7a4_0 27 rfl) rfl rfl rfl ?_
  refine T.bipush (pc' := 38) (v := nI 8) (q_d dJ6_bitCount_0f7a4_0 28 rfl) rfl (by decide) ?_
  refine T.iushr (pc' := 39) (q_d dJ6_bitCount_0f7a4_0 29 rfl) rfl rfl ?_
  refine T.iadd (pc' := 40) (q_d dJ6_bitCount_0f7a4_0 30 rfl) rfl rfl ?_
  refine T.istore_n (pc' := 41) (q_d dJ6_bitCount_0f7a4_0 31 rfl) rfl rfl (by decide) rfl rfl ?_
  refine T.iload_n (pc' := 42) (q_d dJ6_bitCount_0f7a4_0 32 rfl) rfl rfl rfl ?_
  refine T.iload_n (pc' := 43) (q_d dJ6_bitCount_0f7a4_0 33 rfl) rfl rfl rfl ?_
  refine T.bipush (pc' := 45) (v := nI 16) (q_d dJ6_bitCount_0f7a4_0 34 rfl) rfl (by decide) ?_
  refine T.iushr (pc' := 46) (q_d dJ6_bitCount_0f7a4_0 35 rfl) rfl rfl ?_
  refine T.iadd (pc' := 47) (q_d dJ6_bitCount_0f7a4_0 36 rfl) rfl rfl ?_
  refine T.istore_n (pc' := 48) (q_d dJ6_bitCount_0f7a4_0 37 rfl) rfl rfl (by decide) rfl rfl ?_
  refine T.iload_n (pc' := 49) (q_d dJ6_bitCount_0f7a4_0 38 rfl) rfl rfl rfl ?_
  refine T.bipush (pc' := 51) (v := nI 63) (q_d dJ6_bitCount_0f7a4_0 39 rfl) rfl (by decide) ?_
  refine T.iand (pc' := 52) (q_d dJ6_bitCount_0f7a4_1 0 rfl) rfl rfl ?_
  refine T.iret (q_d dJ6_bitCount_0f7a4_1 1 rfl) rfl rfl rfl ?_
  refine ⟨rfl, congrArg (fun x => some (Value.int x)) ?_⟩
  revert a
  decide +kernel
theorem c_sets (ho : SO o) (hP : M.2.2 = pX pa sw) (hs : RS M o s) (hw : WF b s) : Ct l hdX kX mX3_sets [.ref o] M (RI M (1 <<< s 0)) := by
  refine Ct.of [some (.ref o)] (by decide +kernel) (fun h => absurd h (by decide)) (Nat.le_of_ble_eq_true rfl) rfl ?_
  have h0 := hs.1
  have w0 := hw.1
  refine T.iconst (pc' := 1) (v := nI 1) (q_d dX3_sets_0 0 rfl) rfl (by decide) ?_
  refine T.aload_n (pc' := 2) (q_d dX3_sets_0 1 rfl) rfl rfl rfl ?_
  refine T.getI (pc' := 5) (ci := 3) (k0 := 0) (q_d dX3_sets_0 2 rfl) rfl (SO.o ho) (Nat.lt_of_le_of_lt (Nat.le_add_right _ _) (SO.lt ho)) rfl inX3 (by decide) rfl wF_X3_33 rfl ?_
  refine T.ishl (pc' := 6) (q_d dX3_sets_0 3 rfl) rfl (nN_shl _ (by omega)) ?_
  refine T.iret (q_d dX3_sets_0 4 rfl) rfl rfl rfl ?_
  exact ⟨rfl, by rw [h0]⟩
theorem c_hasRoad (ho : SO o) (hP : M.2.2 = pX pa sw) (hs : RS M o s) (hw : WF b s) {i j : Nat} (hi : i < 7) (hj : j < 7) : Ct l hdX kX mX3_hasRoad [.ref o, .int (nI i), .int (nI j)] M (RI M (s (14 + i) >>> j &&& 1)) := by
  refine Ct.of [some (.ref o), some (.int (nI i)), some (.int (nI j))] (by decide +kernel) (fun h => absurd h (by decide)) (Nat.le_of_ble_eq_true rfl) rfl ?_
  have h1 := hs.2.2.2.2.1 i hi
  have w1 := hw.2.2.2.2.2.2.2.1 i hi
  have w0 := p2_le hw.1
  have g1 := and1_01 (M.1 (o + 2) i >>> j)
  refine T.aload_n (pc' := 1) (q_d dX3_hasRoad_0 0 rfl) rfl rfl rfl ?_
  refine T.getR (pc' := 4) (ci := 3) (k0 := 2) (q_d dX3_hasRoad_0 1 rfl) rfl (SO.o ho) (Nat.lt_of_le_of_lt (Nat.le_add_right _ _) (SO.lt ho)) rfl inX3 (by decide) rfl wF_X3_15 (rP hP (SO.p2 ho)) ?_
  refine T.iload_n (pc' := 5) (q_d dX3_hasRoad_0 2 rfl) rfl rfl rfl ?_
  refine T.iald (pc' := 6) (q_d dX3_hasRoad_0 3 rfl) rfl (SO.a2 ho) (Nat.lt_of_le_of_lt (by omega) (SO.lt ho)) rfl (by omega) (by decide) rfl ?_
  refine T.iload_n (pc' := 7) (q_d dX3_hasRoad_0 4 rfl) rfl rfl rfl ?_
  refine T.ishr (pc' := 8) (q_d dX3_hasRoad_0 5 rfl) rfl (nN_shr (by omega) (by omega)) ?_
  refine T.iconst (pc' := 9) (v := nI 1) (q_d dX3_hasRoad_0 6 rfl) rfl (by decide) ?_
  refine T.iand (pc' := 10) (q_d dX3_hasRoad_0 7 rfl) rfl (nN_and _ _) ?_
  refine T.iconst (pc' := 11) (v := nI 1) (q_d dX3_hasRoad_0 8 rfl) rfl (by decide) ?_
  refine T.icmp_neN (tgt := 18) (pc' := 14) (q_d dX3_hasRoad_0 9 rfl) rfl (by decide) (by omega) (by omega) (fun h11 => ?_) (fun h11 => ?_)
  · refine T.iconst (pc' := 19) (v := nI 0) (q_d dX3_hasRoad_0 12 rfl) rfl (by decide) ?_
    refine T.zret (q_d dX3_hasRoad_0 13 rfl) rfl (by decide) rfl rfl ?_
    exact ⟨rfl, by rw [← h1]; congr 3; omega⟩
  · refine T.iconst (pc' := 15) (v := nI 1) (q_d dX3_hasRoad_0 10 rfl) rfl (by decide) ?_
    refine T.goto (tgt := 19) (q_d dX3_hasRoad_0 11 rfl) (by decide) ?_
    refine T.zret (q_d dX3_hasRoad_0 13 rfl) rfl (by decide) rfl rfl ?_
    exact ⟨rfl, by rw [← h1]; congr 3; omega⟩
theorem c_hasOpenRoad (ho : SO o) (hP : M.2.2 = pX pa sw) (hs : RS M o s) (hw : WF b s) {i j : Nat} (hi : i < 7) (hj : j < 7) : Ct l hdX kX mX3_hasOpenRoad [.ref o, .int (nI i), .int (nI j)] M (RI M (s (21 + i) >>> j &&& 1)) := by
  refine Ct.of [some (.ref o), some (.int (nI i)), some (.int (nI j))] (by decide +kernel) (fun h => absurd h (by decide)) (Nat.le_of_ble_eq_true rfl) rfl ?_
  have h1 := hs.2.2.2.2.2.1 i hi
  have w1 := hw.2.2.2.2.2.2.2.2.1 i hi
  have w0 := p2_le hw.1
  have g1 := and1_01 (M.1 (o + 3) i >>> j)
  refine T.aload_n (pc' := 1) (q_d dX3_hasOpenRoad_0 0 rfl) rfl rfl rfl ?_
  refine T.getR (pc' := 4) (ci := 3) (k0 := 3) (q_d dX3_hasOpenRoad_0 1 rfl) rfl (SO.o ho) (Nat.lt_of_le_of_lt (Nat.le_add_right _ _) (SO.lt ho)) rfl inX3 (by decide) rfl wF_X3_18 (rP hP (SO.p3 ho)) ?_
  refine T.iload_n (pc' := 5) (q_d dX3_hasOpenRoad_0 2 rfl) rfl rfl rfl ?_
  refine T.iald (pc' := 6) (q_d dX3_hasOpenRoad_0 3 rfl) rfl (SO.a3 ho) (Nat.lt_of_le_of_lt (by omega) (SO.lt ho)) rfl (by omega) (by decide) rfl ?_
  refine T.iload_n (pc' := 7) (q_d dX3_hasOpenRoad_0 4 rfl) rfl rfl rfl ?_
  refine T.ishr (pc' := 8) (q_d dX3_hasOpenRoad_0 5 rfl) rfl (nN_shr (by omega) (by omega)) ?_
  refine T.iconst (pc' := 9) (v := nI 1) (q_d dX3_hasOpenRoad_0 6 rfl) rfl (by decide) ?_
  refine T.iand (pc' := 10) (q_d dX3_hasOpenRoad_0 7 rfl) rfl (nN_and _ _) ?_
  refine T.iconst (pc' := 11) (v := nI 1) (q_d dX3_hasOpenRoad_0 8 rfl) rfl (by decide) ?_
  refine T.icmp_neN (tgt := 18) (pc' := 14) (q_d dX3_hasOpenRoad_0 9 rfl) rfl (by decide) (by omega) (by omega) (fun h11 => ?_) (fun h11 => ?_)
  · refine T.iconst (pc' := 19) (v := nI 0) (q_d dX3_hasOpenRoad_0 12 rfl) rfl (by decide) ?_
    refine T.zret (q_d dX3_hasOpenRoad_0 13 rfl) rfl (by decide) rfl rfl ?_
    exact ⟨rfl, by rw [← h1]; congr 3; omega⟩
  · refine T.iconst (pc' := 15) (v := nI 1) (q_d dX3_hasOpenRoad_0 10 rfl) rfl (by decide) ?_
    refine T.goto (tgt := 19) (q_d dX3_hasOpenRoad_0 11 rfl) (by decide) ?_
    refine T.zret (q_d dX3_hasOpenRoad_0 13 rfl) rfl (by decide) rfl rfl ?_
    exact ⟨rfl, by rw [← h1]; congr 3; omega⟩
theorem c_isCaught (ho : SO o) (hs : RS M o s) (hw : WF b s) (hb : b < 2 ^ 30) : Ct l hdX kX mX3_isCaught [.ref o] M (RI M (s 3)) := by
  refine Ct.of [some (.ref o)] (by decide +kernel) (fun h => absurd h (by decide)) (Nat.le_of_ble_eq_true rfl) rfl ?_
  have h1 := hs.2.1
  have h2 := hs.2.2.1
  have w0 := p2_le hw.1
  have w1 := hw.2.1
  have w2 := hw.2.2.1
  have w3 := hw.2.2.2.2.2.2.2.2.2.2.1
  refine T.aload_n (pc' := 1) (q_d dX3_isCaught_0 0 rfl) rfl rfl rfl ?_
  refine T.getI (pc' := 4) (ci := 3) (k0 := 6) (q_d dX3_isCaught_0 1 rfl) rfl (SO.o ho) (Nat.lt_of_le_of_lt (Nat.le_add_right _ _) (SO.lt ho)) rfl inX3 (by decide) rfl wF_X3_40 rfl ?_
  refine T.if_leN (tgt := 18) (pc' := 7) (q_d dX3_isCaught_0 2 rfl) rfl (by decide) (by omega) (fun h4 => ?_) (fun h4 => ?_)
  · refine T.iconst (pc' := 19) (v := nI 0) (q_d dX3_isCaught_0 8 rfl) rfl (by decide) ?_
    refine T.zret (q_d dX3_isCaught_0 9 rfl) rfl (by decide) rfl rfl ?_
    exact ⟨rfl, by rw [w3]; congr 3; split <;> omega⟩
  · refine T.aload_n (pc' := 8) (q_d dX3_isCaught_0 3 rfl) rfl rfl rfl ?_
    refine T.getI (pc' := 11) (ci := 3) (k0 := 5) (q_d dX3_isCaught_0 4 rfl) rfl (SO.o ho) (Nat.lt_of_le_of_lt (Nat.le_add_right _ _) (SO.lt ho)) rfl inX3 (by decide) rfl wF_X3_37 rfl ?_
    refine T.if_neN (tgt := 18) (pc' := 14) (q_d dX3_isCaught_0 5 rfl) rfl (by decide) (by omega) (fun h11 => ?_) (fun h11 => ?_)
    · refine T.iconst (pc' := 19) (v := nI 0) (q_d dX3_isCaught_0 8 rfl) rfl (by decide) ?_
      refine T.zret (q_d dX3_isCaught_0 9 rfl) rfl (by decide) rfl rfl ?_
      exact ⟨rfl, by rw [w3]; congr 3; split <;> omega⟩
    · refine T.iconst (pc' := 15) (v := nI 1) (q_d dX3_isCaught_0 6 rfl) rfl (by decide) ?_
      refine T.goto (tgt := 19) (q_d dX3_isCaught_0 7 rfl) (by decide) ?_
      refine T.zret (q_d dX3_isCaught_0 9 rfl) rfl (by decide) rfl rfl ?_
      exact ⟨rfl, by rw [w3]; congr 3; split <;> omega⟩
theorem c_rowOfRound {a : Nat} : Ct l hdX kX mX3_rowOfRound [.int (nI a)] M (RI M (a % 8)) := by
  refine Ct.of [some (.int (nI a))] (by decide +kernel) (fun h => absurd h (by decide)) (Nat.le_of_ble_eq_true rfl) rfl ?_
  refine T.iload_n (pc' := 1) (q_d dX3_rowOfRound_0 0 rfl) rfl rfl rfl ?_
  refine T.bipush (pc' := 3) (v := nI 7) (q_d dX3_rowOfRound_0 1 rfl) rfl (by decide) ?_
  refine T.iand (pc' := 4) (q_d dX3_rowOfRound_0 2 rfl) rfl (nN_and _ _) ?_
  refine T.iret (q_d dX3_rowOfRound_0 3 rfl) rfl rfl rfl ?_
  exact ⟨rfl, by rw [show (7 : Nat) = 2 ^ 3 - 1 from rfl, Nat.and_two_pow_sub_one_eq_mod]⟩
theorem c_signalOf (ho : SO o) (hP : M.2.2 = pX pa sw) (hs : RS M o s) (hw : WF b s) {i j : Nat} (hi : i < 7) (hj : j < 7) : Ct l hdX kX mX3_signalOf [.ref o, .int (nI i), .int (nI j)] M (RI M (hears s i j)) := by
  refine Ct.of [some (.ref o), some (.int (nI i)), some (.int (nI j))] (by decide +kernel) (fun h => absurd h (by decide)) (Nat.le_of_ble_eq_true rfl) rfl ?_
  have h1 := hs.2.2.2.2.2.1 j hj
  have hc := hs.2.2.2.1 j hj
  have w1 := hw.2.2.2.2.2.2.2.2.1 j hj
  have w0 := p2_le hw.1
  have w5 := hw.2.2.2.2.1
  refine T.aload_n (pc' := 1) (q_d dX3_signalOf_0 0 rfl) rfl rfl rfl ?_
  refine T.getR (pc' := 4) (ci := 3) (k0 := 4) (q_d dX3_signalOf_0 1 rfl) rfl (SO.o ho) (Nat.lt_of_le_of_lt (Nat.le_add_right _ _) (SO.lt ho)) rfl inX3 (by decide) rfl wF_X3_21 (rP hP (SO.p4 ho)) ?_
  refine T.iconst (pc' := 5) (v := nI 1) (q_d dX3_signalOf_0 2 rfl) rfl (by decide) ?_
  refine T.iald (pc' := 6) (q_d dX3_signalOf_0 3 rfl) rfl (SO.a4 ho) (Nat.lt_of_le_of_lt (by omega) (SO.lt ho)) rfl (by omega) (by decide) (hs.2.2.2.2.2.2.1 1 (by decide)) ?_
  rcases (by omega : s 5 = 0 ∨ s 5 = 1 ∨ s 5 = 2 ∨ s 5 = 3) with e5 | e5 | e5 | e5
  · rw [show s (4 + 1) = 0 from e5]
    refine T.tableIn (tgt := 32) (q_d dX3_signalOf_0 4 rfl) (by decide +kernel) (by decide +kernel) (off := 26) (by decide +kernel) (by decide) ?_
    refine T.iconst (pc' := 33) (v := nI 0) (q_d dX3_signalOf_0 5 rfl) rfl (by decide) ?_
    refine T.iret (q_d dX3_signalOf_0 6 rfl) rfl rfl rfl ?_
    exact ⟨rfl, by unfold hears; rw [if_pos e5]⟩
  · rw [show s (4 + 1) = 1 from e5]
    refine T.tableIn (tgt := 34) (q_d dX3_signalOf_0 4 rfl) (by decide +kernel) (by decide +kernel) (off := 28) (by decide +kernel) (by decide) ?_
    refine T.aload_n (pc' := 35) (q_d dX3_signalOf_0 7 rfl) rfl rfl rfl ?_
    refine T.getR (pc' := 38) (ci := 3) (k0 := 1) (q_d dX3_signalOf_0 8 rfl) rfl (SO.o ho) (Nat.lt_of_le_of_lt (Nat.le_add_right _ _) (SO.lt ho)) rfl inX3 (by decide) rfl wF_X3_9 (rP hP (SO.p1 ho)) ?_
    refine T.iload_n (pc' := 39) (q_d dX3_signalOf_0 9 rfl) rfl rfl rfl ?_
    refine T.iald (pc' := 40) (q_d dX3_signalOf_0 10 rfl) rfl (SO.a1 ho) (Nat.lt_of_le_of_lt (by omega) (SO.lt ho)) rfl (by omega) (by decide) hc ?_
    refine T.iret (q_d dX3_signalOf_0 11 rfl) rfl rfl rfl ?_
    exact ⟨rfl, by unfold hears; rw [if_neg (by omega), if_pos e5]⟩
  · rw [show s (4 + 1) = 2 from e5]
    refine T.tableIn (tgt := 41) (q_d dX3_signalOf_0 4 rfl) (by decide +kernel) (by decide +kernel) (off := 35) (by decide +kernel) (by decide) ?_
    refine T.iload_n (pc' := 42) (q_d dX3_signalOf_0 12 rfl) rfl rfl rfl ?_
    refine T.iload_n (pc' := 43) (q_d dX3_signalOf_0 13 rfl) rfl rfl rfl ?_
    refine T.icmp_neN (tgt := 50) (pc' := 46) (q_d dX3_signalOf_0 14 rfl) rfl (by decide) (by omega) (by omega) (fun h43 => ?_) (fun h43 => ?_)
    · refine T.iconst (pc' := 51) (v := nI 1) (q_d dX3_signalOf_0 17 rfl) rfl (by decide) ?_
      refine T.iret (q_d dX3_signalOf_0 18 rfl) rfl rfl rfl ?_
      exact ⟨rfl, by unfold hears; rw [if_neg (by omega), if_neg (by omega), if_pos e5]; first | rw [if_pos (by omega)] | rw [if_neg (by omega)]⟩
    · refine T.iconst (pc' := 47) (v := nI 0) (q_d dX3_signalOf_0 15 rfl) rfl (by decide) ?_
      refine T.goto (tgt := 51) (q_d dX3_signalOf_0 16 rfl) (by decide) ?_
      refine T.iret (q_d dX3_signalOf_0 18 rfl) rfl rfl rfl ?_
      exact ⟨rfl, by unfold hears; rw [if_neg (by omega), if_neg (by omega), if_pos e5]; first | rw [if_pos (by omega)] | rw [if_neg (by omega)]⟩
  · rw [show s (4 + 1) = 3 from e5]
    refine T.tableOut (tgt := 52) (q_d dX3_signalOf_0 4 rfl) (Or.inr (by decide +kernel)) (by decide) ?_
    refine T.aload_n (pc' := 53) (q_d dX3_signalOf_0 19 rfl) rfl rfl rfl ?_
    refine T.getR (pc' := 56) (ci := 3) (k0 := 3) (q_d dX3_signalOf_0 20 rfl) rfl (SO.o ho) (Nat.lt_of_le_of_lt (Nat.le_add_right _ _) (SO.lt ho)) rfl inX3 (by decide) rfl wF_X3_18 (rP hP (SO.p3 ho)) ?_
    refine T.iload_n (pc' := 57) (q_d dX3_signalOf_0 21 rfl) rfl rfl rfl ?_
    refine T.iald (pc' := 58) (q_d dX3_signalOf_0 22 rfl) rfl (SO.a3 ho) (Nat.lt_of_le_of_lt (by omega) (SO.lt ho)) rfl (by omega) (by decide) h1 ?_
    refine T.callS (pc' := 61) (q_d dX3_signalOf_0 23 rfl) rfl uJ6_bitCount_0f7a4 wM_X3_47 (c_bitCount (a := s (21 + j)) (by omega)) rfl rfl (by decide) (Nat.le_of_ble_eq_true rfl) rfl rfl (fun _ => rfl) ?_
    rintro _ _ ⟨rfl, rfl⟩
    dsimp only [Option.toList, List.cons_append, List.nil_append, List.append_nil]
    refine T.iconst (pc' := 62) (v := nI 3) (q_d dX3_signalOf_0 24 rfl) rfl (by decide) ?_
    refine T.mmin (pc' := 65) (q_d dX3_signalOf_0 25 rfl) rfl wM_X3_53 wT_Math_min wZ_Math wC_Math_min (by decide) (Nat.le_of_ble_eq_true rfl) (by decide) (by decide) rfl ?_
    refine T.iret (q_d dX3_signalOf_0 26 rfl) rfl rfl rfl ?_
    refine ⟨rfl, ?_⟩
    have g9 := ones_le (s (21 + j))
    unfold hears
    rw [if_neg (show ¬ s 5 = 0 by omega), if_neg (show ¬ s 5 = 1 by omega), if_neg (show ¬ s 5 = 2 by omega)]
    congr 2
    by_cases g8 : 3 < ones (s (21 + j))
    · rw [if_pos g8, if_pos ((nN_lt (by decide) (by omega)).mpr g8)]
    · rw [if_neg g8, if_neg (fun h => g8 ((nN_lt (by decide) (by omega)).mp h))]
theorem c_reach (ho : SO o) (hP : M.2.2 = pX pa sw) (hs : RS M o s) (hw : WF b s) {p : Nat} (hp : p < s 0) : Ct l hdX kX mX3_reach [.ref o, .int (nI p)] M (RI M (goes s p 0)) := by
  refine Ct.of [some (.ref o), some (.int (nI p)), none, none, none, none, none] (by decide +kernel) (fun h => absurd h (by decide)) (Nat.le_of_ble_eq_true rfl) rfl ?_
  have h0 := hs.1
  have w7 := hw.1
  have w0 := p2_le hw.1
  have w1 := hw.2.2.2.2.2.2.2.2.1 p (by omega)
  have w4 := hw.2.2.2.1
  have loop : ∀ d i far, i + d = s 0 → far = s (21 + p) ||| orTo (fun q => if s (21 + p) >>> q &&& 1 = 1 then s (21 + q) else 0) i → s (21 + p) ≠ 0 → s 4 = 2 →
      T l hdX kX mX3_reach (RI M (goes s p 0)) 0 0 48 [some (.ref o), some (.int (nI p)), some (.int (nI (s (21 + p)))), some (.int (nI (1 <<< p))), some (.int (nI (s 4))), some (.int (nI far)), some (.int (nI i))] [] M := by
    intro d
    induction d with
    | zero =>
      intro i far hi hf hn h4
      refine T.iload (pc' := 50) (q_d dX3_reach_0 33 rfl) rfl rfl ?_
      refine T.aload_n (pc' := 51) (q_d dX3_reach_0 34 rfl) rfl rfl rfl ?_
      refine T.getI (pc' := 54) (ci := 3) (k0 := 0) (q_d dX3_reach_0 35 rfl) rfl (SO.o ho) (Nat.lt_of_le_of_lt (Nat.le_add_right _ _) (SO.lt ho)) rfl inX3 (by decide) rfl wF_X3_33 h0 ?_
      refine T.icmp_geN (tgt := 85) (pc' := 57) (q_d dX3_reach_0 36 rfl) rfl (by decide) (by omega) (by omega) (fun h54 => ?_) (fun h54 => ?_)
      · refine T.iload (pc' := 87) (q_d dX3_reach_1 13 rfl) rfl rfl ?_
        refine T.iret (q_d dX3_reach_1 14 rfl) rfl rfl rfl ?_
        exact ⟨rfl, by unfold goes; rw [if_neg (by omega), if_neg (by omega), if_pos h4, if_neg hn, hf, show i = s 0 by omega]⟩
      · exact absurd h54 (by omega)
    | succ d ih =>
      intro i far hi hf hn h4
      have g1 := and1_lt (s (21 + p) >>> i)
      have g2 := hs.2.2.2.2.2.1 i (by omega)
      refine T.iload (pc' := 50) (q_d dX3_reach_0 33 rfl) rfl rfl ?_
      refine T.aload_n (pc' := 51) (q_d dX3_reach_0 34 rfl) rfl rfl rfl ?_
      refine T.getI (pc' := 54) (ci := 3) (k0 := 0) (q_d dX3_reach_0 35 rfl) rfl (SO.o ho) (Nat.lt_of_le_of_lt (Nat.le_add_right _ _) (SO.lt ho)) rfl inX3 (by decide) rfl wF_X3_33 h0 ?_
      refine T.icmp_geN (tgt := 85) (pc' := 57) (q_d dX3_reach_0 36 rfl) rfl (by decide) (by omega) (by omega) (fun h54 => ?_) (fun h54 => ?_)
      · exact absurd h54 (by omega)
      · refine T.iload_n (pc' := 58) (q_d dX3_reach_0 37 rfl) rfl rfl rfl ?_
        refine T.iload (pc' := 60) (q_d dX3_reach_0 38 rfl) rfl rfl ?_
        refine T.ishr (pc' := 61) (q_d dX3_reach_0 39 rfl) rfl (nN_shr (by omega) (by omega)) ?_
        refine T.iconst (pc' := 62) (v := nI 1) (q_d dX3_reach_1 0 rfl) rfl (by decide) ?_
        refine T.iand (pc' := 63) (q_d dX3_reach_1 1 rfl) rfl (nN_and _ _) ?_
        refine T.iconst (pc' := 64) (v := nI 1) (q_d dX3_reach_1 2 rfl) rfl (by decide) ?_
        refine T.icmp_neN (tgt := 79) (pc' := 67) (q_d dX3_reach_1 3 rfl) rfl (by decide) (by omega) (by omega) (fun h64 => ?_) (fun h64 => ?_)
        · refine T.iinc (pc' := 82) (q_d dX3_reach_1 11 rfl) rfl rfl (nN_p _ 1) (by decide) rfl rfl ?_
          refine T.goto (tgt := 48) (q_d dX3_reach_1 12 rfl) (by decide) ?_
          exact ih (i + 1) _ (by omega) (by simp only [orTo]; first | rw [if_pos h64, hf, Nat.or_assoc] | rw [if_neg h64, Nat.or_zero, hf]) hn h4
        · refine T.iload (pc' := 69) (q_d dX3_reach_1 4 rfl) rfl rfl ?_
          refine T.aload_n (pc' := 70) (q_d dX3_reach_1 5 rfl) rfl rfl rfl ?_
          refine T.getR (pc' := 73) (ci := 3) (k0 := 3) (q_d dX3_reach_1 6 rfl) rfl (SO.o ho) (Nat.lt_of_le_of_lt (Nat.le_add_right _ _) (SO.lt ho)) rfl inX3 (by decide) rfl wF_X3_18 (rP hP (SO.p3 ho)) ?_
          refine T.iload (pc' := 75) (q_d dX3_reach_1 7 rfl) rfl rfl ?_
          refine T.iald (pc' := 76) (q_d dX3_reach_1 8 rfl) rfl (SO.a3 ho) (Nat.lt_of_le_of_lt (by omega) (SO.lt ho)) rfl (by omega) (by decide) g2 ?_
          refine T.ior (pc' := 77) (q_d dX3_reach_1 9 rfl) rfl (nN_or _ _) ?_
          refine T.istore (pc' := 79) (q_d dX3_reach_1 10 rfl) rfl (by decide) rfl rfl ?_
          refine T.iinc (pc' := 82) (q_d dX3_reach_1 11 rfl) rfl rfl (nN_p _ 1) (by decide) rfl rfl ?_
          refine T.goto (tgt := 48) (q_d dX3_reach_1 12 rfl) (by decide) ?_
          exact ih (i + 1) _ (by omega) (by simp only [orTo]; first | rw [if_pos h64, hf, Nat.or_assoc] | rw [if_neg h64, Nat.or_zero, hf]) hn h4
  refine T.aload_n (pc' := 1) (q_d dX3_reach_0 0 rfl) rfl rfl rfl ?_
  refine T.getR (pc' := 4) (ci := 3) (k0 := 3) (q_d dX3_reach_0 1 rfl) rfl (SO.o ho) (Nat.lt_of_le_of_lt (Nat.le_add_right _ _) (SO.lt ho)) rfl inX3 (by decide) rfl wF_X3_18 (rP hP (SO.p3 ho)) ?_
  refine T.iload_n (pc' := 5) (q_d dX3_reach_0 2 rfl) rfl rfl rfl ?_
  refine T.iald (pc' := 6) (q_d dX3_reach_0 3 rfl) rfl (SO.a3 ho) (Nat.lt_of_le_of_lt (by omega) (SO.lt ho)) rfl (by omega) (by decide) (hs.2.2.2.2.2.1 p (by omega)) ?_
  refine T.istore_n (pc' := 7) (q_d dX3_reach_0 4 rfl) rfl rfl (by decide) rfl rfl ?_
  refine T.iconst (pc' := 8) (v := nI 1) (q_d dX3_reach_0 5 rfl) rfl (by decide) ?_
  refine T.iload_n (pc' := 9) (q_d dX3_reach_0 6 rfl) rfl rfl rfl ?_
  refine T.ishl (pc' := 10) (q_d dX3_reach_0 7 rfl) rfl (nN_shl _ (by omega)) ?_
  refine T.istore_n (pc' := 11) (q_d dX3_reach_0 8 rfl) rfl rfl (by decide) rfl rfl ?_
  refine T.aload_n (pc' := 12) (q_d dX3_reach_0 9 rfl) rfl rfl rfl ?_
  refine T.getR (pc' := 15) (ci := 3) (k0 := 4) (q_d dX3_reach_0 10 rfl) rfl (SO.o ho) (Nat.lt_of_le_of_lt (Nat.le_add_right _ _) (SO.lt ho)) rfl inX3 (by decide) rfl wF_X3_21 (rP hP (SO.p4 ho)) ?_
  refine T.iconst (pc' := 16) (v := nI 0) (q_d dX3_reach_0 11 rfl) rfl (by decide) ?_
  refine T.iald (pc' := 17) (q_d dX3_reach_0 12 rfl) rfl (SO.a4 ho) (Nat.lt_of_le_of_lt (by omega) (SO.lt ho)) rfl (by omega) (by decide) (show M.1 (o + 4) 0 = s 4 from hs.2.2.2.2.2.2.1 0 (by decide)) ?_
  refine T.istore (pc' := 19) (q_d dX3_reach_0 13 rfl) rfl (by decide) rfl rfl ?_
  refine T.iload_n (pc' := 20) (q_d dX3_reach_0 14 rfl) rfl rfl rfl ?_
  refine T.if_neN (tgt := 25) (pc' := 23) (q_d dX3_reach_0 15 rfl) rfl (by decide) (by omega) (fun h20 => ?_) (fun h20 => ?_)
  · refine T.iload (pc' := 27) (q_d dX3_reach_0 18 rfl) rfl rfl ?_
    refine T.if_neN (tgt := 32) (pc' := 30) (q_d dX3_reach_0 19 rfl) rfl (by decide) (by omega) (fun h27 => ?_) (fun h27 => ?_)
    · refine T.iload (pc' := 34) (q_d dX3_reach_0 22 rfl) rfl rfl ?_
      refine T.iconst (pc' := 35) (v := nI 2) (q_d dX3_reach_0 23 rfl) rfl (by decide) ?_
      refine T.icmp_eqN (tgt := 42) (pc' := 38) (q_d dX3_reach_0 24 rfl) rfl (by decide) (by omega) (by omega) (fun h35 => ?_) (fun h35 => ?_)
      · refine T.iload_n (pc' := 43) (q_d dX3_reach_0 29 rfl) rfl rfl rfl ?_
        refine T.istore (pc' := 45) (q_d dX3_reach_0 30 rfl) rfl (by decide) rfl rfl ?_
        refine T.iconst (pc' := 46) (v := nI 0) (q_d dX3_reach_0 31 rfl) rfl (by decide) ?_
        refine T.istore (pc' := 48) (q_d dX3_reach_0 32 rfl) rfl (by decide) rfl rfl ?_
        exact loop (s 0) 0 _ (by omega) (by simp [orTo]) h20 h35
      · refine T.iload_n (pc' := 39) (q_d dX3_reach_0 25 rfl) rfl rfl rfl ?_
        refine T.iload_n (pc' := 40) (q_d dX3_reach_0 26 rfl) rfl rfl rfl ?_
        refine T.ior (pc' := 41) (q_d dX3_reach_0 27 rfl) rfl (nN_or _ _) ?_
        refine T.iret (q_d dX3_reach_0 28 rfl) rfl rfl rfl ?_
        refine ⟨rfl, ?_⟩
        unfold goes
        rcases (by omega : s 4 = 1 ∨ s 4 = 3) with e | e
        · rw [if_neg h27, if_pos e]
        · rw [if_neg h27, if_neg (by omega), if_neg h35, dif_zero (by omega)]
    · refine T.iload_n (pc' := 31) (q_d dX3_reach_0 20 rfl) rfl rfl rfl ?_
      refine T.iret (q_d dX3_reach_0 21 rfl) rfl rfl rfl ?_
      exact ⟨rfl, by unfold goes; rw [if_pos h27, if_neg h20]⟩
  · refine T.iload_n (pc' := 24) (q_d dX3_reach_0 16 rfl) rfl rfl rfl ?_
    refine T.iret (q_d dX3_reach_0 17 rfl) rfl rfl rfl ?_
    exact ⟨rfl, by unfold goes; rw [h20]; simp [dif]⟩
theorem c_countRoads (ho : SO o) (hs : RS M o s) (hw : WF b s) {a : Nat} {r : Nat → Nat} (hh : hdX a = .inr (0, 7)) (ha : a < 71) (hr : ∀ i, i < 7 → M.1 a i = r i) (hr2 : ∀ i, i < 7 → r i < 128) : Ct l hdX kX mX3_countRoads [.ref o, .ref a] M (RI M (sumTo (fun i => ones (r i)) (s 0) / 2)) := by
  refine Ct.of [some (.ref o), some (.ref a), none, none] (by decide +kernel) (fun h => absurd h (by decide)) (Nat.le_of_ble_eq_true rfl) rfl ?_
  have h0 := hs.1
  have w7 := hw.1
  have hle := sumTo_le (f := fun i => ones (r i)) (m := 7) (fun i => ones_le _)
  have loop : ∀ d i, i + d = s 0 → T l hdX kX mX3_countRoads (RI M (sumTo (fun i => ones (r i)) (s 0) / 2)) 0 0 4 [some (.ref o), some (.ref a), some (.int (nI (sumTo (fun i => ones (r i)) i))), some (.int (nI i))] [] M := by
    intro d
    induction d with
    | zero =>
      intro i hi
      have hle2 := hle i
      refine T.iload_n (pc' := 5) (q_d dX3_countRoads_0 4 rfl) rfl rfl rfl ?_
      refine T.aload_n (pc' := 6) (q_d dX3_countRoads_0 5 rfl) rfl rfl rfl ?_
      refine T.getI (pc' := 9) (ci := 3) (k0 := 0) (q_d dX3_countRoads_0 6 rfl) rfl (SO.o ho) (Nat.lt_of_le_of_lt (Nat.le_add_right _ _) (SO.lt ho)) rfl inX3 (by decide) rfl wF_X3_33 h0 ?_
      refine T.icmp_geN (tgt := 27) (pc' := 12) (q_d dX3_countRoads_0 7 rfl) rfl (by decide) (by omega) (by omega) (fun h9 => ?_) (fun h9 => ?_)
      · refine T.iload_n (pc' := 28) (q_d dX3_countRoads_0 17 rfl) rfl rfl rfl ?_
        refine T.iconst (pc' := 29) (v := nI 2) (q_d dX3_countRoads_0 18 rfl) rfl (by decide) ?_
        refine T.idiv (pc' := 30) (q_d dX3_countRoads_0 19 rfl) rfl (by decide) (pk_div (by omega) (by omega) (by omega)) ?_
        refine T.iret (q_d dX3_countRoads_0 20 rfl) rfl rfl rfl ?_
        exact ⟨rfl, by rw [show i = s 0 by omega]⟩
      · exact absurd h9 (by omega)
    | succ d ih =>
      intro i hi
      refine T.iload_n (pc' := 5) (q_d dX3_countRoads_0 4 rfl) rfl rfl rfl ?_
      refine T.aload_n (pc' := 6) (q_d dX3_countRoads_0 5 rfl) rfl rfl rfl ?_
      refine T.getI (pc' := 9) (ci := 3) (k0 := 0) (q_d dX3_countRoads_0 6 rfl) rfl (SO.o ho) (Nat.lt_of_le_of_lt (Nat.le_add_right _ _) (SO.lt ho)) rfl inX3 (by decide) rfl wF_X3_33 h0 ?_
      refine T.icmp_geN (tgt := 27) (pc' := 12) (q_d dX3_countRoads_0 7 rfl) rfl (by decide) (by omega) (by omega) (fun h9 => ?_) (fun h9 => ?_)
      · exact absurd h9 (by omega)
      · refine T.iload_n (pc' := 13) (q_d dX3_countRoads_0 8 rfl) rfl rfl rfl ?_
        refine T.aload_n (pc' := 14) (q_d dX3_countRoads_0 9 rfl) rfl rfl rfl ?_
        refine T.iload_n (pc' := 15) (q_d dX3_countRoads_0 10 rfl) rfl rfl rfl ?_
        refine T.iald (pc' := 16) (q_d dX3_countRoads_0 11 rfl) rfl hh ha rfl (by omega) (by decide) (hr i (by omega)) ?_
        refine T.callS (pc' := 19) (q_d dX3_countRoads_0 12 rfl) rfl uJ6_bitCount_0f7a4 wM_X3_47 (c_bitCount (hr2 i (by omega))) rfl rfl (by decide) (Nat.le_of_ble_eq_true rfl) rfl rfl (fun _ => rfl) ?_
        rintro _ _ ⟨rfl, rfl⟩
        dsimp only [Option.toList, List.cons_append, List.nil_append, List.append_nil]
        refine T.iadd (pc' := 20) (q_d dX3_countRoads_0 13 rfl) rfl (nI_add _ _) ?_
        refine T.istore_n (pc' := 21) (q_d dX3_countRoads_0 14 rfl) rfl rfl (by decide) rfl rfl ?_
        refine T.iinc (pc' := 24) (q_d dX3_countRoads_0 15 rfl) rfl rfl (nN_p _ 1) (by decide) rfl rfl ?_
        refine T.goto (tgt := 4) (q_d dX3_countRoads_0 16 rfl) (by decide) ?_
        exact ih (i + 1) (by omega)
  refine T.iconst (pc' := 1) (v := nI 0) (q_d dX3_countRoads_0 0 rfl) rfl (by decide) ?_
  refine T.istore_n (pc' := 2) (q_d dX3_countRoads_0 1 rfl) rfl rfl (by decide) rfl rfl ?_
  refine T.iconst (pc' := 3) (v := nI 0) (q_d dX3_countRoads_0 2 rfl) rfl (by decide) ?_
  refine T.istore_n (pc' := 4) (q_d dX3_countRoads_0 3 rfl) rfl rfl (by decide) rfl rfl ?_
  exact loop (s 0) 0 (by omega)
theorem c_turnRoad (ho : SO o) (hP : M.2.2 = pX pa sw) {i j : Nat} (hi : i < 7) (hj : j < 7) (hij : i ≠ j) : Ct l hdX kX mX3_turnRoad [.ref o, .int (nI i), .int (nI j)] M (fun v M' => v = none ∧ M' = qI (qI M (o + 3) i (M.1 (o + 3) i ^^^ 1 <<< j)) (o + 3) j (M.1 (o + 3) j ^^^ 1 <<< i)) := by
  refine Ct.of [some (.ref o), some (.int (nI i)), some (.int (nI j))] (by decide +kernel) (fun h => absurd h (by decide)) (Nat.le_of_ble_eq_true rfl) rfl ?_
  refine T.aload_n (pc' := 1) (q_d dX3_turnRoad_0 0 rfl) rfl rfl rfl ?_
  refine T.getR (pc' := 4) (ci := 3) (k0 := 3) (q_d dX3_turnRoad_0 1 rfl) rfl (SO.o ho) (Nat.lt_of_le_of_lt (Nat.le_add_right _ _) (SO.lt ho)) rfl inX3 (by decide) rfl wF_X3_18 (rP hP (SO.p3 ho)) ?_
  refine T.iload_n (pc' := 5) (q_d dX3_turnRoad_0 2 rfl) rfl rfl rfl ?_
  refine T.dup2 (pc' := 6) (q_d dX3_turnRoad_0 3 rfl) rfl rfl rfl ?_
  refine T.iald (pc' := 7) (q_d dX3_turnRoad_0 4 rfl) rfl (SO.a3 ho) (Nat.lt_of_le_of_lt (by omega) (SO.lt ho)) rfl (by omega) (by decide) rfl ?_
  refine T.iconst (pc' := 8) (v := nI 1) (q_d dX3_turnRoad_0 5 rfl) rfl (by decide) ?_
  refine T.iload_n (pc' := 9) (q_d dX3_turnRoad_0 6 rfl) rfl rfl rfl ?_
  refine T.ishl (pc' := 10) (q_d dX3_turnRoad_0 7 rfl) rfl (nN_shl _ (by omega)) ?_
  refine T.ixor (pc' := 11) (q_d dX3_turnRoad_0 8 rfl) rfl (nN_xor _ _) ?_
  refine T.iast (pc' := 12) (q_d dX3_turnRoad_0 9 rfl) rfl (SO.a3 ho) (Nat.lt_of_le_of_lt (by omega) (SO.lt ho)) rfl (by omega) (by decide) ?_
  refine T.aload_n (pc' := 13) (q_d dX3_turnRoad_0 10 rfl) rfl rfl rfl ?_
  refine T.getR (pc' := 16) (ci := 3) (k0 := 3) (q_d dX3_turnRoad_0 11 rfl) rfl (SO.o ho) (Nat.lt_of_le_of_lt (Nat.le_add_right _ _) (SO.lt ho)) rfl inX3 (by decide) rfl wF_X3_18 (rP hP (SO.p3 ho)) ?_
  refine T.iload_n (pc' := 17) (q_d dX3_turnRoad_0 12 rfl) rfl rfl rfl ?_
  refine T.dup2 (pc' := 18) (q_d dX3_turnRoad_0 13 rfl) rfl rfl rfl ?_
  refine T.iald (pc' := 19) (q_d dX3_turnRoad_0 14 rfl) rfl (SO.a3 ho) (Nat.lt_of_le_of_lt (by omega) (SO.lt ho)) rfl (by omega) (by decide) (qI_ne (Or.inr (Ne.symm hij))) ?_
  refine T.iconst (pc' := 20) (v := nI 1) (q_d dX3_turnRoad_0 15 rfl) rfl (by decide) ?_
  refine T.iload_n (pc' := 21) (q_d dX3_turnRoad_0 16 rfl) rfl rfl rfl ?_
  refine T.ishl (pc' := 22) (q_d dX3_turnRoad_0 17 rfl) rfl (nN_shl _ (by omega)) ?_
  refine T.ixor (pc' := 23) (q_d dX3_turnRoad_0 18 rfl) rfl (nN_xor _ _) ?_
  refine T.iast (pc' := 24) (q_d dX3_turnRoad_0 19 rfl) rfl (SO.a3 ho) (Nat.lt_of_le_of_lt (by omega) (SO.lt ho)) rfl (by omega) (by decide) ?_
  refine T.vret (q_d dX3_turnRoad_0 20 rfl) rfl rfl rfl ?_
  exact ⟨rfl, rfl⟩
theorem c_addRoad (ho : SO o) (hP : M.2.2 = pX pa sw) {i j : Nat} (hi : i < 7) (hj : j < 7) (hij : i ≠ j) : Ct l hdX kX mX3_addRoad [.ref o, .int (nI i), .int (nI j)] M (fun v M' => v = none ∧ M' = qI (qI (qI (qI M (o + 2) i (M.1 (o + 2) i ||| 1 <<< j)) (o + 2) j (M.1 (o + 2) j ||| 1 <<< i)) (o + 3) i (M.1 (o + 3) i ^^^ 1 <<< j)) (o + 3) j (M.1 (o + 3) j ^^^ 1 <<< i)) := by
  refine Ct.of [some (.ref o), some (.int (nI i)), some (.int (nI j))] (by decide +kernel) (fun h => absurd h (by decide)) (Nat.le_of_ble_eq_true rfl) rfl ?_
  refine T.aload_n (pc' := 1) (q_d dX3_addRoad_0 0 rfl) rfl rfl rfl ?_
  refine T.getR (pc' := 4) (ci := 3) (k0 := 2) (q_d dX3_addRoad_0 1 rfl) rfl (SO.o ho) (Nat.lt_of_le_of_lt (Nat.le_add_right _ _) (SO.lt ho)) rfl inX3 (by decide) rfl wF_X3_15 (rP hP (SO.p2 ho)) ?_
  refine T.iload_n (pc' := 5) (q_d dX3_addRoad_0 2 rfl) rfl rfl rfl ?_
  refine T.dup2 (pc' := 6) (q_d dX3_addRoad_0 3 rfl) rfl rfl rfl ?_
  refine T.iald (pc' := 7) (q_d dX3_addRoad_0 4 rfl) rfl (SO.a2 ho) (Nat.lt_of_le_of_lt (by omega) (SO.lt ho)) rfl (by omega) (by decide) rfl ?_
  refine T.iconst (pc' := 8) (v := nI 1) (q_d dX3_addRoad_0 5 rfl) rfl (by decide) ?_
  refine T.iload_n (pc' := 9) (q_d dX3_addRoad_0 6 rfl) rfl rfl rfl ?_
  refine T.ishl (pc' := 10) (q_d dX3_addRoad_0 7 rfl) rfl (nN_shl _ (by omega)) ?_
  refine T.ior (pc' := 11) (q_d dX3_addRoad_0 8 rfl) rfl (nN_or _ _) ?_
  refine T.iast (pc' := 12) (q_d dX3_addRoad_0 9 rfl) rfl (SO.a2 ho) (Nat.lt_of_le_of_lt (by omega) (SO.lt ho)) rfl (by omega) (by decide) ?_
  refine T.aload_n (pc' := 13) (q_d dX3_addRoad_0 10 rfl) rfl rfl rfl ?_
  refine T.getR (pc' := 16) (ci := 3) (k0 := 2) (q_d dX3_addRoad_0 11 rfl) rfl (SO.o ho) (Nat.lt_of_le_of_lt (Nat.le_add_right _ _) (SO.lt ho)) rfl inX3 (by decide) rfl wF_X3_15 (rP hP (SO.p2 ho)) ?_
  refine T.iload_n (pc' := 17) (q_d dX3_addRoad_0 12 rfl) rfl rfl rfl ?_
  refine T.dup2 (pc' := 18) (q_d dX3_addRoad_0 13 rfl) rfl rfl rfl ?_
  refine T.iald (pc' := 19) (q_d dX3_addRoad_0 14 rfl) rfl (SO.a2 ho) (Nat.lt_of_le_of_lt (by omega) (SO.lt ho)) rfl (by omega) (by decide) (qI_ne (Or.inr (Ne.symm hij))) ?_
  refine T.iconst (pc' := 20) (v := nI 1) (q_d dX3_addRoad_0 15 rfl) rfl (by decide) ?_
  refine T.iload_n (pc' := 21) (q_d dX3_addRoad_0 16 rfl) rfl rfl rfl ?_
  refine T.ishl (pc' := 22) (q_d dX3_addRoad_0 17 rfl) rfl (nN_shl _ (by omega)) ?_
  refine T.ior (pc' := 23) (q_d dX3_addRoad_0 18 rfl) rfl (nN_or _ _) ?_
  refine T.iast (pc' := 24) (q_d dX3_addRoad_0 19 rfl) rfl (SO.a2 ho) (Nat.lt_of_le_of_lt (by omega) (SO.lt ho)) rfl (by omega) (by decide) ?_
  refine T.aload_n (pc' := 25) (q_d dX3_addRoad_0 20 rfl) rfl rfl rfl ?_
  refine T.iload_n (pc' := 26) (q_d dX3_addRoad_0 21 rfl) rfl rfl rfl ?_
  refine T.iload_n (pc' := 27) (q_d dX3_addRoad_0 22 rfl) rfl rfl rfl ?_
  refine T.callV (pc' := 30) (ci := 3) (q_d dX3_addRoad_0 23 rfl) rfl uX3_turnRoad wM_X3_43 (c_turnRoad (M := qI (qI M (o + 2) i (M.1 (o + 2) i ||| 1 <<< j)) (o + 2) j (M.1 (o + 2) j ||| 1 <<< i)) ho hP hi hj hij) rfl rfl (Nat.lt_of_le_of_lt (Nat.le_add_right _ _) (SO.lt ho)) (SO.o ho) rfl (by decide) (Nat.le_of_ble_eq_true rfl) rfl rfl (fun _ => rfl) ?_
  rintro _ _ ⟨rfl, rfl⟩
  dsimp only [Option.toList, List.cons_append, List.nil_append, List.append_nil]
  refine T.vret (q_d dX3_addRoad_0 24 rfl) rfl rfl rfl ?_
  refine ⟨rfl, ?_⟩
  rw [qI_ne (Or.inl (by omega)), qI_ne (Or.inl (by omega)), qI_ne (Or.inl (by omega)), qI_ne (Or.inl (by omega))]
theorem c_addPlace (ho : SO o) (hP : M.2.2 = pX pa sw) (hs : RS M o s) (hw : WF b s) (h7 : s 0 < 7) {c : Nat} : Ct l hdX kX mX3_addPlace [.ref o, .int (nI c)] M (fun v M' => v = some (.int (nI (s 0))) ∧ M' = qI (qI M (o + 1) (s 0) c) o 0 (s 0 + 1)) := by
  refine Ct.of [some (.ref o), some (.int (nI c))] (by decide +kernel) (fun h => absurd h (by decide)) (Nat.le_of_ble_eq_true rfl) rfl ?_
  have h0 := hs.1
  refine T.aload_n (pc' := 1) (q_d dX3_addPlace_0 0 rfl) rfl rfl rfl ?_
  refine T.getR (pc' := 4) (ci := 3) (k0 := 1) (q_d dX3_addPlace_0 1 rfl) rfl (SO.o ho) (Nat.lt_of_le_of_lt (Nat.le_add_right _ _) (SO.lt ho)) rfl inX3 (by decide) rfl wF_X3_9 (rP hP (SO.p1 ho)) ?_
  refine T.aload_n (pc' := 5) (q_d dX3_addPlace_0 2 rfl) rfl rfl rfl ?_
  refine T.getI (pc' := 8) (ci := 3) (k0 := 0) (q_d dX3_addPlace_0 3 rfl) rfl (SO.o ho) (Nat.lt_of_le_of_lt (Nat.le_add_right _ _) (SO.lt ho)) rfl inX3 (by decide) rfl wF_X3_33 h0 ?_
  refine T.iload_n (pc' := 9) (q_d dX3_addPlace_0 4 rfl) rfl rfl rfl ?_
  refine T.iast (pc' := 10) (q_d dX3_addPlace_0 5 rfl) rfl (SO.a1 ho) (Nat.lt_of_le_of_lt (by omega) (SO.lt ho)) rfl (by omega) (by decide) ?_
  refine T.aload_n (pc' := 11) (q_d dX3_addPlace_0 6 rfl) rfl rfl rfl ?_
  refine T.dup (pc' := 12) (q_d dX3_addPlace_0 7 rfl) rfl rfl ?_
  refine T.getI (pc' := 15) (ci := 3) (k0 := 0) (q_d dX3_addPlace_0 8 rfl) rfl (SO.o ho) (Nat.lt_of_le_of_lt (Nat.le_add_right _ _) (SO.lt ho)) rfl inX3 (by decide) rfl wF_X3_33 ((qI_ne (Or.inl (by omega))).trans h0) ?_
  refine T.iconst (pc' := 16) (v := nI 1) (q_d dX3_addPlace_0 9 rfl) rfl (by decide) ?_
  refine T.iadd (pc' := 17) (q_d dX3_addPlace_0 10 rfl) rfl (nI_add _ _) ?_
  refine T.putI (pc' := 20) (ci := 3) (k0 := 0) (q_d dX3_addPlace_0 11 rfl) rfl (SO.o ho) (Nat.lt_of_le_of_lt (Nat.le_add_right _ _) (SO.lt ho)) rfl inX3 tyX3 tyX3_ok nmX3 (by decide) rfl wF_X3_33 rfl rfl rfl ?_
  refine T.aload_n (pc' := 21) (q_d dX3_addPlace_0 12 rfl) rfl rfl rfl ?_
  refine T.getI (pc' := 24) (ci := 3) (k0 := 0) (q_d dX3_addPlace_0 13 rfl) rfl (SO.o ho) (Nat.lt_of_le_of_lt (Nat.le_add_right _ _) (SO.lt ho)) rfl inX3 (by decide) rfl wF_X3_33 qI_eq ?_
  refine T.iconst (pc' := 25) (v := nI 1) (q_d dX3_addPlace_0 14 rfl) rfl (by decide) ?_
  refine T.isub (pc' := 26) (q_d dX3_addPlace_0 15 rfl) rfl (nN_sub (by omega)) ?_
  refine T.iret (q_d dX3_addPlace_0 16 rfl) rfl rfl rfl ?_
  exact ⟨by rw [Nat.add_sub_cancel], rfl⟩
theorem c_takeFrom {o2 : Nat} (ho : SO o) (ho2 : SO o2) (hse : o + 8 ≤ o2 ∨ o2 + 8 ≤ o) (hP : M.2.2 = pX pa sw) (hs : RS M o2 s) : Ct l hdX kX mX3_takeFrom [.ref o, .ref o2] M (fun v M' => v = none ∧ RS M' o s ∧ Fr M M' o) := by
  refine Ct.of [some (.ref o), some (.ref o2), none] (by decide +kernel) (fun h => absurd h (by decide)) (Nat.le_of_ble_eq_true rfl) rfl ?_
  have loop3 : ∀ d i (M' : qM), i + d = 8 → Fr M M' o → (M'.1 o 0 = M.1 o2 0 ∧ M'.1 o 5 = M.1 o2 5 ∧ M'.1 o 6 = M.1 o2 6) → (∀ j, j < 7 → M'.1 (o + 1) j = M.1 (o2 + 1) j ∧ M'.1 (o + 2) j = M.1 (o2 + 2) j ∧ M'.1 (o + 3) j = M.1 (o2 + 3) j) → (∀ j, j < 3 → M'.1 (o + 4) j = M.1 (o2 + 4) j) → (∀ j, j < i → M'.1 (o + 5) j = M.1 (o2 + 5) j ∧ M'.1 (o + 6) j = M.1 (o2 + 6) j ∧ M'.1 (o + 7) j = M.1 (o2 + 7) j) →
      T l hdX kX mX3_takeFrom (fun v M' => v = none ∧ RS M' o s ∧ Fr M M' o) 0 0 101 [some (.ref o), some (.ref o2), some (.int (nI i))] [] M' := by
    intro d
    induction d with
    | zero =>
      intro i M' hi hF hq h1 h4 h5
      have hP' : M'.2.2 = pX pa sw := by rw [hF.1]; exact hP
      have hi8 : i = 8 := by omega
      subst hi8
      refine T.iload_n (pc' := 102) (q_d dX3_takeFrom_1 20 rfl) rfl rfl rfl ?_
      refine T.bipush (pc' := 104) (v := nI 8) (q_d dX3_takeFrom_1 21 rfl) rfl (by decide) ?_
      refine T.icmp_geN (tgt := 149) (pc' := 107) (q_d dX3_takeFrom_1 22 rfl) rfl (by decide) (by omega) (by omega) (fun h104 => ?_) (fun h104 => ?_)
      · refine T.vret (q_d dX3_takeFrom_2 9 rfl) rfl rfl rfl ?_
        obtain ⟨e0, e1, e2, e3, e4, e5, e6, e7⟩ := hs
        refine ⟨rfl, ⟨hq.1.trans e0, hq.2.1.trans e1, hq.2.2.trans e2, fun j hj => (h1 j hj).1.trans (e3 j hj), fun j hj => (h1 j hj).2.1.trans (e4 j hj), fun j hj => (h1 j hj).2.2.trans (e5 j hj), fun j hj => (h4 j hj).trans (e6 j hj), fun k hk hk2 => ?_⟩, hF⟩
        have h9 := h5 ((s 2 - 1 - k) % 8) (Nat.mod_lt _ (by decide))
        have h8 := e7 k hk hk2
        exact ⟨h9.1.trans h8.1, h9.2.1.trans h8.2.1, h9.2.2.trans h8.2.2⟩
      · exact absurd h104 (by omega)
    | succ d ih =>
      intro i M' hi hF hq h1 h4 h5
      have hP' : M'.2.2 = pX pa sw := by rw [hF.1]; exact hP
      have r5 : M'.1 (o2 + 5) = M.1 (o2 + 5) := hF.2 _ (by omega)
      have r6 : M'.1 (o2 + 6) = M.1 (o2 + 6) := hF.2 _ (by omega)
      have r7 : M'.1 (o2 + 7) = M.1 (o2 + 7) := hF.2 _ (by omega)
      refine T.iload_n (pc' := 102) (q_d dX3_takeFrom_1 20 rfl) rfl rfl rfl ?_
      refine T.bipush (pc' := 104) (v := nI 8) (q_d dX3_takeFrom_1 21 rfl) rfl (by decide) ?_
      refine T.icmp_geN (tgt := 149) (pc' := 107) (q_d dX3_takeFrom_1 22 rfl) rfl (by decide) (by omega) (by omega) (fun h104 => ?_) (fun h104 => ?_)
      · exact absurd h104 (by omega)
      · refine T.aload_n (pc' := 108) (q_d dX3_takeFrom_1 23 rfl) rfl rfl rfl ?_
        refine T.getR (pc' := 111) (ci := 3) (k0 := 7) (q_d dX3_takeFrom_1 24 rfl) rfl (SO.o ho) (Nat.lt_of_le_of_lt (Nat.le_add_right _ _) (SO.lt ho)) rfl inX3 (by decide) rfl wF_X3_24 (rP hP' (SO.p7 ho)) ?_
        refine T.iload_n (pc' := 112) (q_d dX3_takeFrom_1 25 rfl) rfl rfl rfl ?_
        refine T.aload_n (pc' := 113) (q_d dX3_takeFrom_1 26 rfl) rfl rfl rfl ?_
        refine T.getR (pc' := 116) (ci := 3) (k0 := 7) (q_d dX3_takeFrom_1 27 rfl) rfl (SO.o ho2) (Nat.lt_of_le_of_lt (Nat.le_add_right _ _) (SO.lt ho2)) rfl inX3 (by decide) rfl wF_X3_24 (rP hP' (SO.p7 ho2)) ?_
        refine T.iload_n (pc' := 117) (q_d dX3_takeFrom_1 28 rfl) rfl rfl rfl ?_
        refine T.iald (pc' := 118) (q_d dX3_takeFrom_1 29 rfl) rfl (SO.a5 ho2) (Nat.lt_of_le_of_lt (by omega) (SO.lt ho2)) rfl (by omega) (by decide) (by rw [r5]) ?_
        refine T.iast (pc' := 119) (q_d dX3_takeFrom_1 30 rfl) rfl (SO.a5 ho) (Nat.lt_of_le_of_lt (by omega) (SO.lt ho)) rfl (by omega) (by decide) ?_
        refine T.aload_n (pc' := 120) (q_d dX3_takeFrom_1 31 rfl) rfl rfl rfl ?_
        refine T.getR (pc' := 123) (ci := 3) (k0 := 8) (q_d dX3_takeFrom_1 32 rfl) rfl (SO.o ho) (Nat.lt_of_le_of_lt (Nat.le_add_right _ _) (SO.lt ho)) rfl inX3 (by decide) rfl wF_X3_27 (rP hP' (SO.p8 ho)) ?_
        refine T.iload_n (pc' := 124) (q_d dX3_takeFrom_1 33 rfl) rfl rfl rfl ?_
        refine T.aload_n (pc' := 125) (q_d dX3_takeFrom_1 34 rfl) rfl rfl rfl ?_
        refine T.getR (pc' := 128) (ci := 3) (k0 := 8) (q_d dX3_takeFrom_1 35 rfl) rfl (SO.o ho2) (Nat.lt_of_le_of_lt (Nat.le_add_right _ _) (SO.lt ho2)) rfl inX3 (by decide) rfl wF_X3_27 (rP hP' (SO.p8 ho2)) ?_
        refine T.iload_n (pc' := 129) (q_d dX3_takeFrom_1 36 rfl) rfl rfl rfl ?_
        refine T.iald (pc' := 130) (q_d dX3_takeFrom_1 37 rfl) rfl (SO.a6 ho2) (Nat.lt_of_le_of_lt (by omega) (SO.lt ho2)) rfl (by omega) (by decide) (by rw [qI_ne (Or.inl (by omega)), r6]) ?_
        refine T.iast (pc' := 131) (q_d dX3_takeFrom_1 38 rfl) rfl (SO.a6 ho) (Nat.lt_of_le_of_lt (by omega) (SO.lt ho)) rfl (by omega) (by decide) ?_
        refine T.aload_n (pc' := 132) (q_d dX3_takeFrom_1 39 rfl) rfl rfl rfl ?_
        refine T.getR (pc' := 135) (ci := 3) (k0 := 9) (q_d dX3_takeFrom_2 0 rfl) rfl (SO.o ho) (Nat.lt_of_le_of_lt (Nat.le_add_right _ _) (SO.lt ho)) rfl inX3 (by decide) rfl wF_X3_30 (rP hP' (SO.p9 ho)) ?_
        refine T.iload_n (pc' := 136) (q_d dX3_takeFrom_2 1 rfl) rfl rfl rfl ?_
        refine T.aload_n (pc' := 137) (q_d dX3_takeFrom_2 2 rfl) rfl rfl rfl ?_
        refine T.getR (pc' := 140) (ci := 3) (k0 := 9) (q_d dX3_takeFrom_2 3 rfl) rfl (SO.o ho2) (Nat.lt_of_le_of_lt (Nat.le_add_right _ _) (SO.lt ho2)) rfl inX3 (by decide) rfl wF_X3_30 (rP hP' (SO.p9 ho2)) ?_
        refine T.iload_n (pc' := 141) (q_d dX3_takeFrom_2 4 rfl) rfl rfl rfl ?_
        refine T.iald (pc' := 142) (q_d dX3_takeFrom_2 5 rfl) rfl (SO.a7 ho2) (Nat.lt_of_le_of_lt (by omega) (SO.lt ho2)) rfl (by omega) (by decide) (by rw [qI_ne (Or.inl (by omega)), qI_ne (Or.inl (by omega)), r7]) ?_
        refine T.iast (pc' := 143) (q_d dX3_takeFrom_2 6 rfl) rfl (SO.a7 ho) (Nat.lt_of_le_of_lt (by omega) (SO.lt ho)) rfl (by omega) (by decide) ?_
        refine T.iinc (pc' := 146) (q_d dX3_takeFrom_2 7 rfl) rfl rfl (nN_p _ 1) (by decide) rfl rfl ?_
        refine T.goto (tgt := 101) (q_d dX3_takeFrom_2 8 rfl) (by decide) ?_
        refine ih (i + 1) _ (by omega) ⟨hF.1, fun a ha => ?_⟩ ?_ (fun j hj => ?_) (fun j hj => ?_) (fun j hj => ?_)
        · funext j; rw [qI_ne (Or.inl (by omega)), qI_ne (Or.inl (by omega)), qI_ne (Or.inl (by omega)), hF.2 a ha]
        · rw [qI_ne (Or.inl (by omega)), qI_ne (Or.inl (by omega)), qI_ne (Or.inl (by omega)), qI_ne (Or.inl (by omega)), qI_ne (Or.inl (by omega)), qI_ne (Or.inl (by omega)), qI_ne (Or.inl (by omega)), qI_ne (Or.inl (by omega)), qI_ne (Or.inl (by omega))]; exact hq
        · rw [qI_ne (Or.inl (by omega)), qI_ne (Or.inl (by omega)), qI_ne (Or.inl (by omega)), qI_ne (Or.inl (by omega)), qI_ne (Or.inl (by omega)), qI_ne (Or.inl (by omega)), qI_ne (Or.inl (by omega)), qI_ne (Or.inl (by omega)), qI_ne (Or.inl (by omega))]; exact h1 j hj
        · rw [qI_ne (Or.inl (by omega)), qI_ne (Or.inl (by omega)), qI_ne (Or.inl (by omega))]; exact h4 j hj
        · by_cases e : j = i
          · subst e
            refine ⟨?_, ?_, ?_⟩
            · rw [qI_ne (Or.inl (by omega)), qI_ne (Or.inl (by omega)), qI_eq]
            · rw [qI_ne (Or.inl (by omega)), qI_eq]
            · rw [qI_eq]
          · rw [qI_ne (Or.inl (by omega)), qI_ne (Or.inl (by omega)), qI_ne (Or.inr e), qI_ne (Or.inl (by omega)), qI_ne (Or.inr e), qI_ne (Or.inl (by omega)), qI_ne (Or.inr e), qI_ne (Or.inl (by omega)), qI_ne (Or.inl (by omega))]; exact h5 j (by omega)
  have loop2 : ∀ d i (M' : qM), i + d = 3 → Fr M M' o → (M'.1 o 0 = M.1 o2 0 ∧ M'.1 o 5 = M.1 o2 5 ∧ M'.1 o 6 = M.1 o2 6) → (∀ j, j < 7 → M'.1 (o + 1) j = M.1 (o2 + 1) j ∧ M'.1 (o + 2) j = M.1 (o2 + 2) j ∧ M'.1 (o + 3) j = M.1 (o2 + 3) j) → (∀ j, j < i → M'.1 (o + 4) j = M.1 (o2 + 4) j) →
      T l hdX kX mX3_takeFrom (fun v M' => v = none ∧ RS M' o s ∧ Fr M M' o) 0 0 76 [some (.ref o), some (.ref o2), some (.int (nI i))] [] M' := by
    intro d
    induction d with
    | zero =>
      intro i M' hi hF hq h1 h4
      have hP' : M'.2.2 = pX pa sw := by rw [hF.1]; exact hP
      refine T.iload_n (pc' := 77) (q_d dX3_takeFrom_1 5 rfl) rfl rfl rfl ?_
      refine T.iconst (pc' := 78) (v := nI 3) (q_d dX3_takeFrom_1 6 rfl) rfl (by decide) ?_
      refine T.icmp_geN (tgt := 99) (pc' := 81) (q_d dX3_takeFrom_1 7 rfl) rfl (by decide) (by omega) (by omega) (fun h78 => ?_) (fun h78 => ?_)
      · refine T.iconst (pc' := 100) (v := nI 0) (q_d dX3_takeFrom_1 18 rfl) rfl (by decide) ?_
        refine T.istore_n (pc' := 101) (q_d dX3_takeFrom_1 19 rfl) rfl rfl (by decide) rfl rfl ?_
        exact loop3 8 0 _ (by omega) hF hq h1 (fun j hj => h4 j (by omega)) (fun j hj => absurd hj (by omega))
      · exact absurd h78 (by omega)
    | succ d ih =>
      intro i M' hi hF hq h1 h4
      have hP' : M'.2.2 = pX pa sw := by rw [hF.1]; exact hP
      have r4 : M'.1 (o2 + 4) = M.1 (o2 + 4) := hF.2 _ (by omega)
      refine T.iload_n (pc' := 77) (q_d dX3_takeFrom_1 5 rfl) rfl rfl rfl ?_
      refine T.iconst (pc' := 78) (v := nI 3) (q_d dX3_takeFrom_1 6 rfl) rfl (by decide) ?_
      refine T.icmp_geN (tgt := 99) (pc' := 81) (q_d dX3_takeFrom_1 7 rfl) rfl (by decide) (by omega) (by omega) (fun h78 => ?_) (fun h78 => ?_)
      · exact absurd h78 (by omega)
      · refine T.aload_n (pc' := 82) (q_d dX3_takeFrom_1 8 rfl) rfl rfl rfl ?_
        refine T.getR (pc' := 85) (ci := 3) (k0 := 4) (q_d dX3_takeFrom_1 9 rfl) rfl (SO.o ho) (Nat.lt_of_le_of_lt (Nat.le_add_right _ _) (SO.lt ho)) rfl inX3 (by decide) rfl wF_X3_21 (rP hP' (SO.p4 ho)) ?_
        refine T.iload_n (pc' := 86) (q_d dX3_takeFrom_1 10 rfl) rfl rfl rfl ?_
        refine T.aload_n (pc' := 87) (q_d dX3_takeFrom_1 11 rfl) rfl rfl rfl ?_
        refine T.getR (pc' := 90) (ci := 3) (k0 := 4) (q_d dX3_takeFrom_1 12 rfl) rfl (SO.o ho2) (Nat.lt_of_le_of_lt (Nat.le_add_right _ _) (SO.lt ho2)) rfl inX3 (by decide) rfl wF_X3_21 (rP hP' (SO.p4 ho2)) ?_
        refine T.iload_n (pc' := 91) (q_d dX3_takeFrom_1 13 rfl) rfl rfl rfl ?_
        refine T.iald (pc' := 92) (q_d dX3_takeFrom_1 14 rfl) rfl (SO.a4 ho2) (Nat.lt_of_le_of_lt (by omega) (SO.lt ho2)) rfl (by omega) (by decide) (by rw [r4]) ?_
        refine T.iast (pc' := 93) (q_d dX3_takeFrom_1 15 rfl) rfl (SO.a4 ho) (Nat.lt_of_le_of_lt (by omega) (SO.lt ho)) rfl (by omega) (by decide) ?_
        refine T.iinc (pc' := 96) (q_d dX3_takeFrom_1 16 rfl) rfl rfl (nN_p _ 1) (by decide) rfl rfl ?_
        refine T.goto (tgt := 76) (q_d dX3_takeFrom_1 17 rfl) (by decide) ?_
        refine ih (i + 1) _ (by omega) ⟨hF.1, fun a ha => ?_⟩ ?_ (fun j hj => ?_) (fun j hj => ?_)
        · funext j; rw [qI_ne (Or.inl (by omega)), hF.2 a ha]
        · rw [qI_ne (Or.inl (by omega)), qI_ne (Or.inl (by omega)), qI_ne (Or.inl (by omega))]; exact hq
        · rw [qI_ne (Or.inl (by omega)), qI_ne (Or.inl (by omega)), qI_ne (Or.inl (by omega))]; exact h1 j hj
        · by_cases e : j = i
          · subst e
            rw [qI_eq]
          · rw [qI_ne (Or.inr e)]; exact h4 j (by omega)
  have loop1 : ∀ d i (M' : qM), i + d = 7 → Fr M M' o → (M'.1 o 0 = M.1 o2 0 ∧ M'.1 o 5 = M.1 o2 5 ∧ M'.1 o 6 = M.1 o2 6) → (∀ j, j < i → M'.1 (o + 1) j = M.1 (o2 + 1) j ∧ M'.1 (o + 2) j = M.1 (o2 + 2) j ∧ M'.1 (o + 3) j = M.1 (o2 + 3) j) →
      T l hdX kX mX3_takeFrom (fun v M' => v = none ∧ RS M' o s ∧ Fr M M' o) 0 0 26 [some (.ref o), some (.ref o2), some (.int (nI i))] [] M' := by
    intro d
    induction d with
    | zero =>
      intro i M' hi hF hq h1
      have hP' : M'.2.2 = pX pa sw := by rw [hF.1]; exact hP
      refine T.iload_n (pc' := 27) (q_d dX3_takeFrom_0 14 rfl) rfl rfl rfl ?_
      refine T.bipush (pc' := 29) (v := nI 7) (q_d dX3_takeFrom_0 15 rfl) rfl (by decide) ?_
      refine T.icmp_geN (tgt := 74) (pc' := 32) (q_d dX3_takeFrom_0 16 rfl) rfl (by decide) (by omega) (by omega) (fun h29 => ?_) (fun h29 => ?_)
      · refine T.iconst (pc' := 75) (v := nI 0) (q_d dX3_takeFrom_1 3 rfl) rfl (by decide) ?_
        refine T.istore_n (pc' := 76) (q_d dX3_takeFrom_1 4 rfl) rfl rfl (by decide) rfl rfl ?_
        exact loop2 3 0 _ (by omega) hF hq (fun j hj => h1 j (by omega)) (fun j hj => absurd hj (by omega))
      · exact absurd h29 (by omega)
    | succ d ih =>
      intro i M' hi hF hq h1
      have hP' : M'.2.2 = pX pa sw := by rw [hF.1]; exact hP
      have r1 : M'.1 (o2 + 1) = M.1 (o2 + 1) := hF.2 _ (by omega)
      have r2 : M'.1 (o2 + 2) = M.1 (o2 + 2) := hF.2 _ (by omega)
      have r3 : M'.1 (o2 + 3) = M.1 (o2 + 3) := hF.2 _ (by omega)
      refine T.iload_n (pc' := 27) (q_d dX3_takeFrom_0 14 rfl) rfl rfl rfl ?_
      refine T.bipush (pc' := 29) (v := nI 7) (q_d dX3_takeFrom_0 15 rfl) rfl (by decide) ?_
      refine T.icmp_geN (tgt := 74) (pc' := 32) (q_d dX3_takeFrom_0 16 rfl) rfl (by decide) (by omega) (by omega) (fun h29 => ?_) (fun h29 => ?_)
      · exact absurd h29 (by omega)
      · refine T.aload_n (pc' := 33) (q_d dX3_takeFrom_0 17 rfl) rfl rfl rfl ?_
        refine T.getR (pc' := 36) (ci := 3) (k0 := 1) (q_d dX3_takeFrom_0 18 rfl) rfl (SO.o ho) (Nat.lt_of_le_of_lt (Nat.le_add_right _ _) (SO.lt ho)) rfl inX3 (by decide) rfl wF_X3_9 (rP hP' (SO.p1 ho)) ?_
        refine T.iload_n (pc' := 37) (q_d dX3_takeFrom_0 19 rfl) rfl rfl rfl ?_
        refine T.aload_n (pc' := 38) (q_d dX3_takeFrom_0 20 rfl) rfl rfl rfl ?_
        refine T.getR (pc' := 41) (ci := 3) (k0 := 1) (q_d dX3_takeFrom_0 21 rfl) rfl (SO.o ho2) (Nat.lt_of_le_of_lt (Nat.le_add_right _ _) (SO.lt ho2)) rfl inX3 (by decide) rfl wF_X3_9 (rP hP' (SO.p1 ho2)) ?_
        refine T.iload_n (pc' := 42) (q_d dX3_takeFrom_0 22 rfl) rfl rfl rfl ?_
        refine T.iald (pc' := 43) (q_d dX3_takeFrom_0 23 rfl) rfl (SO.a1 ho2) (Nat.lt_of_le_of_lt (by omega) (SO.lt ho2)) rfl (by omega) (by decide) (by rw [r1]) ?_
        refine T.iast (pc' := 44) (q_d dX3_takeFrom_0 24 rfl) rfl (SO.a1 ho) (Nat.lt_of_le_of_lt (by omega) (SO.lt ho)) rfl (by omega) (by decide) ?_
        refine T.aload_n (pc' := 45) (q_d dX3_takeFrom_0 25 rfl) rfl rfl rfl ?_
        refine T.getR (pc' := 48) (ci := 3) (k0 := 2) (q_d dX3_takeFrom_0 26 rfl) rfl (SO.o ho) (Nat.lt_of_le_of_lt (Nat.le_add_right _ _) (SO.lt ho)) rfl inX3 (by decide) rfl wF_X3_15 (rP hP' (SO.p2 ho)) ?_
        refine T.iload_n (pc' := 49) (q_d dX3_takeFrom_0 27 rfl) rfl rfl rfl ?_
        refine T.aload_n (pc' := 50) (q_d dX3_takeFrom_0 28 rfl) rfl rfl rfl ?_
        refine T.getR (pc' := 53) (ci := 3) (k0 := 2) (q_d dX3_takeFrom_0 29 rfl) rfl (SO.o ho2) (Nat.lt_of_le_of_lt (Nat.le_add_right _ _) (SO.lt ho2)) rfl inX3 (by decide) rfl wF_X3_15 (rP hP' (SO.p2 ho2)) ?_
        refine T.iload_n (pc' := 54) (q_d dX3_takeFrom_0 30 rfl) rfl rfl rfl ?_
        refine T.iald (pc' := 55) (q_d dX3_takeFrom_0 31 rfl) rfl (SO.a2 ho2) (Nat.lt_of_le_of_lt (by omega) (SO.lt ho2)) rfl (by omega) (by decide) (by rw [qI_ne (Or.inl (by omega)), r2]) ?_
        refine T.iast (pc' := 56) (q_d dX3_takeFrom_0 32 rfl) rfl (SO.a2 ho) (Nat.lt_of_le_of_lt (by omega) (SO.lt ho)) rfl (by omega) (by decide) ?_
        refine T.aload_n (pc' := 57) (q_d dX3_takeFrom_0 33 rfl) rfl rfl rfl ?_
        refine T.getR (pc' := 60) (ci := 3) (k0 := 3) (q_d dX3_takeFrom_0 34 rfl) rfl (SO.o ho) (Nat.lt_of_le_of_lt (Nat.le_add_right _ _) (SO.lt ho)) rfl inX3 (by decide) rfl wF_X3_18 (rP hP' (SO.p3 ho)) ?_
        refine T.iload_n (pc' := 61) (q_d dX3_takeFrom_0 35 rfl) rfl rfl rfl ?_
        refine T.aload_n (pc' := 62) (q_d dX3_takeFrom_0 36 rfl) rfl rfl rfl ?_
        refine T.getR (pc' := 65) (ci := 3) (k0 := 3) (q_d dX3_takeFrom_0 37 rfl) rfl (SO.o ho2) (Nat.lt_of_le_of_lt (Nat.le_add_right _ _) (SO.lt ho2)) rfl inX3 (by decide) rfl wF_X3_18 (rP hP' (SO.p3 ho2)) ?_
        refine T.iload_n (pc' := 66) (q_d dX3_takeFrom_0 38 rfl) rfl rfl rfl ?_
        refine T.iald (pc' := 67) (q_d dX3_takeFrom_0 39 rfl) rfl (SO.a3 ho2) (Nat.lt_of_le_of_lt (by omega) (SO.lt ho2)) rfl (by omega) (by decide) (by rw [qI_ne (Or.inl (by omega)), qI_ne (Or.inl (by omega)), r3]) ?_
        refine T.iast (pc' := 68) (q_d dX3_takeFrom_1 0 rfl) rfl (SO.a3 ho) (Nat.lt_of_le_of_lt (by omega) (SO.lt ho)) rfl (by omega) (by decide) ?_
        refine T.iinc (pc' := 71) (q_d dX3_takeFrom_1 1 rfl) rfl rfl (nN_p _ 1) (by decide) rfl rfl ?_
        refine T.goto (tgt := 26) (q_d dX3_takeFrom_1 2 rfl) (by decide) ?_
        refine ih (i + 1) _ (by omega) ⟨hF.1, fun a ha => ?_⟩ ?_ (fun j hj => ?_)
        · funext j; rw [qI_ne (Or.inl (by omega)), qI_ne (Or.inl (by omega)), qI_ne (Or.inl (by omega)), hF.2 a ha]
        · rw [qI_ne (Or.inl (by omega)), qI_ne (Or.inl (by omega)), qI_ne (Or.inl (by omega)), qI_ne (Or.inl (by omega)), qI_ne (Or.inl (by omega)), qI_ne (Or.inl (by omega)), qI_ne (Or.inl (by omega)), qI_ne (Or.inl (by omega)), qI_ne (Or.inl (by omega))]; exact hq
        · by_cases e : j = i
          · subst e
            refine ⟨?_, ?_, ?_⟩
            · rw [qI_ne (Or.inl (by omega)), qI_ne (Or.inl (by omega)), qI_eq]
            · rw [qI_ne (Or.inl (by omega)), qI_eq]
            · rw [qI_eq]
          · rw [qI_ne (Or.inl (by omega)), qI_ne (Or.inl (by omega)), qI_ne (Or.inr e), qI_ne (Or.inl (by omega)), qI_ne (Or.inr e), qI_ne (Or.inl (by omega)), qI_ne (Or.inr e), qI_ne (Or.inl (by omega)), qI_ne (Or.inl (by omega))]; exact h1 j (by omega)
  refine T.aload_n (pc' := 1) (q_d dX3_takeFrom_0 0 rfl) rfl rfl rfl ?_
  refine T.aload_n (pc' := 2) (q_d dX3_takeFrom_0 1 rfl) rfl rfl rfl ?_
  refine T.getI (pc' := 5) (ci := 3) (k0 := 0) (q_d dX3_takeFrom_0 2 rfl) rfl (SO.o ho2) (Nat.lt_of_le_of_lt (Nat.le_add_right _ _) (SO.lt ho2)) rfl inX3 (by decide) rfl wF_X3_33 rfl ?_
  refine T.putI (pc' := 8) (ci := 3) (k0 := 0) (q_d dX3_takeFrom_0 3 rfl) rfl (SO.o ho) (Nat.lt_of_le_of_lt (Nat.le_add_right _ _) (SO.lt ho)) rfl inX3 tyX3 tyX3_ok nmX3 (by decide) rfl wF_X3_33 rfl rfl rfl ?_
  refine T.aload_n (pc' := 9) (q_d dX3_takeFrom_0 4 rfl) rfl rfl rfl ?_
  refine T.aload_n (pc' := 10) (q_d dX3_takeFrom_0 5 rfl) rfl rfl rfl ?_
  refine T.getI (pc' := 13) (ci := 3) (k0 := 5) (q_d dX3_takeFrom_0 6 rfl) rfl (SO.o ho2) (Nat.lt_of_le_of_lt (Nat.le_add_right _ _) (SO.lt ho2)) rfl inX3 (by decide) rfl wF_X3_37 (qI_ne (Or.inl (by omega))) ?_
  refine T.putI (pc' := 16) (ci := 3) (k0 := 5) (q_d dX3_takeFrom_0 7 rfl) rfl (SO.o ho) (Nat.lt_of_le_of_lt (Nat.le_add_right _ _) (SO.lt ho)) rfl inX3 tyX3 tyX3_ok nmX3 (by decide) rfl wF_X3_37 rfl rfl rfl ?_
  refine T.aload_n (pc' := 17) (q_d dX3_takeFrom_0 8 rfl) rfl rfl rfl ?_
  refine T.aload_n (pc' := 18) (q_d dX3_takeFrom_0 9 rfl) rfl rfl rfl ?_
  refine T.getI (pc' := 21) (ci := 3) (k0 := 6) (q_d dX3_takeFrom_0 10 rfl) rfl (SO.o ho2) (Nat.lt_of_le_of_lt (Nat.le_add_right _ _) (SO.lt ho2)) rfl inX3 (by decide) rfl wF_X3_40 ((qI_ne (Or.inl (by omega))).trans (qI_ne (Or.inl (by omega)))) ?_
  refine T.putI (pc' := 24) (ci := 3) (k0 := 6) (q_d dX3_takeFrom_0 11 rfl) rfl (SO.o ho) (Nat.lt_of_le_of_lt (Nat.le_add_right _ _) (SO.lt ho)) rfl inX3 tyX3 tyX3_ok nmX3 (by decide) rfl wF_X3_40 rfl rfl rfl ?_
  refine T.iconst (pc' := 25) (v := nI 0) (q_d dX3_takeFrom_0 12 rfl) rfl (by decide) ?_
  refine T.istore_n (pc' := 26) (q_d dX3_takeFrom_0 13 rfl) rfl rfl (by decide) rfl rfl ?_
  refine loop1 7 0 _ (by omega) ⟨rfl, fun a ha => ?_⟩ ⟨?_, ?_, ?_⟩ (fun j hj => absurd hj (by omega))
  · funext j; rw [qI_ne (Or.inl (by omega)), qI_ne (Or.inl (by omega)), qI_ne (Or.inl (by omega))]
  · rw [qI_ne (Or.inr (by omega)), qI_ne (Or.inr (by omega)), qI_eq]
  · rw [qI_ne (Or.inr (by omega)), qI_eq]
  · rw [qI_eq]
end CX3
end
section
/-! BlindHunts$Moves: the tables -/
/-- the checks below n that the budget allows -/
def ckN (s : Nat → Nat) (n : Nat) : List Nat := (List.range n).filter (fun c => decide (ones c ≤ s 6))
/-- the tables stand for s -/
def RT (M : qM) (s : Nat → Nat) : Prop :=
  (∀ g, g < 5 → ∀ b, b < 2 ^ s 0 → M.1 (22 + g) b = gon s g b (s 0)) ∧ M.1 20 5 = (if s 4 = 3 then 1 else 0) ∧ M.1 20 4 = 2 ^ s 0 ∧ M.1 20 3 = (ckN s (2 ^ s 0)).length ∧ ∀ i c, (ckN s (2 ^ s 0))[i]? = some c → M.1 28 i = c
theorem RT.mono {M M' : qM} {s : Nat → Nat} (h : RT M s) (he : ∀ a, 20 ≤ a → a ≤ 28 → M'.1 a = M.1 a) : RT M' s := by
  obtain ⟨h1, h2, h3, h4, h5⟩ := h
  refine ⟨fun g hg b hb => ?_, ?_, ?_, ?_, fun i c hc => ?_⟩
  · rw [he (22 + g) (by omega) (by omega)]; exact h1 g hg b hb
  · rw [he 20 (by omega) (by omega)]; exact h2
  · rw [he 20 (by omega) (by omega)]; exact h3
  · rw [he 20 (by omega) (by omega)]; exact h4
  · rw [he 28 (by omega) (by omega)]; exact h5 i c hc
theorem RT.zero {M : qM} {s : Nat → Nat} (h : RT M s) : ∀ g, g < 5 → M.1 (22 + g) 0 = 0 := fun g hg => by
  rw [h.1 g hg 0 (Nat.two_pow_pos _), gon_more (n := 0) (by decide) (Nat.zero_le _)]; rfl
theorem or_two {a n : Nat} (h : a < 2 ^ n) : a ||| 1 <<< n = a + 2 ^ n := by
  rw [Nat.one_shiftLeft, Nat.or_comm, Nat.add_comm]
  exact (Nat.two_pow_add_eq_or_of_lt h 1 |> fun e => by simpa using e.symm)
section CX1
variable {l : Launch} {M : qM} {b : Nat} {s : Nat → Nat} {pa : Nat → Nat} {sw : Bool}
theorem c_after (hP : M.2.2 = pX pa sw) (hw : WF b s) (hT : RT M s) {x c g : Nat} (hx : x < 2 ^ s 0) (hg : g < 5) : Ct l hdX kX mX1_after [.ref 20, .int (nI x), .int (nI c), .int (nI g)] M (RI M (thn s x c g)) := by
  refine Ct.of [some (.ref 20), some (.int (nI x)), some (.int (nI c)), some (.int (nI g)), none] (by decide +kernel) (fun h => absurd h (by decide)) (Nat.le_of_ble_eq_true rfl) rfl ?_
  rw [← aft_eq hw]
  have w0 := p2_le hw.1
  have d0 : dif x c < 2 ^ s 0 := dif_lt hx
  have hsh := hT.2.1
  refine T.aload_n (pc' := 1) (q_d dX1_after_0 0 rfl) rfl rfl rfl ?_
  refine T.getR (pc' := 4) (ci := 1) (k0 := 0) (q_d dX1_after_0 1 rfl) rfl rfl (by decide) rfl inX1 (by decide) rfl wF_X1_11 (rP hP rfl) ?_
  refine T.iload_n (pc' := 5) (q_d dX1_after_0 2 rfl) rfl rfl rfl ?_
  refine T.qald (pc' := 6) (q_d dX1_after_0 3 rfl) rfl (Or.inr rfl) rfl (by decide) rfl (by omega) (by decide) (rP hP (pX_21 hg)) ?_
  refine T.iload_n (pc' := 7) (q_d dX1_after_0 4 rfl) rfl rfl rfl ?_
  refine T.iload_n (pc' := 8) (q_d dX1_after_0 5 rfl) rfl rfl rfl ?_
  refine T.iconst (pc' := 9) (v := nI 4294967295) (q_d dX1_after_0 6 rfl) rfl (by decide) ?_
  refine T.ixor (pc' := 10) (q_d dX1_after_0 7 rfl) rfl (nN_xor _ _) ?_
  refine T.iand (pc' := 11) (q_d dX1_after_0 8 rfl) rfl (nN_and _ _) ?_
  refine T.iald (pc' := 12) (q_d dX1_after_0 9 rfl) rfl (hd_row hg) (show 22 + g < 71 by omega) rfl (show dif x c < 128 by omega) (by decide) (hT.1 g hg _ d0) ?_
  refine T.istore (pc' := 14) (q_d dX1_after_0 10 rfl) rfl (by decide) rfl rfl ?_
  refine T.aload_n (pc' := 15) (q_d dX1_after_0 11 rfl) rfl rfl rfl ?_
  refine T.getI (pc' := 18) (ci := 1) (k0 := 5) (q_d dX1_after_0 12 rfl) rfl rfl (by decide) rfl inX1 (by decide) rfl wF_X1_35 hsh ?_
  refine T.if_eqN (tgt := 30) (pc' := 21) (q_d dX1_after_0 13 rfl) rfl (by decide) (by split <;> decide) (fun h18 => ?_) (fun h18 => ?_)
  · refine T.iload (pc' := 32) (q_d dX1_after_0 20 rfl) rfl rfl ?_
    refine T.iret (q_d dX1_after_0 21 rfl) rfl rfl rfl ?_
    refine ⟨rfl, ?_⟩
    unfold aft
    by_cases e : s 4 = 3
    · first | (rw [if_pos e]; rfl) | (rw [if_pos e] at h18; cases h18)
    · first | (rw [if_neg e] at h18; exact absurd rfl h18) | (rw [if_neg e]; rfl)
  · refine T.iload (pc' := 23) (q_d dX1_after_0 14 rfl) rfl rfl ?_
    refine T.iload_n (pc' := 24) (q_d dX1_after_0 15 rfl) rfl rfl rfl ?_
    refine T.iconst (pc' := 25) (v := nI 4294967295) (q_d dX1_after_0 16 rfl) rfl (by decide) ?_
    refine T.ixor (pc' := 26) (q_d dX1_after_0 17 rfl) rfl (nN_xor _ _) ?_
    refine T.iand (pc' := 27) (q_d dX1_after_0 18 rfl) rfl (nN_and _ _) ?_
    refine T.goto (tgt := 32) (q_d dX1_after_0 19 rfl) (by decide) ?_
    refine T.iret (q_d dX1_after_0 21 rfl) rfl rfl rfl ?_
    refine ⟨rfl, ?_⟩
    unfold aft
    by_cases e : s 4 = 3
    · first | (rw [if_pos e]; rfl) | (rw [if_pos e] at h18; cases h18)
    · first | (rw [if_neg e] at h18; exact absurd rfl h18) | (rw [if_neg e]; rfl)
theorem c_spread (hP : M.2.2 = pX pa sw) {g p : Nat} (hg : g < 5) (hp : p < 7) : Ct l hdX kX mX1_spread [.ref 20, .int (nI g), .int (nI (1 <<< p))] M (fun v M' => v = none ∧ M'.2 = M.2 ∧ (∀ a, a ≠ 22 + g → M'.1 a = M.1 a) ∧ ∀ x, M'.1 (22 + g) x = if 2 ^ p ≤ x ∧ x < 2 ^ p + 2 ^ p then M.1 (22 + g) (x - 2 ^ p) ||| M.1 27 g else M.1 (22 + g) x) := by
  refine Ct.of [some (.ref 20), some (.int (nI g)), some (.int (nI (1 <<< p))), none] (by decide +kernel) (fun h => absurd h (by decide)) (Nat.le_of_ble_eq_true rfl) rfl ?_
  have w0 : 2 ^ p ≤ 64 := Nat.le_trans (Nat.pow_le_pow_right (by decide) (by omega : p ≤ 6)) (by decide)
  rw [Nat.one_shiftLeft]
  have loop : ∀ d k (M' : qM), k + d = 2 ^ p → M'.2 = M.2 → (∀ a, a ≠ 22 + g → M'.1 a = M.1 a) → (∀ x, M'.1 (22 + g) x = if 2 ^ p ≤ x ∧ x < 2 ^ p + k then M.1 (22 + g) (x - 2 ^ p) ||| M.1 27 g else M.1 (22 + g) x) →
      T l hdX kX mX1_spread (fun v M' => v = none ∧ M'.2 = M.2 ∧ (∀ a, a ≠ 22 + g → M'.1 a = M.1 a) ∧ ∀ x, M'.1 (22 + g) x = if 2 ^ p ≤ x ∧ x < 2 ^ p + 2 ^ p then M.1 (22 + g) (x - 2 ^ p) ||| M.1 27 g else M.1 (22 + g) x) 0 0 2 [some (.ref 20), some (.int (nI g)), some (.int (nI (2 ^ p))), some (.int (nI k))] [] M' := by
    intro d
    induction d with
    | zero =>
      intro k M' hk hF ha hx
      have e : k = 2 ^ p := by omega
      subst e
      refine T.iload_n (pc' := 3) (q_d dX1_spread_0 2 rfl) rfl rfl rfl ?_
      refine T.iload_n (pc' := 4) (q_d dX1_spread_0 3 rfl) rfl rfl rfl ?_
      refine T.icmp_geN (tgt := 38) (pc' := 7) (q_d dX1_spread_0 4 rfl) rfl (by decide) (by omega) (by omega) (fun h4 => ?_) (fun h4 => ?_)
      · refine T.vret (q_d dX1_spread_0 26 rfl) rfl rfl rfl ?_
        exact ⟨rfl, hF, ha, hx⟩
      · exact absurd h4 (by omega)
    | succ d ih =>
      intro k M' hk hF ha hx
      have hP' : M'.2.2 = pX pa sw := by rw [hF]; exact hP
      have e1 : k ||| 2 ^ p = k + 2 ^ p := by rw [← Nat.one_shiftLeft]; rw [or_two (by omega), Nat.one_shiftLeft]
      have e2 : M'.1 (22 + g) k = M.1 (22 + g) k := by rw [hx, if_neg (by omega)]
      have e3 : M'.1 27 g = M.1 27 g := by rw [ha 27 (by omega)]
      refine T.iload_n (pc' := 3) (q_d dX1_spread_0 2 rfl) rfl rfl rfl ?_
      refine T.iload_n (pc' := 4) (q_d dX1_spread_0 3 rfl) rfl rfl rfl ?_
      refine T.icmp_geN (tgt := 38) (pc' := 7) (q_d dX1_spread_0 4 rfl) rfl (by decide) (by omega) (by omega) (fun h4 => ?_) (fun h4 => ?_)
      · exact absurd h4 (by omega)
      · refine T.aload_n (pc' := 8) (q_d dX1_spread_0 5 rfl) rfl rfl rfl ?_
        refine T.getR (pc' := 11) (ci := 1) (k0 := 0) (q_d dX1_spread_0 6 rfl) rfl rfl (by decide) rfl inX1 (by decide) rfl wF_X1_11 (rP hP' rfl) ?_
        refine T.iload_n (pc' := 12) (q_d dX1_spread_0 7 rfl) rfl rfl rfl ?_
        refine T.qald (pc' := 13) (q_d dX1_spread_0 8 rfl) rfl (Or.inr rfl) rfl (by decide) rfl (by omega) (by decide) (rP hP' (pX_21 hg)) ?_
        refine T.iload_n (pc' := 14) (q_d dX1_spread_0 9 rfl) rfl rfl rfl ?_
        refine T.iload_n (pc' := 15) (q_d dX1_spread_0 10 rfl) rfl rfl rfl ?_
        refine T.ior (pc' := 16) (q_d dX1_spread_0 11 rfl) rfl ((nN_or _ _).trans (by rw [e1])) ?_
        refine T.aload_n (pc' := 17) (q_d dX1_spread_0 12 rfl) rfl rfl rfl ?_
        refine T.getR (pc' := 20) (ci := 1) (k0 := 0) (q_d dX1_spread_0 13 rfl) rfl rfl (by decide) rfl inX1 (by decide) rfl wF_X1_11 (rP hP' rfl) ?_
        refine T.iload_n (pc' := 21) (q_d dX1_spread_0 14 rfl) rfl rfl rfl ?_
        refine T.qald (pc' := 22) (q_d dX1_spread_0 15 rfl) rfl (Or.inr rfl) rfl (by decide) rfl (by omega) (by decide) (rP hP' (pX_21 hg)) ?_
        refine T.iload_n (pc' := 23) (q_d dX1_spread_0 16 rfl) rfl rfl rfl ?_
        refine T.iald (pc' := 24) (q_d dX1_spread_0 17 rfl) rfl (hd_row hg) (show 22 + g < 71 by omega) rfl (by omega) (by decide) e2 ?_
        refine T.aload_n (pc' := 25) (q_d dX1_spread_0 18 rfl) rfl rfl rfl ?_
        refine T.getR (pc' := 28) (ci := 1) (k0 := 1) (q_d dX1_spread_0 19 rfl) rfl rfl (by decide) rfl inX1 (by decide) rfl wF_X1_16 (rP hP' rfl) ?_
        refine T.iload_n (pc' := 29) (q_d dX1_spread_0 20 rfl) rfl rfl rfl ?_
        refine T.iald (pc' := 30) (q_d dX1_spread_0 21 rfl) rfl rfl (by decide) rfl (by omega) (by decide) e3 ?_
        refine T.ior (pc' := 31) (q_d dX1_spread_0 22 rfl) rfl (nN_or _ _) ?_
        refine T.iast (pc' := 32) (q_d dX1_spread_0 23 rfl) rfl (hd_row hg) (show 22 + g < 71 by omega) rfl (by omega) (by decide) ?_
        refine T.iinc (pc' := 35) (q_d dX1_spread_0 24 rfl) rfl rfl (nN_p _ 1) (by decide) rfl rfl ?_
        refine T.goto (tgt := 2) (q_d dX1_spread_0 25 rfl) (by decide) ?_
        refine ih (k + 1) _ (by omega) hF (fun a h9 => ?_) (fun x => ?_)
        · funext j; rw [qI_ne (Or.inl h9), ha a h9]
        · by_cases e : x = k + 2 ^ p
          · subst e
            rw [qI_eq, if_pos (by omega), show k + 2 ^ p - 2 ^ p = k by omega]
          · rw [qI_ne (Or.inr e), hx]
            by_cases h8 : 2 ^ p ≤ x ∧ x < 2 ^ p + k
            · rw [if_pos h8, if_pos (by omega)]
            · rw [if_neg h8, if_neg (by omega)]
  refine T.iconst (pc' := 1) (v := nI 0) (q_d dX1_spread_0 0 rfl) rfl (by decide) ?_
  refine T.istore_n (pc' := 2) (q_d dX1_spread_0 1 rfl) rfl rfl (by decide) rfl rfl ?_
  exact loop (2 ^ p) 0 M (by omega) rfl (fun _ _ => rfl) (fun x => by rw [if_neg (by omega)])
theorem c_buildPlace (hP : M.2.2 = pX pa sw) (hs : RS M 1 s) (hw : WF b s) {p : Nat} (hp : p < s 0) (hg : ∀ g, g < 5 → ∀ x, x < 2 ^ p → M.1 (22 + g) x = gon s g x p) : Ct l hdX kX mX1_buildPlace [.ref 20, .ref 1, .int (nI p)] M (fun v M' => v = none ∧ M'.2 = M.2 ∧ (∀ a, a < 22 ∨ 27 < a → M'.1 a = M.1 a) ∧ ∀ g, g < 5 → ∀ x, x < 2 ^ (p + 1) → M'.1 (22 + g) x = gon s g x (p + 1)) := by
  refine Ct.of [some (.ref 20), some (.ref 1), some (.int (nI p)), none, none] (by decide +kernel) (fun h => absurd h (by decide)) (Nat.le_of_ble_eq_true rfl) rfl ?_
  have w7 := hw.1
  have w0 := p2_le hw.1
  have wg := goes_lt hw hp (c := 0)
  have ho1 : SO 1 := Or.inl rfl
  have hp2 : 2 ^ p ≤ 64 := Nat.le_trans (Nat.pow_le_pow_right (by decide) (by omega : p ≤ 6)) (by decide)
  have loop3 : ∀ d k (M' : qM), k + d = 5 → M'.2 = M.2 → (∀ a, a < 22 ∨ 27 < a → M'.1 a = M.1 a) → (∀ g, g < 5 → M'.1 27 g = tgt s p g) → (∀ g, g < 5 → M'.1 (22 + g) = M.1 (22 + g) ∨ (g < k ∧ ∀ x, x < 2 ^ (p + 1) → M'.1 (22 + g) x = gon s g x (p + 1))) → (∀ g, k ≤ g → g < 5 → M'.1 (22 + g) = M.1 (22 + g)) → (∀ g, g < k → ∀ x, x < 2 ^ (p + 1) → M'.1 (22 + g) x = gon s g x (p + 1)) →
      T l hdX kX mX1_buildPlace (fun v M' => v = none ∧ M'.2 = M.2 ∧ (∀ a, a < 22 ∨ 27 < a → M'.1 a = M.1 a) ∧ ∀ g, g < 5 → ∀ x, x < 2 ^ (p + 1) → M'.1 (22 + g) x = gon s g x (p + 1)) 0 0 86 [some (.ref 20), some (.ref 1), some (.int (nI p)), some (.int (nI (goes s p 0))), some (.int (nI k))] [] M' := by
    intro d
    induction d with
    | zero =>
      intro k M' hk hF ha ht _ hn hdn
      refine T.iload (pc' := 88) (q_d dX1_buildPlace_1 11 rfl) rfl rfl ?_
      refine T.iconst (pc' := 89) (v := nI 4) (q_d dX1_buildPlace_1 12 rfl) rfl (by decide) ?_
      refine T.icmp_gtN (tgt := 107) (pc' := 92) (q_d dX1_buildPlace_1 13 rfl) rfl (by decide) (by omega) (by omega) (fun h89 => ?_) (fun h89 => ?_)
      · refine T.vret (q_d dX1_buildPlace_1 22 rfl) rfl rfl rfl ?_
        exact ⟨rfl, hF, ha, fun g h5 => hdn g (by omega)⟩
      · exact absurd h89 (by omega)
    | succ d ih =>
      intro k M' hk hF ha ht hx hn hdn
      have hP' : M'.2.2 = pX pa sw := by rw [hF]; exact hP
      have hk5 : k < 5 := by omega
      have e2 : (2 : Nat) ^ (p + 1) = 2 ^ p + 2 ^ p := by rw [Nat.pow_succ]; omega
      refine T.iload (pc' := 88) (q_d dX1_buildPlace_1 11 rfl) rfl rfl ?_
      refine T.iconst (pc' := 89) (v := nI 4) (q_d dX1_buildPlace_1 12 rfl) rfl (by decide) ?_
      refine T.icmp_gtN (tgt := 107) (pc' := 92) (q_d dX1_buildPlace_1 13 rfl) rfl (by decide) (by omega) (by omega) (fun h89 => ?_) (fun h89 => ?_)
      · exact absurd h89 (by omega)
      · refine T.aload_n (pc' := 93) (q_d dX1_buildPlace_1 14 rfl) rfl rfl rfl ?_
        refine T.iload (pc' := 95) (q_d dX1_buildPlace_1 15 rfl) rfl rfl ?_
        refine T.iconst (pc' := 96) (v := nI 1) (q_d dX1_buildPlace_1 16 rfl) rfl (by decide) ?_
        refine T.iload_n (pc' := 97) (q_d dX1_buildPlace_1 17 rfl) rfl rfl rfl ?_
        refine T.ishl (pc' := 98) (q_d dX1_buildPlace_1 18 rfl) rfl (nN_shl _ (by omega)) ?_
        refine T.callV (pc' := 101) (ci := 1) (q_d dX1_buildPlace_1 19 rfl) rfl uX1_spread wM_X1_58 (c_spread hP' hk5 (show p < 7 by omega)) rfl rfl (by decide) rfl rfl (by decide) (Nat.le_of_ble_eq_true rfl) rfl rfl (fun _ => rfl) ?_
        rintro _ M2 ⟨rfl, f1, f2, f3⟩
        dsimp only [Option.toList, List.cons_append, List.nil_append, List.append_nil]
        refine T.iinc (pc' := 104) (q_d dX1_buildPlace_1 20 rfl) rfl rfl (nN_p _ 1) (by decide) rfl rfl ?_
        refine T.goto (tgt := 86) (q_d dX1_buildPlace_1 21 rfl) (by decide) ?_
        have hrow : ∀ x, x < 2 ^ (p + 1) → M2.1 (22 + k) x = gon s k x (p + 1) := by
          intro x hx2
          rw [f3 x]
          have h9 := hn k (Nat.le_refl _) hk5
          by_cases h8 : 2 ^ p ≤ x ∧ x < 2 ^ p + 2 ^ p
          · have h7 : x - 2 ^ p < 2 ^ p := by omega
            rw [if_pos h8, h9, hg k hk5 _ h7, ht k hk5, ← gon_spread h7, or_two h7, Nat.sub_add_cancel h8.1]
          · have h7 : x < 2 ^ p := by omega
            rw [if_neg h8, h9, hg k hk5 _ h7, gon_more h7 (Nat.le_succ _)]
        refine ih (k + 1) M2 (by omega) (f1.trans hF) (fun a h9 => (f2 a (by omega)).trans (ha a h9)) (fun g h5 => by rw [f2 27 (by omega)]; exact ht g h5) (fun g h5 => ?_) (fun g h1 h5 => by rw [f2 _ (by omega)]; exact hn g (by omega) h5) (fun g h1 x hx2 => ?_)
        · by_cases e : g = k
          · subst e; exact Or.inr ⟨by omega, hrow⟩
          · rw [f2 _ (by omega)]
            rcases hx g h5 with h | h
            · exact Or.inl h
            · exact Or.inr ⟨by omega, h.2⟩
        · by_cases e : g = k
          · subst e; exact hrow x hx2
          · rw [f2 _ (by omega)]
            exact hdn g (by omega) x hx2
  have loop2 : ∀ d k (M' : qM), k + d = s 0 → M'.2 = M.2 → (∀ a, a ≠ 27 → M'.1 a = M.1 a) → M'.1 27 4 = goes s p 0 → (∀ g, g < 4 → M'.1 27 g = orTo (fun q => if goes s p 0 >>> q &&& 1 = 1 ∧ (g = 4 ∨ hears s p q = g) then 1 <<< q else 0) k) →
      T l hdX kX mX1_buildPlace (fun v M' => v = none ∧ M'.2 = M.2 ∧ (∀ a, a < 22 ∨ 27 < a → M'.1 a = M.1 a) ∧ ∀ g, g < 5 → ∀ x, x < 2 ^ (p + 1) → M'.1 (22 + g) x = gon s g x (p + 1)) 0 0 39 [some (.ref 20), some (.ref 1), some (.int (nI p)), some (.int (nI (goes s p 0))), some (.int (nI k))] [] M' := by
    intro d
    induction d with
    | zero =>
      intro k M' hk hF ha h4 ht
      have h0 : M'.1 1 0 = s 0 := by rw [ha 1 (by decide)]; exact hs.1
      have e : k = s 0 := by omega
      refine T.iload (pc' := 41) (q_d dX1_buildPlace_0 23 rfl) rfl rfl ?_
      refine T.aload_n (pc' := 42) (q_d dX1_buildPlace_0 24 rfl) rfl rfl rfl ?_
      refine T.getI (pc' := 45) (ci := 3) (k0 := 0) (q_d dX1_buildPlace_0 25 rfl) rfl rfl (by decide) rfl inX3 (by decide) rfl wF_X1_39 h0 ?_
      refine T.icmp_geN (tgt := 83) (pc' := 48) (q_d dX1_buildPlace_0 26 rfl) rfl (by decide) (by omega) (by omega) (fun h45 => ?_) (fun h45 => ?_)
      · refine T.iconst (pc' := 84) (v := nI 0) (q_d dX1_buildPlace_1 9 rfl) rfl (by decide) ?_
        refine T.istore (pc' := 86) (q_d dX1_buildPlace_1 10 rfl) rfl (by decide) rfl rfl ?_
        refine loop3 5 0 M' (by omega) hF (fun a h9 => ha a (by omega)) (fun g h5 => ?_) (fun g h5 => Or.inl (ha _ (by omega))) (fun g _ h5 => ha _ (by omega)) (fun g h1 => absurd h1 (by omega))
        by_cases e4 : g = 4
        · subst e4; rw [h4, tgt_4 hw hp]
        · rw [ht g (by omega), e]; rfl
      · exact absurd h45 (by omega)
    | succ d ih =>
      intro k M' hk hF ha h4 ht
      have hP' : M'.2.2 = pX pa sw := by rw [hF]; exact hP
      have h0 : M'.1 1 0 = s 0 := by rw [ha 1 (by decide)]; exact hs.1
      have hs' : RS M' 1 s := hs.mono (fun a h1 h2 => ha a (by omega))
      have g1 := and1_lt (goes s p 0 >>> k)
      have hh : hears s p k < 4 := hears_lt hw (by omega)
      refine T.iload (pc' := 41) (q_d dX1_buildPlace_0 23 rfl) rfl rfl ?_
      refine T.aload_n (pc' := 42) (q_d dX1_buildPlace_0 24 rfl) rfl rfl rfl ?_
      refine T.getI (pc' := 45) (ci := 3) (k0 := 0) (q_d dX1_buildPlace_0 25 rfl) rfl rfl (by decide) rfl inX3 (by decide) rfl wF_X1_39 h0 ?_
      refine T.icmp_geN (tgt := 83) (pc' := 48) (q_d dX1_buildPlace_0 26 rfl) rfl (by decide) (by omega) (by omega) (fun h45 => ?_) (fun h45 => ?_)
      · exact absurd h45 (by omega)
      · refine T.iload_n (pc' := 49) (q_d dX1_buildPlace_0 27 rfl) rfl rfl rfl ?_
        refine T.iload (pc' := 51) (q_d dX1_buildPlace_0 28 rfl) rfl rfl ?_
        refine T.ishr (pc' := 52) (q_d dX1_buildPlace_0 29 rfl) rfl (nN_shr (by omega) (by omega)) ?_
        refine T.iconst (pc' := 53) (v := nI 1) (q_d dX1_buildPlace_0 30 rfl) rfl (by decide) ?_
        refine T.iand (pc' := 54) (q_d dX1_buildPlace_0 31 rfl) rfl (nN_and _ _) ?_
        refine T.iconst (pc' := 55) (v := nI 1) (q_d dX1_buildPlace_0 32 rfl) rfl (by decide) ?_
        refine T.icmp_neN (tgt := 77) (pc' := 58) (q_d dX1_buildPlace_0 33 rfl) rfl (by decide) (by omega) (by omega) (fun h55 => ?_) (fun h55 => ?_)
        · refine T.iinc (pc' := 80) (q_d dX1_buildPlace_1 7 rfl) rfl rfl (nN_p _ 1) (by decide) rfl rfl ?_
          refine T.goto (tgt := 39) (q_d dX1_buildPlace_1 8 rfl) (by decide) ?_
          first
            | refine ih (k + 1) M' (by omega) hF ha h4 (fun g h5 => ?_)
              rw [ht g h5]
              simp only [orTo]
              rw [if_neg (fun h => h55 h.1), Nat.or_zero]
            | refine ih (k + 1) _ (by omega) hF (fun a h9 => ?_) ?_ (fun g h5 => ?_)
              · funext j; rw [qI_ne (Or.inl h9), ha a h9]
              · rw [qI_ne (Or.inr (by omega))]; exact h4
              · simp only [orTo]
                by_cases e : g = hears s p k
                · subst e
                  rw [qI_eq, if_pos ⟨h55, Or.inr rfl⟩]
                · rw [qI_ne (Or.inr e), ht g h5, if_neg (fun h => h.2.elim (by omega) (fun h2 => e h2.symm)), Nat.or_zero]
        · refine T.aload_n (pc' := 59) (q_d dX1_buildPlace_0 34 rfl) rfl rfl rfl ?_
          refine T.getR (pc' := 62) (ci := 1) (k0 := 1) (q_d dX1_buildPlace_0 35 rfl) rfl rfl (by decide) rfl inX1 (by decide) rfl wF_X1_16 (rP hP' rfl) ?_
          refine T.aload_n (pc' := 63) (q_d dX1_buildPlace_0 36 rfl) rfl rfl rfl ?_
          refine T.iload_n (pc' := 64) (q_d dX1_buildPlace_0 37 rfl) rfl rfl rfl ?_
          refine T.iload (pc' := 66) (q_d dX1_buildPlace_0 38 rfl) rfl rfl ?_
          refine T.callV (pc' := 69) (ci := 3) (q_d dX1_buildPlace_0 39 rfl) rfl uX3_signalOf wM_X1_54 (c_signalOf ho1 hP' hs' hw (show p < 7 by omega) (show k < 7 by omega)) rfl rfl (by decide) rfl rfl (by decide) (Nat.le_of_ble_eq_true rfl) rfl rfl (fun _ => rfl) ?_
          rintro _ _ ⟨rfl, rfl⟩
          dsimp only [Option.toList, List.cons_append, List.nil_append, List.append_nil]
          refine T.dup2 (pc' := 70) (q_d dX1_buildPlace_1 0 rfl) rfl rfl rfl ?_
          refine T.iald (pc' := 71) (q_d dX1_buildPlace_1 1 rfl) rfl rfl (by decide) rfl (by omega) (by decide) (ht _ hh) ?_
          refine T.iconst (pc' := 72) (v := nI 1) (q_d dX1_buildPlace_1 2 rfl) rfl (by decide) ?_
          refine T.iload (pc' := 74) (q_d dX1_buildPlace_1 3 rfl) rfl rfl ?_
          refine T.ishl (pc' := 75) (q_d dX1_buildPlace_1 4 rfl) rfl (nN_shl _ (by omega)) ?_
          refine T.ior (pc' := 76) (q_d dX1_buildPlace_1 5 rfl) rfl (nN_or _ _) ?_
          refine T.iast (pc' := 77) (q_d dX1_buildPlace_1 6 rfl) rfl rfl (by decide) rfl (by omega) (by decide) ?_
          refine T.iinc (pc' := 80) (q_d dX1_buildPlace_1 7 rfl) rfl rfl (nN_p _ 1) (by decide) rfl rfl ?_
          refine T.goto (tgt := 39) (q_d dX1_buildPlace_1 8 rfl) (by decide) ?_
          first
            | refine ih (k + 1) M' (by omega) hF ha h4 (fun g h5 => ?_)
              rw [ht g h5]
              simp only [orTo]
              rw [if_neg (fun h => h55 h.1), Nat.or_zero]
            | refine ih (k + 1) _ (by omega) hF (fun a h9 => ?_) ?_ (fun g h5 => ?_)
              · funext j; rw [qI_ne (Or.inl h9), ha a h9]
              · rw [qI_ne (Or.inr (by omega))]; exact h4
              · simp only [orTo]
                by_cases e : g = hears s p k
                · subst e
                  rw [qI_eq, if_pos ⟨h55, Or.inr rfl⟩]
                · rw [qI_ne (Or.inr e), ht g h5, if_neg (fun h => h.2.elim (by omega) (fun h2 => e h2.symm)), Nat.or_zero]
  have loop1 : ∀ d k (M' : qM), k + d = 4 → M'.2 = M.2 → (∀ a, a ≠ 27 → M'.1 a = M.1 a) → (∀ g, g < k → M'.1 27 g = 0) →
      T l hdX kX mX1_buildPlace (fun v M' => v = none ∧ M'.2 = M.2 ∧ (∀ a, a < 22 ∨ 27 < a → M'.1 a = M.1 a) ∧ ∀ g, g < 5 → ∀ x, x < 2 ^ (p + 1) → M'.1 (22 + g) x = gon s g x (p + 1)) 0 0 9 [some (.ref 20), some (.ref 1), some (.int (nI p)), some (.int (nI (goes s p 0))), some (.int (nI k))] [] M' := by
    intro d
    induction d with
    | zero =>
      intro k M' hk hF ha ht
      have hP' : M'.2.2 = pX pa sw := by rw [hF]; exact hP
      refine T.iload (pc' := 11) (q_d dX1_buildPlace_0 6 rfl) rfl rfl ?_
      refine T.iconst (pc' := 12) (v := nI 4) (q_d dX1_buildPlace_0 7 rfl) rfl (by decide) ?_
      refine T.icmp_geN (tgt := 29) (pc' := 15) (q_d dX1_buildPlace_0 8 rfl) rfl (by decide) (by omega) (by omega) (fun h12 => ?_) (fun h12 => ?_)
      · refine T.aload_n (pc' := 30) (q_d dX1_buildPlace_0 16 rfl) rfl rfl rfl ?_
        refine T.getR (pc' := 33) (ci := 1) (k0 := 1) (q_d dX1_buildPlace_0 17 rfl) rfl rfl (by decide) rfl inX1 (by decide) rfl wF_X1_16 (rP hP' rfl) ?_
        refine T.iconst (pc' := 34) (v := nI 4) (q_d dX1_buildPlace_0 18 rfl) rfl (by decide) ?_
        refine T.iload_n (pc' := 35) (q_d dX1_buildPlace_0 19 rfl) rfl rfl rfl ?_
        refine T.iast (pc' := 36) (q_d dX1_buildPlace_0 20 rfl) rfl rfl (by decide) rfl (by omega) (by decide) ?_
        refine T.iconst (pc' := 37) (v := nI 0) (q_d dX1_buildPlace_0 21 rfl) rfl (by decide) ?_
        refine T.istore (pc' := 39) (q_d dX1_buildPlace_0 22 rfl) rfl (by decide) rfl rfl ?_
        refine loop2 (s 0) 0 _ (by omega) hF (fun a h9 => ?_) qI_eq (fun g h5 => ?_)
        · funext j; rw [qI_ne (Or.inl h9), ha a h9]
        · rw [qI_ne (Or.inr (by omega)), ht g (by omega)]; rfl
      · exact absurd h12 (by omega)
    | succ d ih =>
      intro k M' hk hF ha ht
      have hP' : M'.2.2 = pX pa sw := by rw [hF]; exact hP
      refine T.iload (pc' := 11) (q_d dX1_buildPlace_0 6 rfl) rfl rfl ?_
      refine T.iconst (pc' := 12) (v := nI 4) (q_d dX1_buildPlace_0 7 rfl) rfl (by decide) ?_
      refine T.icmp_geN (tgt := 29) (pc' := 15) (q_d dX1_buildPlace_0 8 rfl) rfl (by decide) (by omega) (by omega) (fun h12 => ?_) (fun h12 => ?_)
      · exact absurd h12 (by omega)
      · refine T.aload_n (pc' := 16) (q_d dX1_buildPlace_0 9 rfl) rfl rfl rfl ?_
        refine T.getR (pc' := 19) (ci := 1) (k0 := 1) (q_d dX1_buildPlace_0 10 rfl) rfl rfl (by decide) rfl inX1 (by decide) rfl wF_X1_16 (rP hP' rfl) ?_
        refine T.iload (pc' := 21) (q_d dX1_buildPlace_0 11 rfl) rfl rfl ?_
        refine T.iconst (pc' := 22) (v := nI 0) (q_d dX1_buildPlace_0 12 rfl) rfl (by decide) ?_
        refine T.iast (pc' := 23) (q_d dX1_buildPlace_0 13 rfl) rfl rfl (by decide) rfl (by omega) (by decide) ?_
        refine T.iinc (pc' := 26) (q_d dX1_buildPlace_0 14 rfl) rfl rfl (nN_p _ 1) (by decide) rfl rfl ?_
        refine T.goto (tgt := 9) (q_d dX1_buildPlace_0 15 rfl) (by decide) ?_
        refine ih (k + 1) _ (by omega) hF (fun a h9 => ?_) (fun g h5 => ?_)
        · funext j; rw [qI_ne (Or.inl h9), ha a h9]
        · by_cases e : g = k
          · subst e; exact qI_eq
          · rw [qI_ne (Or.inr e)]; exact ht g (by omega)
  refine T.aload_n (pc' := 1) (q_d dX1_buildPlace_0 0 rfl) rfl rfl rfl ?_
  refine T.iload_n (pc' := 2) (q_d dX1_buildPlace_0 1 rfl) rfl rfl rfl ?_
  refine T.callV (pc' := 5) (ci := 3) (q_d dX1_buildPlace_0 2 rfl) rfl uX3_reach wM_X1_50 (c_reach ho1 hP hs hw hp) rfl rfl (by decide) rfl rfl (by decide) (Nat.le_of_ble_eq_true rfl) rfl rfl (fun _ => rfl) ?_
  rintro _ _ ⟨rfl, rfl⟩
  dsimp only [Option.toList, List.cons_append, List.nil_append, List.append_nil]
  refine T.istore_n (pc' := 6) (q_d dX1_buildPlace_0 3 rfl) rfl rfl (by decide) rfl rfl ?_
  refine T.iconst (pc' := 7) (v := nI 0) (q_d dX1_buildPlace_0 4 rfl) rfl (by decide) ?_
  refine T.istore (pc' := 9) (q_d dX1_buildPlace_0 5 rfl) rfl (by decide) rfl rfl ?_
  exact loop1 4 0 M (by omega) rfl (fun _ _ => rfl) (fun g h => absurd h (by omega))
theorem c_listChecks (hP : M.2.2 = pX pa sw) (hw : WF b s) (h4 : M.1 20 4 = 2 ^ s 0) : Ct l hdX kX mX1_listChecks [.ref 20, .int (nI (s 6))] M (fun v M' => v = none ∧ M'.2 = M.2 ∧ (∀ a, a ≠ 20 ∧ a ≠ 28 → M'.1 a = M.1 a) ∧ (∀ j, j ≠ 3 → M'.1 20 j = M.1 20 j) ∧ M'.1 20 3 = (ckN s (2 ^ s 0)).length ∧ ∀ i c, (ckN s (2 ^ s 0))[i]? = some c → M'.1 28 i = c) := by
  refine Ct.of [some (.ref 20), some (.int (nI (s 6))), none] (by decide +kernel) (fun h => absurd h (by decide)) (Nat.le_of_ble_eq_true rfl) rfl ?_
  have w0 := p2_le hw.1
  have w6 := hw.2.2.2.2.2.1
  have loop : ∀ d k (M' : qM), k + d = 2 ^ s 0 → M'.2 = M.2 → (∀ a, a ≠ 20 ∧ a ≠ 28 → M'.1 a = M.1 a) → (∀ j, j ≠ 3 → M'.1 20 j = M.1 20 j) → M'.1 20 3 = (ckN s k).length → (∀ i c, (ckN s k)[i]? = some c → M'.1 28 i = c) →
      T l hdX kX mX1_listChecks (fun v M' => v = none ∧ M'.2 = M.2 ∧ (∀ a, a ≠ 20 ∧ a ≠ 28 → M'.1 a = M.1 a) ∧ (∀ j, j ≠ 3 → M'.1 20 j = M.1 20 j) ∧ M'.1 20 3 = (ckN s (2 ^ s 0)).length ∧ ∀ i c, (ckN s (2 ^ s 0))[i]? = some c → M'.1 28 i = c) 0 0 7 [some (.ref 20), some (.int (nI (s 6))), some (.int (nI k))] [] M' := by
    intro d
    induction d with
    | zero =>
      intro k M' hk hF ha hj h3 hc
      have e : k = 2 ^ s 0 := by omega
      subst e
      have h9 : M'.1 20 4 = 2 ^ s 0 := (hj 4 (by decide)).trans h4
      refine T.iload_n (pc' := 8) (q_d dX1_listChecks_0 5 rfl) rfl rfl rfl ?_
      refine T.aload_n (pc' := 9) (q_d dX1_listChecks_0 6 rfl) rfl rfl rfl ?_
      refine T.getI (pc' := 12) (ci := 1) (k0 := 4) (q_d dX1_listChecks_0 7 rfl) rfl rfl (by decide) rfl inX1 (by decide) rfl wF_X1_29 h9 ?_
      refine T.icmp_geN (tgt := 49) (pc' := 15) (q_d dX1_listChecks_0 8 rfl) rfl (by decide) (by omega) (by omega) (fun h12 => ?_) (fun h12 => ?_)
      · refine T.vret (q_d dX1_listChecks_0 27 rfl) rfl rfl rfl ?_
        exact ⟨rfl, hF, ha, hj, h3, hc⟩
      · exact absurd h12 (by omega)
    | succ d ih =>
      intro k M' hk hF ha hj h3 hc
      have hP' : M'.2.2 = pX pa sw := by rw [hF]; exact hP
      have h9 : M'.1 20 4 = 2 ^ s 0 := (hj 4 (by decide)).trans h4
      have hl : (ckN s k).length ≤ k := by
        refine Nat.le_trans (List.length_filter_le _ _) ?_
        rw [List.length_range]; exact Nat.le_refl _
      have g7 := ones_le k
      have hnx : ckN s (k + 1) = ckN s k ++ (if ones k ≤ s 6 then [k] else []) := by
        unfold ckN
        rw [List.range_succ, List.filter_append]
        congr 1
        by_cases e : ones k ≤ s 6 <;> simp [e]
      refine T.iload_n (pc' := 8) (q_d dX1_listChecks_0 5 rfl) rfl rfl rfl ?_
      refine T.aload_n (pc' := 9) (q_d dX1_listChecks_0 6 rfl) rfl rfl rfl ?_
      refine T.getI (pc' := 12) (ci := 1) (k0 := 4) (q_d dX1_listChecks_0 7 rfl) rfl rfl (by decide) rfl inX1 (by decide) rfl wF_X1_29 h9 ?_
      refine T.icmp_geN (tgt := 49) (pc' := 15) (q_d dX1_listChecks_0 8 rfl) rfl (by decide) (by omega) (by omega) (fun h12 => ?_) (fun h12 => ?_)
      · exact absurd h12 (by omega)
      · refine T.iload_n (pc' := 16) (q_d dX1_listChecks_0 9 rfl) rfl rfl rfl ?_
        refine T.callS (pc' := 19) (q_d dX1_listChecks_0 10 rfl) rfl uJ6_bitCount_0f7a4 wM_X1_65 (c_bitCount (show k < 128 by omega)) rfl rfl (by decide) (Nat.le_of_ble_eq_true rfl) rfl rfl (fun _ => rfl) ?_
        rintro _ _ ⟨rfl, rfl⟩
        dsimp only [Option.toList, List.cons_append, List.nil_append, List.append_nil]
        refine T.iload_n (pc' := 20) (q_d dX1_listChecks_0 11 rfl) rfl rfl rfl ?_
        refine T.icmp_gtN (tgt := 43) (pc' := 23) (q_d dX1_listChecks_0 12 rfl) rfl (by decide) (by omega) (by omega) (fun h20 => ?_) (fun h20 => ?_)
        · refine T.iinc (pc' := 46) (q_d dX1_listChecks_0 25 rfl) rfl rfl (nN_p _ 1) (by decide) rfl rfl ?_
          refine T.goto (tgt := 7) (q_d dX1_listChecks_0 26 rfl) (by decide) ?_
          first
            | refine ih (k + 1) M' (by omega) hF ha hj ?_ ?_
              · rw [hnx, if_neg (by omega), List.append_nil]; exact h3
              · rw [hnx, if_neg (by omega), List.append_nil]; exact hc
            | refine ih (k + 1) _ (by omega) hF (fun a h => ?_) (fun j h => ?_) ?_ ?_
              · funext j; rw [qI_ne (Or.inl h.1), qI_ne (Or.inl h.2), ha a h]
              · rw [qI_ne (Or.inr h), qI_ne (Or.inl (by decide)), hj j h]
              · rw [qI_eq, hnx, if_pos h20, List.length_append]; rfl
              · rw [hnx, if_pos h20]
                intro i c hic
                rw [qI_ne (Or.inl (by decide))]
                by_cases e : i < (ckN s k).length
                · rw [List.getElem?_append_left e] at hic
                  rw [qI_ne (Or.inr (by omega))]
                  exact hc i c hic
                · rw [List.getElem?_append_right (by omega)] at hic
                  have h8 : i - (ckN s k).length = 0 := by
                    have := (List.getElem?_eq_some_iff.mp hic).1
                    simpa using this
                  rw [h8] at hic
                  cases hic
                  rw [show i = (ckN s k).length by omega, qI_eq]
        · refine T.aload_n (pc' := 24) (q_d dX1_listChecks_0 13 rfl) rfl rfl rfl ?_
          refine T.getR (pc' := 27) (ci := 1) (k0 := 2) (q_d dX1_listChecks_0 14 rfl) rfl rfl (by decide) rfl inX1 (by decide) rfl wF_X1_20 (rP hP' rfl) ?_
          refine T.aload_n (pc' := 28) (q_d dX1_listChecks_0 15 rfl) rfl rfl rfl ?_
          refine T.getI (pc' := 31) (ci := 1) (k0 := 3) (q_d dX1_listChecks_0 16 rfl) rfl rfl (by decide) rfl inX1 (by decide) rfl wF_X1_62 h3 ?_
          refine T.iload_n (pc' := 32) (q_d dX1_listChecks_0 17 rfl) rfl rfl rfl ?_
          refine T.iast (pc' := 33) (q_d dX1_listChecks_0 18 rfl) rfl rfl (by decide) rfl (by omega) (by decide) ?_
          refine T.aload_n (pc' := 34) (q_d dX1_listChecks_0 19 rfl) rfl rfl rfl ?_
          refine T.dup (pc' := 35) (q_d dX1_listChecks_0 20 rfl) rfl rfl ?_
          refine T.getI (pc' := 38) (ci := 1) (k0 := 3) (q_d dX1_listChecks_0 21 rfl) rfl rfl (by decide) rfl inX1 (by decide) rfl wF_X1_62 ((qI_ne (Or.inl (by decide))).trans h3) ?_
          refine T.iconst (pc' := 39) (v := nI 1) (q_d dX1_listChecks_0 22 rfl) rfl (by decide) ?_
          refine T.iadd (pc' := 40) (q_d dX1_listChecks_0 23 rfl) rfl (nI_add _ _) ?_
          refine T.putI (pc' := 43) (ci := 1) (k0 := 3) (q_d dX1_listChecks_0 24 rfl) rfl rfl (by decide) rfl inX1 tyX1 tyX1_ok nmX1 (by decide) rfl wF_X1_62 rfl rfl rfl ?_
          refine T.iinc (pc' := 46) (q_d dX1_listChecks_0 25 rfl) rfl rfl (nN_p _ 1) (by decide) rfl rfl ?_
          refine T.goto (tgt := 7) (q_d dX1_listChecks_0 26 rfl) (by decide) ?_
          first
            | refine ih (k + 1) M' (by omega) hF ha hj ?_ ?_
              · rw [hnx, if_neg (by omega), List.append_nil]; exact h3
              · rw [hnx, if_neg (by omega), List.append_nil]; exact hc
            | refine ih (k + 1) _ (by omega) hF (fun a h => ?_) (fun j h => ?_) ?_ ?_
              · funext j; rw [qI_ne (Or.inl h.1), qI_ne (Or.inl h.2), ha a h]
              · rw [qI_ne (Or.inr h), qI_ne (Or.inl (by decide)), hj j h]
              · rw [qI_eq, hnx, if_pos h20, List.length_append]; rfl
              · rw [hnx, if_pos h20]
                intro i c hic
                rw [qI_ne (Or.inl (by decide))]
                by_cases e : i < (ckN s k).length
                · rw [List.getElem?_append_left e] at hic
                  rw [qI_ne (Or.inr (by omega))]
                  exact hc i c hic
                · rw [List.getElem?_append_right (by omega)] at hic
                  have h8 : i - (ckN s k).length = 0 := by
                    have := (List.getElem?_eq_some_iff.mp hic).1
                    simpa using this
                  rw [h8] at hic
                  cases hic
                  rw [show i = (ckN s k).length by omega, qI_eq]
  refine T.aload_n (pc' := 1) (q_d dX1_listChecks_0 0 rfl) rfl rfl rfl ?_
  refine T.iconst (pc' := 2) (v := nI 0) (q_d dX1_listChecks_0 1 rfl) rfl (by decide) ?_
  refine T.putI (pc' := 5) (ci := 1) (k0 := 3) (q_d dX1_listChecks_0 2 rfl) rfl rfl (by decide) rfl inX1 tyX1 tyX1_ok nmX1 (by decide) rfl wF_X1_62 rfl rfl rfl ?_
  refine T.iconst (pc' := 6) (v := nI 0) (q_d dX1_listChecks_0 3 rfl) rfl (by decide) ?_
  refine T.istore_n (pc' := 7) (q_d dX1_listChecks_0 4 rfl) rfl rfl (by decide) rfl rfl ?_
  refine loop (2 ^ s 0) 0 _ (by omega) rfl (fun a h => ?_) (fun j h => ?_) ?_ (fun i c h => ?_)
  · funext j; rw [qI_ne (Or.inl h.1)]
  · rw [qI_ne (Or.inr h)]
  · rw [qI_eq]; rfl
  · simp [ckN] at h
end CX1
end
section
/-! BlindHunts$Moves.build, and the rounds of a State -/
/-- a round is made -/
def sRound (s : Nat → Nat) (c g : Nat) : Nat → Nat := fun j =>
  if j = 1 then thn s (s 1) c g else if j = 2 then s 2 + 1 else if j = 3 then (if dif (s 1) c = 0 then 1 else s 3) else if j = 28 then c else if j = 29 then g else if j = 30 then thn s (s 1) c g else if 31 ≤ j ∧ j < 52 then s (j - 3) else s j
abbrev canR (s : Nat → Nat) (c g : Nat) : Prop := s 1 ≠ 0 ∧ (dif (s 1) c = 0 ∨ thn s (s 1) c g ≠ 0)
section CX1B
variable {l : Launch} {M : qM} {o b : Nat} {s : Nat → Nat} {pa : Nat → Nat} {sw : Bool}
theorem c_build (hP : M.2.2 = pX pa sw) (hs : RS M 1 s) (hw : WF b s) (hz : ∀ g, g < 5 → M.1 (22 + g) 0 = 0) : Ct l hdX kX mX1_build [.ref 20, .ref 1] M (fun v M' => v = none ∧ M'.2 = M.2 ∧ (∀ a, a < 20 ∨ 28 < a → M'.1 a = M.1 a) ∧ RT M' s) := by
  refine Ct.of [some (.ref 20), some (.ref 1), none] (by decide +kernel) (fun h => absurd h (by decide)) (Nat.le_of_ble_eq_true rfl) rfl ?_
  have w7 := hw.1
  have w0 := p2_le hw.1
  have w4 := hw.2.2.2.1
  have ho1 : SO 1 := Or.inl rfl
  have loopB : ∀ d k (M' : qM), k + d = s 0 → M'.2 = M.2 → (∀ a, a < 20 ∨ 28 < a → M'.1 a = M.1 a) → M'.1 20 5 = (if s 4 = 3 then 1 else 0) → M'.1 20 4 = 2 ^ s 0 → (∀ g, g < 5 → ∀ x, x < 2 ^ k → M'.1 (22 + g) x = gon s g x k) →
      T l hdX kX mX1_build (fun v M' => v = none ∧ M'.2 = M.2 ∧ (∀ a, a < 20 ∨ 28 < a → M'.1 a = M.1 a) ∧ RT M' s) 0 0 29 [some (.ref 20), some (.ref 1), some (.int (nI k))] [] M' := by
    intro d
    induction d with
    | zero =>
      intro k M' hk hF ha h5 h4 hg
      have hP' : M'.2.2 = pX pa sw := by rw [hF]; exact hP
      have hs' : RS M' 1 s := hs.mono (fun a h1 h2 => ha a (by omega))
      have h0 : M'.1 1 0 = s 0 := hs'.1
      have e : k = s 0 := by omega
      subst e
      refine T.iload_n (pc' := 30) (q_d dX1_build_0 17 rfl) rfl rfl rfl ?_
      refine T.aload_n (pc' := 31) (q_d dX1_build_0 18 rfl) rfl rfl rfl ?_
      refine T.getI (pc' := 34) (ci := 3) (k0 := 0) (q_d dX1_build_0 19 rfl) rfl rfl (by decide) rfl inX3 (by decide) rfl wF_X1_39 h0 ?_
      refine T.icmp_geN (tgt := 49) (pc' := 37) (q_d dX1_build_0 20 rfl) rfl (by decide) (by omega) (by omega) (fun h34 => ?_) (fun h34 => ?_)
      · refine T.aload_n (pc' := 50) (q_d dX1_build_0 27 rfl) rfl rfl rfl ?_
        refine T.aload_n (pc' := 51) (q_d dX1_build_0 28 rfl) rfl rfl rfl ?_
        refine T.getR (pc' := 54) (ci := 3) (k0 := 4) (q_d dX1_build_0 29 rfl) rfl rfl (by decide) rfl inX3 (by decide) rfl wF_X1_32 (rP hP' rfl) ?_
        refine T.iconst (pc' := 55) (v := nI 2) (q_d dX1_build_0 30 rfl) rfl (by decide) ?_
        refine T.iald (pc' := 56) (q_d dX1_build_0 31 rfl) rfl rfl (by decide) rfl (by omega) (by decide) (show M'.1 5 2 = s 6 from hs'.2.2.2.2.2.2.1 2 (by decide)) ?_
        refine T.callV (pc' := 59) (ci := 1) (q_d dX1_build_0 32 rfl) rfl uX1_listChecks wM_X1_46 (c_listChecks hP' hw h4) rfl rfl (by decide) rfl rfl (by decide) (Nat.le_of_ble_eq_true rfl) rfl rfl (fun _ => rfl) ?_
        rintro _ M2 ⟨rfl, f1, f2, f3, f4, f5⟩
        dsimp only [Option.toList, List.cons_append, List.nil_append, List.append_nil]
        refine T.vret (q_d dX1_build_0 33 rfl) rfl rfl rfl ?_
        refine ⟨rfl, f1.trans hF, fun a h9 => (f2 a (by omega)).trans (ha a h9), fun g h9 x hx => ?_, ?_, ?_, f4, f5⟩
        · rw [f2 (22 + g) (by omega)]; exact hg g h9 x hx
        · rw [f3 5 (by decide)]; exact h5
        · rw [f3 4 (by decide)]; exact h4
      · exact absurd h34 (by omega)
    | succ d ih =>
      intro k M' hk hF ha h5 h4 hg
      have hP' : M'.2.2 = pX pa sw := by rw [hF]; exact hP
      have hs' : RS M' 1 s := hs.mono (fun a h1 h2 => ha a (by omega))
      have h0 : M'.1 1 0 = s 0 := hs'.1
      refine T.iload_n (pc' := 30) (q_d dX1_build_0 17 rfl) rfl rfl rfl ?_
      refine T.aload_n (pc' := 31) (q_d dX1_build_0 18 rfl) rfl rfl rfl ?_
      refine T.getI (pc' := 34) (ci := 3) (k0 := 0) (q_d dX1_build_0 19 rfl) rfl rfl (by decide) rfl inX3 (by decide) rfl wF_X1_39 h0 ?_
      refine T.icmp_geN (tgt := 49) (pc' := 37) (q_d dX1_build_0 20 rfl) rfl (by decide) (by omega) (by omega) (fun h34 => ?_) (fun h34 => ?_)
      · exact absurd h34 (by omega)
      · refine T.aload_n (pc' := 38) (q_d dX1_build_0 21 rfl) rfl rfl rfl ?_
        refine T.aload_n (pc' := 39) (q_d dX1_build_0 22 rfl) rfl rfl rfl ?_
        refine T.iload_n (pc' := 40) (q_d dX1_build_0 23 rfl) rfl rfl rfl ?_
        refine T.callV (pc' := 43) (ci := 1) (q_d dX1_build_0 24 rfl) rfl uX1_buildPlace wM_X1_42 (c_buildPlace hP' hs' hw (show k < s 0 by omega) hg) rfl rfl (by decide) rfl rfl (by decide) (Nat.le_of_ble_eq_true rfl) rfl rfl (fun _ => rfl) ?_
        rintro _ M2 ⟨rfl, f1, f2, f3⟩
        dsimp only [Option.toList, List.cons_append, List.nil_append, List.append_nil]
        refine T.iinc (pc' := 46) (q_d dX1_build_0 25 rfl) rfl rfl (nN_p _ 1) (by decide) rfl rfl ?_
        refine T.goto (tgt := 29) (q_d dX1_build_0 26 rfl) (by decide) ?_
        exact ih (k + 1) M2 (by omega) (f1.trans hF) (fun a h9 => (f2 a (by omega)).trans (ha a h9)) (by rw [f2 20 (by omega)]; exact h5) (by rw [f2 20 (by omega)]; exact h4) f3
  have hst : ∀ {x : Nat}, (qI M 20 4 x).1 5 0 = s 4 := fun {x} => (qI_ne (Or.inl (by decide))).trans (show M.1 (1 + 4) 0 = s (4 + 0) from hs.2.2.2.2.2.2.1 0 (by decide))
  refine T.aload_n (pc' := 1) (q_d dX1_build_0 0 rfl) rfl rfl rfl ?_
  refine T.aload_n (pc' := 2) (q_d dX1_build_0 1 rfl) rfl rfl rfl ?_
  refine T.callV (pc' := 5) (ci := 3) (q_d dX1_build_0 2 rfl) rfl uX3_sets wM_X1_23 (c_sets ho1 hP hs hw) rfl rfl (by decide) rfl rfl (by decide) (Nat.le_of_ble_eq_true rfl) rfl rfl (fun _ => rfl) ?_
  rintro _ _ ⟨rfl, rfl⟩
  dsimp only [Option.toList, List.cons_append, List.nil_append, List.append_nil]
  refine T.putI (pc' := 8) (ci := 1) (k0 := 4) (q_d dX1_build_0 3 rfl) rfl rfl (by decide) rfl inX1 tyX1 tyX1_ok nmX1 (by decide) rfl wF_X1_29 rfl rfl rfl ?_
  refine T.aload_n (pc' := 9) (q_d dX1_build_0 4 rfl) rfl rfl rfl ?_
  refine T.aload_n (pc' := 10) (q_d dX1_build_0 5 rfl) rfl rfl rfl ?_
  refine T.getR (pc' := 13) (ci := 3) (k0 := 4) (q_d dX1_build_0 6 rfl) rfl rfl (by decide) rfl inX3 (by decide) rfl wF_X1_32 (rP hP rfl) ?_
  refine T.iconst (pc' := 14) (v := nI 0) (q_d dX1_build_0 7 rfl) rfl (by decide) ?_
  refine T.iald (pc' := 15) (q_d dX1_build_0 8 rfl) rfl rfl (by decide) rfl (by omega) (by decide) hst ?_
  refine T.iconst (pc' := 16) (v := nI 3) (q_d dX1_build_0 9 rfl) rfl (by decide) ?_
  refine T.icmp_neN (tgt := 23) (pc' := 19) (q_d dX1_build_0 10 rfl) rfl (by decide) (by omega) (by omega) (fun h16 => ?_) (fun h16 => ?_)
  · refine T.iconst (pc' := 24) (v := nI 0) (q_d dX1_build_0 13 rfl) rfl (by decide) ?_
    refine T.putI (pc' := 27) (ci := 1) (k0 := 5) (q_d dX1_build_0 14 rfl) rfl rfl (by decide) rfl inX1 tyX1 tyX1_ok nmX1 (by decide) rfl wF_X1_35 rfl (by decide) (by decide) ?_
    refine T.iconst (pc' := 28) (v := nI 0) (q_d dX1_build_0 15 rfl) rfl (by decide) ?_
    refine T.istore_n (pc' := 29) (q_d dX1_build_0 16 rfl) rfl rfl (by decide) rfl rfl ?_
    refine loopB (s 0) 0 _ (by omega) rfl (fun a h9 => ?_) ?_ ?_ (fun g h9 x hx => ?_)
    · funext j; rw [qI_ne (Or.inl (by omega)), qI_ne (Or.inl (by omega))]
    · rw [qI_eq]; first | rw [if_pos h16] | rw [if_neg h16]
    · rw [qI_ne (Or.inr (by decide)), qI_eq, Nat.one_shiftLeft]
    · rw [show x = 0 by simpa using hx, qI_ne (Or.inl (by omega)), qI_ne (Or.inl (by omega)), hz g h9]; rfl
  · refine T.iconst (pc' := 20) (v := nI 1) (q_d dX1_build_0 11 rfl) rfl (by decide) ?_
    refine T.goto (tgt := 24) (q_d dX1_build_0 12 rfl) (by decide) ?_
    refine T.putI (pc' := 27) (ci := 1) (k0 := 5) (q_d dX1_build_0 14 rfl) rfl rfl (by decide) rfl inX1 tyX1 tyX1_ok nmX1 (by decide) rfl wF_X1_35 rfl (by decide) (by decide) ?_
    refine T.iconst (pc' := 28) (v := nI 0) (q_d dX1_build_0 15 rfl) rfl (by decide) ?_
    refine T.istore_n (pc' := 29) (q_d dX1_build_0 16 rfl) rfl rfl (by decide) rfl rfl ?_
    refine loopB (s 0) 0 _ (by omega) rfl (fun a h9 => ?_) ?_ ?_ (fun g h9 x hx => ?_)
    · funext j; rw [qI_ne (Or.inl (by omega)), qI_ne (Or.inl (by omega))]
    · rw [qI_eq]; first | rw [if_pos h16] | rw [if_neg h16]
    · rw [qI_ne (Or.inr (by decide)), qI_eq, Nat.one_shiftLeft]
    · rw [show x = 0 by simpa using hx, qI_ne (Or.inl (by omega)), qI_ne (Or.inl (by omega)), hz g h9]; rfl
theorem c_canBeRound (ho : SO o) (hP : M.2.2 = pX pa sw) (hs : RS M o s) (hw : WF b s) (hT : RT M s) {c g : Nat} (hg : g < 4) : Ct l hdX kX mX3_canBeRound [.ref o, .ref 20, .int (nI c), .int (nI g)] M (fun v M' => M = M' ∧ ((v = some (.int (nI 1)) ∧ canR s c g) ∨ (v = some (.int (nI 0)) ∧ ¬ canR s c g))) := by
  refine Ct.of [some (.ref o), some (.ref 20), some (.int (nI c)), some (.int (nI g)), none] (by decide +kernel) (fun h => absurd h (by decide)) (Nat.le_of_ble_eq_true rfl) rfl ?_
  have h1 := hs.2.1
  have w0 := p2_le hw.1
  have w1 := hw.2.1
  have wt := thn_lt (s := s) (b := s 1) (c := c) (g := g) hw.1
  have wd : dif (s 1) c < 2 ^ s 0 := dif_lt w1
  have ed : s 1 &&& (c ^^^ 4294967295) = dif (s 1) c := rfl
  refine T.aload_n (pc' := 1) (q_d dX3_canBeRound_0 0 rfl) rfl rfl rfl ?_
  refine T.getI (pc' := 4) (ci := 3) (k0 := 5) (q_d dX3_canBeRound_0 1 rfl) rfl (SO.o ho) (Nat.lt_of_le_of_lt (Nat.le_add_right _ _) (SO.lt ho)) rfl inX3 (by decide) rfl wF_X3_37 h1 ?_
  refine T.if_neN (tgt := 9) (pc' := 7) (q_d dX3_canBeRound_0 2 rfl) rfl (by decide) (by omega) (fun h4 => ?_) (fun h4 => ?_)
  · refine T.aload_n (pc' := 10) (q_d dX3_canBeRound_0 5 rfl) rfl rfl rfl ?_
    refine T.getI (pc' := 13) (ci := 3) (k0 := 5) (q_d dX3_canBeRound_0 6 rfl) rfl (SO.o ho) (Nat.lt_of_le_of_lt (Nat.le_add_right _ _) (SO.lt ho)) rfl inX3 (by decide) rfl wF_X3_37 h1 ?_
    refine T.iload_n (pc' := 14) (q_d dX3_canBeRound_0 7 rfl) rfl rfl rfl ?_
    refine T.iconst (pc' := 15) (v := nI 4294967295) (q_d dX3_canBeRound_0 8 rfl) rfl (by decide) ?_
    refine T.ixor (pc' := 16) (q_d dX3_canBeRound_0 9 rfl) rfl (nN_xor _ _) ?_
    refine T.iand (pc' := 17) (q_d dX3_canBeRound_0 10 rfl) rfl ((nN_and _ _).trans (by rw [ed])) ?_
    refine T.if_neN (tgt := 24) (pc' := 20) (q_d dX3_canBeRound_0 11 rfl) rfl (by decide) (by omega) (fun h17 => ?_) (fun h17 => ?_)
    · refine T.iconst (pc' := 25) (v := nI 0) (q_d dX3_canBeRound_0 14 rfl) rfl (by decide) ?_
      refine T.istore (pc' := 27) (q_d dX3_canBeRound_0 15 rfl) rfl (by decide) rfl rfl ?_
      refine T.iload (pc' := 29) (q_d dX3_canBeRound_0 16 rfl) rfl rfl ?_
      refine T.if_neN (tgt := 45) (pc' := 32) (q_d dX3_canBeRound_0 17 rfl) rfl (by decide) (by omega) (fun h29 => ?_) (fun h29 => ?_)
      · refine T.iconst (pc' := 46) (v := nI 1) (q_d dX3_canBeRound_0 25 rfl) rfl (by decide) ?_
        refine T.goto (tgt := 50) (q_d dX3_canBeRound_0 26 rfl) (by decide) ?_
        refine T.zret (q_d dX3_canBeRound_0 28 rfl) rfl (by decide) rfl rfl ?_
        first
          | exact ⟨rfl, Or.inl ⟨rfl, h4, Or.inl h17⟩⟩
          | exact ⟨rfl, Or.inl ⟨rfl, h4, Or.inr h42⟩⟩
          | exact ⟨rfl, Or.inr ⟨rfl, fun h => h.2.elim h17 (fun h9 => h9 h42)⟩⟩
          | exact absurd h29 (by decide)
      · refine T.aload_n (pc' := 33) (q_d dX3_canBeRound_0 18 rfl) rfl rfl rfl ?_
        refine T.aload_n (pc' := 34) (q_d dX3_canBeRound_0 19 rfl) rfl rfl rfl ?_
        refine T.getI (pc' := 37) (ci := 3) (k0 := 5) (q_d dX3_canBeRound_0 20 rfl) rfl (SO.o ho) (Nat.lt_of_le_of_lt (Nat.le_add_right _ _) (SO.lt ho)) rfl inX3 (by decide) rfl wF_X3_37 h1 ?_
        refine T.iload_n (pc' := 38) (q_d dX3_canBeRound_0 21 rfl) rfl rfl rfl ?_
        refine T.iload_n (pc' := 39) (q_d dX3_canBeRound_0 22 rfl) rfl rfl rfl ?_
        refine T.callV (pc' := 42) (ci := 1) (q_d dX3_canBeRound_0 23 rfl) rfl uX1_after wM_X3_59 (c_after hP hw hT w1 (show g < 5 by omega)) rfl rfl (by decide) rfl rfl (by decide) (Nat.le_of_ble_eq_true rfl) rfl rfl (fun _ => rfl) ?_
        rintro _ _ ⟨rfl, rfl⟩
        dsimp only [Option.toList, List.cons_append, List.nil_append, List.append_nil]
        refine T.if_eqN (tgt := 49) (pc' := 45) (q_d dX3_canBeRound_0 24 rfl) rfl (by decide) (by omega) (fun h42 => ?_) (fun h42 => ?_)
        · refine T.iconst (pc' := 50) (v := nI 0) (q_d dX3_canBeRound_0 27 rfl) rfl (by decide) ?_
          refine T.zret (q_d dX3_canBeRound_0 28 rfl) rfl (by decide) rfl rfl ?_
          first
            | exact ⟨rfl, Or.inl ⟨rfl, h4, Or.inl h17⟩⟩
            | exact ⟨rfl, Or.inl ⟨rfl, h4, Or.inr h42⟩⟩
            | exact ⟨rfl, Or.inr ⟨rfl, fun h => h.2.elim h17 (fun h9 => h9 h42)⟩⟩
            | exact absurd h29 (by decide)
        · refine T.iconst (pc' := 46) (v := nI 1) (q_d dX3_canBeRound_0 25 rfl) rfl (by decide) ?_
          refine T.goto (tgt := 50) (q_d dX3_canBeRound_0 26 rfl) (by decide) ?_
          refine T.zret (q_d dX3_canBeRound_0 28 rfl) rfl (by decide) rfl rfl ?_
          first
            | exact ⟨rfl, Or.inl ⟨rfl, h4, Or.inl h17⟩⟩
            | exact ⟨rfl, Or.inl ⟨rfl, h4, Or.inr h42⟩⟩
            | exact ⟨rfl, Or.inr ⟨rfl, fun h => h.2.elim h17 (fun h9 => h9 h42)⟩⟩
            | exact absurd h29 (by decide)
    · refine T.iconst (pc' := 21) (v := nI 1) (q_d dX3_canBeRound_0 12 rfl) rfl (by decide) ?_
      refine T.goto (tgt := 25) (q_d dX3_canBeRound_0 13 rfl) (by decide) ?_
      refine T.istore (pc' := 27) (q_d dX3_canBeRound_0 15 rfl) rfl (by decide) rfl rfl ?_
      refine T.iload (pc' := 29) (q_d dX3_canBeRound_0 16 rfl) rfl rfl ?_
      refine T.if_neN (tgt := 45) (pc' := 32) (q_d dX3_canBeRound_0 17 rfl) rfl (by decide) (by omega) (fun h29 => ?_) (fun h29 => ?_)
      · refine T.iconst (pc' := 46) (v := nI 1) (q_d dX3_canBeRound_0 25 rfl) rfl (by decide) ?_
        refine T.goto (tgt := 50) (q_d dX3_canBeRound_0 26 rfl) (by decide) ?_
        refine T.zret (q_d dX3_canBeRound_0 28 rfl) rfl (by decide) rfl rfl ?_
        first
          | exact ⟨rfl, Or.inl ⟨rfl, h4, Or.inl h17⟩⟩
          | exact ⟨rfl, Or.inl ⟨rfl, h4, Or.inr h42⟩⟩
          | exact ⟨rfl, Or.inr ⟨rfl, fun h => h.2.elim h17 (fun h9 => h9 h42)⟩⟩
          | exact absurd h29 (by decide)
      · refine T.aload_n (pc' := 33) (q_d dX3_canBeRound_0 18 rfl) rfl rfl rfl ?_
        refine T.aload_n (pc' := 34) (q_d dX3_canBeRound_0 19 rfl) rfl rfl rfl ?_
        refine T.getI (pc' := 37) (ci := 3) (k0 := 5) (q_d dX3_canBeRound_0 20 rfl) rfl (SO.o ho) (Nat.lt_of_le_of_lt (Nat.le_add_right _ _) (SO.lt ho)) rfl inX3 (by decide) rfl wF_X3_37 h1 ?_
        refine T.iload_n (pc' := 38) (q_d dX3_canBeRound_0 21 rfl) rfl rfl rfl ?_
        refine T.iload_n (pc' := 39) (q_d dX3_canBeRound_0 22 rfl) rfl rfl rfl ?_
        refine T.callV (pc' := 42) (ci := 1) (q_d dX3_canBeRound_0 23 rfl) rfl uX1_after wM_X3_59 (c_after hP hw hT w1 (show g < 5 by omega)) rfl rfl (by decide) rfl rfl (by decide) (Nat.le_of_ble_eq_true rfl) rfl rfl (fun _ => rfl) ?_
        rintro _ _ ⟨rfl, rfl⟩
        dsimp only [Option.toList, List.cons_append, List.nil_append, List.append_nil]
        refine T.if_eqN (tgt := 49) (pc' := 45) (q_d dX3_canBeRound_0 24 rfl) rfl (by decide) (by omega) (fun h42 => ?_) (fun h42 => ?_)
        · refine T.iconst (pc' := 50) (v := nI 0) (q_d dX3_canBeRound_0 27 rfl) rfl (by decide) ?_
          refine T.zret (q_d dX3_canBeRound_0 28 rfl) rfl (by decide) rfl rfl ?_
          first
            | exact ⟨rfl, Or.inl ⟨rfl, h4, Or.inl h17⟩⟩
            | exact ⟨rfl, Or.inl ⟨rfl, h4, Or.inr h42⟩⟩
            | exact ⟨rfl, Or.inr ⟨rfl, fun h => h.2.elim h17 (fun h9 => h9 h42)⟩⟩
            | exact absurd h29 (by decide)
        · refine T.iconst (pc' := 46) (v := nI 1) (q_d dX3_canBeRound_0 25 rfl) rfl (by decide) ?_
          refine T.goto (tgt := 50) (q_d dX3_canBeRound_0 26 rfl) (by decide) ?_
          refine T.zret (q_d dX3_canBeRound_0 28 rfl) rfl (by decide) rfl rfl ?_
          first
            | exact ⟨rfl, Or.inl ⟨rfl, h4, Or.inl h17⟩⟩
            | exact ⟨rfl, Or.inl ⟨rfl, h4, Or.inr h42⟩⟩
            | exact ⟨rfl, Or.inr ⟨rfl, fun h => h.2.elim h17 (fun h9 => h9 h42)⟩⟩
            | exact absurd h29 (by decide)
  · refine T.iconst (pc' := 8) (v := nI 0) (q_d dX3_canBeRound_0 3 rfl) rfl (by decide) ?_
    refine T.zret (q_d dX3_canBeRound_0 4 rfl) rfl (by decide) rfl rfl ?_
    exact ⟨rfl, Or.inr ⟨rfl, fun h => h.1 h4⟩⟩
theorem c_addRound (ho : SO o) (hP : M.2.2 = pX pa sw) (hs : RS M o s) (hw : WF b s) (hT : RT M s) {c g : Nat} (hg : g < 4) : Ct l hdX kX mX3_addRound [.ref o, .ref 20, .int (nI c), .int (nI g)] M (fun v M' => v = none ∧ M' = qI (qI (qI (qI (qI M o 5 (thn s (s 1) c g)) (o + 5) (s 2 % 8) c) (o + 6) (s 2 % 8) g) (o + 7) (s 2 % 8) (thn s (s 1) c g)) o 6 (s 2 + 1)) := by
  refine Ct.of [some (.ref o), some (.ref 20), some (.int (nI c)), some (.int (nI g)), none] (by decide +kernel) (fun h => absurd h (by decide)) (Nat.le_of_ble_eq_true rfl) rfl ?_
  have h1 := hs.2.1
  have h2 := hs.2.2.1
  have w1 := hw.2.1
  have m8 : s 2 % 8 < 8 := Nat.mod_lt _ (by decide)
  refine T.aload_n (pc' := 1) (q_d dX3_addRound_0 0 rfl) rfl rfl rfl ?_
  refine T.aload_n (pc' := 2) (q_d dX3_addRound_0 1 rfl) rfl rfl rfl ?_
  refine T.aload_n (pc' := 3) (q_d dX3_addRound_0 2 rfl) rfl rfl rfl ?_
  refine T.getI (pc' := 6) (ci := 3) (k0 := 5) (q_d dX3_addRound_0 3 rfl) rfl (SO.o ho) (Nat.lt_of_le_of_lt (Nat.le_add_right _ _) (SO.lt ho)) rfl inX3 (by decide) rfl wF_X3_37 h1 ?_
  refine T.iload_n (pc' := 7) (q_d dX3_addRound_0 4 rfl) rfl rfl rfl ?_
  refine T.iload_n (pc' := 8) (q_d dX3_addRound_0 5 rfl) rfl rfl rfl ?_
  refine T.callV (pc' := 11) (ci := 1) (q_d dX3_addRound_0 6 rfl) rfl uX1_after wM_X3_59 (c_after hP hw hT w1 (show g < 5 by omega)) rfl rfl (by decide) rfl rfl (by decide) (Nat.le_of_ble_eq_true rfl) rfl rfl (fun _ => rfl) ?_
  rintro _ _ ⟨rfl, rfl⟩
  dsimp only [Option.toList, List.cons_append, List.nil_append, List.append_nil]
  refine T.putI (pc' := 14) (ci := 3) (k0 := 5) (q_d dX3_addRound_0 7 rfl) rfl (SO.o ho) (Nat.lt_of_le_of_lt (Nat.le_add_right _ _) (SO.lt ho)) rfl inX3 tyX3 tyX3_ok nmX3 (by decide) rfl wF_X3_37 rfl rfl rfl ?_
  refine T.aload_n (pc' := 15) (q_d dX3_addRound_0 8 rfl) rfl rfl rfl ?_
  refine T.getI (pc' := 18) (ci := 3) (k0 := 6) (q_d dX3_addRound_0 9 rfl) rfl (SO.o ho) (Nat.lt_of_le_of_lt (Nat.le_add_right _ _) (SO.lt ho)) rfl inX3 (by decide) rfl wF_X3_40 ((qI_ne (Or.inr (by decide))).trans h2) ?_
  refine T.callS (pc' := 21) (q_d dX3_addRound_0 10 rfl) rfl uX3_rowOfRound wM_X3_65 c_rowOfRound rfl rfl (by decide) (Nat.le_of_ble_eq_true rfl) rfl rfl (fun _ => rfl) ?_
  rintro _ _ ⟨rfl, rfl⟩
  dsimp only [Option.toList, List.cons_append, List.nil_append, List.append_nil]
  refine T.istore (pc' := 23) (q_d dX3_addRound_0 11 rfl) rfl (by decide) rfl rfl ?_
  refine T.aload_n (pc' := 24) (q_d dX3_addRound_0 12 rfl) rfl rfl rfl ?_
  refine T.getR (pc' := 27) (ci := 3) (k0 := 7) (q_d dX3_addRound_0 13 rfl) rfl (SO.o ho) (Nat.lt_of_le_of_lt (Nat.le_add_right _ _) (SO.lt ho)) rfl inX3 (by decide) rfl wF_X3_24 (rP hP (SO.p7 ho)) ?_
  refine T.iload (pc' := 29) (q_d dX3_addRound_0 14 rfl) rfl rfl ?_
  refine T.iload_n (pc' := 30) (q_d dX3_addRound_0 15 rfl) rfl rfl rfl ?_
  refine T.iast (pc' := 31) (q_d dX3_addRound_0 16 rfl) rfl (SO.a5 ho) (Nat.lt_of_le_of_lt (by omega) (SO.lt ho)) rfl (by omega) (by decide) ?_
  refine T.aload_n (pc' := 32) (q_d dX3_addRound_0 17 rfl) rfl rfl rfl ?_
  refine T.getR (pc' := 35) (ci := 3) (k0 := 8) (q_d dX3_addRound_0 18 rfl) rfl (SO.o ho) (Nat.lt_of_le_of_lt (Nat.le_add_right _ _) (SO.lt ho)) rfl inX3 (by decide) rfl wF_X3_27 (rP hP (SO.p8 ho)) ?_
  refine T.iload (pc' := 37) (q_d dX3_addRound_0 19 rfl) rfl rfl ?_
  refine T.iload_n (pc' := 38) (q_d dX3_addRound_0 20 rfl) rfl rfl rfl ?_
  refine T.iast (pc' := 39) (q_d dX3_addRound_0 21 rfl) rfl (SO.a6 ho) (Nat.lt_of_le_of_lt (by omega) (SO.lt ho)) rfl (by omega) (by decide) ?_
  refine T.aload_n (pc' := 40) (q_d dX3_addRound_0 22 rfl) rfl rfl rfl ?_
  refine T.getR (pc' := 43) (ci := 3) (k0 := 9) (q_d dX3_addRound_0 23 rfl) rfl (SO.o ho) (Nat.lt_of_le_of_lt (Nat.le_add_right _ _) (SO.lt ho)) rfl inX3 (by decide) rfl wF_X3_30 (rP hP (SO.p9 ho)) ?_
  refine T.iload (pc' := 45) (q_d dX3_addRound_0 24 rfl) rfl rfl ?_
  refine T.aload_n (pc' := 46) (q_d dX3_addRound_0 25 rfl) rfl rfl rfl ?_
  refine T.getI (pc' := 49) (ci := 3) (k0 := 5) (q_d dX3_addRound_0 26 rfl) rfl (SO.o ho) (Nat.lt_of_le_of_lt (Nat.le_add_right _ _) (SO.lt ho)) rfl inX3 (by decide) rfl wF_X3_37 (by rw [qI_ne (Or.inl (by omega)), qI_ne (Or.inl (by omega)), qI_eq]) ?_
  refine T.iast (pc' := 50) (q_d dX3_addRound_0 27 rfl) rfl (SO.a7 ho) (Nat.lt_of_le_of_lt (by omega) (SO.lt ho)) rfl (by omega) (by decide) ?_
  refine T.aload_n (pc' := 51) (q_d dX3_addRound_0 28 rfl) rfl rfl rfl ?_
  refine T.dup (pc' := 52) (q_d dX3_addRound_0 29 rfl) rfl rfl ?_
  refine T.getI (pc' := 55) (ci := 3) (k0 := 6) (q_d dX3_addRound_0 30 rfl) rfl (SO.o ho) (Nat.lt_of_le_of_lt (Nat.le_add_right _ _) (SO.lt ho)) rfl inX3 (by decide) rfl wF_X3_40 (by rw [qI_ne (Or.inl (by omega)), qI_ne (Or.inl (by omega)), qI_ne (Or.inl (by omega)), qI_ne (Or.inr (by decide)), h2]) ?_
  refine T.iconst (pc' := 56) (v := nI 1) (q_d dX3_addRound_0 31 rfl) rfl (by decide) ?_
  refine T.iadd (pc' := 57) (q_d dX3_addRound_0 32 rfl) rfl (nI_add _ _) ?_
  refine T.putI (pc' := 60) (ci := 3) (k0 := 6) (q_d dX3_addRound_0 33 rfl) rfl (SO.o ho) (Nat.lt_of_le_of_lt (Nat.le_add_right _ _) (SO.lt ho)) rfl inX3 tyX3 tyX3_ok nmX3 (by decide) rfl wF_X3_40 rfl rfl rfl ?_
  refine T.vret (q_d dX3_addRound_0 34 rfl) rfl rfl rfl ?_
  exact ⟨rfl, rfl⟩
end CX1B
theorem RS_round {M : qM} {o b : Nat} {s : Nat → Nat} (hs : RS M o s) (hw : WF b s) {c g : Nat} : RS (qI (qI (qI (qI (qI M o 5 (thn s (s 1) c g)) (o + 5) (s 2 % 8) c) (o + 6) (s 2 % 8) g) (o + 7) (s 2 % 8) (thn s (s 1) c g)) o 6 (s 2 + 1)) o (sRound s c g) := by
  obtain ⟨e0, e1, e2, e3, e4, e5, e6, e7⟩ := hs
  have f : ∀ j, j ≠ 1 → j ≠ 2 → j ≠ 3 → j < 28 → sRound s c g j = s j := fun j a1 a2 a3 a4 => by
    unfold sRound
    rw [if_neg a1, if_neg a2, if_neg a3, if_neg (by omega), if_neg (by omega), if_neg (by omega), if_neg (by omega)]
  refine ⟨?_, ?_, ?_, fun i hi => ?_, fun i hi => ?_, fun i hi => ?_, fun i hi => ?_, fun k hk hk2 => ?_⟩
  · rw [qI_ne (Or.inr (by decide)), qI_ne (Or.inl (by omega)), qI_ne (Or.inl (by omega)), qI_ne (Or.inl (by omega)), qI_ne (Or.inr (by decide)), f 0 (by decide) (by decide) (by decide) (by decide)]; exact e0
  · rw [qI_ne (Or.inr (by decide)), qI_ne (Or.inl (by omega)), qI_ne (Or.inl (by omega)), qI_ne (Or.inl (by omega)), qI_eq]; rfl
  · rw [qI_eq]; rfl
  · rw [qI_ne (Or.inl (by omega)), qI_ne (Or.inl (by omega)), qI_ne (Or.inl (by omega)), qI_ne (Or.inl (by omega)), qI_ne (Or.inl (by omega)), f _ (by omega) (by omega) (by omega) (by omega)]; exact e3 i hi
  · rw [qI_ne (Or.inl (by omega)), qI_ne (Or.inl (by omega)), qI_ne (Or.inl (by omega)), qI_ne (Or.inl (by omega)), qI_ne (Or.inl (by omega)), f _ (by omega) (by omega) (by omega) (by omega)]; exact e4 i hi
  · rw [qI_ne (Or.inl (by omega)), qI_ne (Or.inl (by omega)), qI_ne (Or.inl (by omega)), qI_ne (Or.inl (by omega)), qI_ne (Or.inl (by omega)), f _ (by omega) (by omega) (by omega) (by omega)]; exact e5 i hi
  · rw [qI_ne (Or.inl (by omega)), qI_ne (Or.inl (by omega)), qI_ne (Or.inl (by omega)), qI_ne (Or.inl (by omega)), qI_ne (Or.inl (by omega)), f _ (by omega) (by omega) (by omega) (by omega)]; exact e6 i hi
  · have h2 : sRound s c g 2 = s 2 + 1 := rfl
    rw [h2] at hk2 ⊢
    by_cases e : k = 0
    · subst e
      rw [show (s 2 + 1 - 1 - 0) % 8 = s 2 % 8 by omega]
      refine ⟨?_, ?_, ?_⟩
      · rw [qI_ne (Or.inl (by omega)), qI_ne (Or.inl (by omega)), qI_ne (Or.inl (by omega)), qI_eq]; rfl
      · rw [qI_ne (Or.inl (by omega)), qI_ne (Or.inl (by omega)), qI_eq]; rfl
      · rw [qI_ne (Or.inl (by omega)), qI_eq]; rfl
    · have h9 := e7 (k - 1) (by omega) (by omega)
      have hne : (s 2 + 1 - 1 - k) % 8 ≠ s 2 % 8 := by omega
      have hix : (s 2 + 1 - 1 - k) % 8 = (s 2 - 1 - (k - 1)) % 8 := by omega
      have g1 : ∀ j, 31 ≤ j → j < 52 → sRound s c g j = s (j - 3) := fun j a1 a2 => by
        unfold sRound
        rw [if_neg (by omega), if_neg (by omega), if_neg (by omega), if_neg (by omega), if_neg (by omega), if_neg (by omega), if_pos ⟨a1, a2⟩]
      rw [g1 _ (by omega) (by omega), g1 _ (by omega) (by omega), g1 _ (by omega) (by omega), show 28 + 3 * k - 3 = 28 + 3 * (k - 1) by omega, show 29 + 3 * k - 3 = 29 + 3 * (k - 1) by omega, show 30 + 3 * k - 3 = 30 + 3 * (k - 1) by omega]
      refine ⟨?_, ?_, ?_⟩
      · rw [qI_ne (Or.inl (by omega)), qI_ne (Or.inl (by omega)), qI_ne (Or.inl (by omega)), qI_ne (Or.inr hne), qI_ne (Or.inl (by omega)), hix]; exact h9.1
      · rw [qI_ne (Or.inl (by omega)), qI_ne (Or.inl (by omega)), qI_ne (Or.inr hne), qI_ne (Or.inl (by omega)), qI_ne (Or.inl (by omega)), hix]; exact h9.2.1
      · rw [qI_ne (Or.inl (by omega)), qI_ne (Or.inr hne), qI_ne (Or.inl (by omega)), qI_ne (Or.inl (by omega)), qI_ne (Or.inl (by omega)), hix]; exact h9.2.2
end
section
/-! BlindHunts$Hunt -/
def nc (v : Nat) : Nat := if v = 1000 then 4294967295 else v
def RHs (M : qM) (h : Nat) (st : (Nat → Nat) × (Nat → Nat)) : Prop := ∀ x, x < 128 → M.1 (h + 1) x = nc (st.1 x) ∧ M.1 (h + 2) x = st.2 x
def HO (h g0 g1 : Nat) : Prop := (h = 29 ∧ g0 = 0 ∧ g1 = 3) ∨ (h = 32 ∧ g0 = 4 ∧ g1 = 4)
theorem HO.o {h g0 g1 : Nat} (q : HO h g0 g1) : hdX h = .inl 0 := by rcases q with ⟨rfl, -⟩ | ⟨rfl, -⟩ <;> rfl
theorem HO.a1 {h g0 g1 : Nat} (q : HO h g0 g1) : hdX (h + 1) = .inr (0, 128) := by rcases q with ⟨rfl, -⟩ | ⟨rfl, -⟩ <;> rfl
theorem HO.a2 {h g0 g1 : Nat} (q : HO h g0 g1) : hdX (h + 2) = .inr (0, 128) := by rcases q with ⟨rfl, -⟩ | ⟨rfl, -⟩ <;> rfl
theorem HO.lt {h g0 g1 : Nat} (q : HO h g0 g1) : h + 2 < 71 := by rcases q with ⟨rfl, -⟩ | ⟨rfl, -⟩ <;> decide
theorem HO.ge {h g0 g1 : Nat} (q : HO h g0 g1) : 29 ≤ h := by rcases q with ⟨rfl, -⟩ | ⟨rfl, -⟩ <;> decide
theorem HO.p0 {h g0 g1 : Nat} (q : HO h g0 g1) {pa : Nat → Nat} {sw : Bool} : pX pa sw h 0 = some (h + 1) := by rcases q with ⟨rfl, -⟩ | ⟨rfl, -⟩ <;> rfl
theorem HO.p1 {h g0 g1 : Nat} (q : HO h g0 g1) {pa : Nat → Nat} {sw : Bool} : pX pa sw h 1 = some (h + 2) := by rcases q with ⟨rfl, -⟩ | ⟨rfl, -⟩ <;> rfl
theorem HO.le {h g0 g1 : Nat} (q : HO h g0 g1) : g0 ≤ g1 ∧ g1 ≤ 4 := by rcases q with ⟨rfl, rfl, rfl⟩ | ⟨rfl, rfl, rfl⟩ <;> decide
theorem nc_lt {v : Nat} (h : v = 1000 ∨ v ≤ 127) : nc v < 4294967296 := by unfold nc; split <;> omega
theorem nc_m1 {v : Nat} (h : v = 1000 ∨ v ≤ 127) : nc v = 4294967295 ↔ v = 1000 := by unfold nc; split <;> omega
theorem nc_id {v : Nat} (h : v ≠ 1000) : nc v = v := if_neg h
theorem fstC_ck {s nd : Nat → Nat} {g0 g1 lv x : Nat} : fstC s nd g0 g1 lv x = (ckN s (2 ^ s 0)).find? (enough s nd g0 g1 lv x) := by
  unfold fstC ckN
  rw [List.find?_filter]
  congr 1
  funext c
  unfold goodC
  rw [Bool.eq_iff_iff]
  simp
theorem enough_congr {s nd nd' : Nat → Nat} {g0 g1 lv x : Nat} (hg : g1 ≤ 4) (h : ∀ y, nd y < lv ↔ nd' y < lv) : enough s nd g0 g1 lv x = enough s nd' g0 g1 lv x := by
  funext c
  rw [Bool.eq_iff_iff, enough_iff hg, enough_iff hg]
  exact ⟨fun q g a b => (h _).mp (q g a b), fun q g a b => (h _).mpr (q g a b)⟩
/-- a part that is not settled keeps a belief from being settled -/
theorem part_no {s : Nat → Nat} {g0 g1 k j p : Nat} (h7 : s 0 ≤ 7) (hg : g1 ≤ 4) (hk : k < 900) (hj : j < 2 ^ s 0) (hp : p < 7) (hy : (solN s g0 g1 (k + 1)).1 (dif j (1 <<< p)) = 1000) : newly s (solN s g0 g1 k).1 g0 g1 (k + 1) j = false := by
  cases hn : newly s (solN s g0 g1 k).1 g0 g1 (k + 1) j with
  | false => rfl
  | true =>
    have h1 : (solN s g0 g1 (k + 1)).1 j = k + 1 := by simp only [solN]; rw [if_pos hn]
    have h2 := sol_sub (g0 := g0) h7 hg (k + 1) j (dif j (1 <<< p)) (by omega) hj (fun i hi => by
      have h3 : i < 7 := Nat.lt_of_lt_of_le (lt_bit (dif_lt hj) hi) h7
      exact ((dif_bit (by omega)).mp hi).1)
    omega
theorem dif_less {j p : Nat} (hp : p < 32) (hb : j.testBit p = true) : dif j (1 <<< p) < j := by
  refine Nat.lt_of_le_of_ne Nat.and_le_left (fun e => ?_)
  have h1 : (dif j (1 <<< p)).testBit p = true := by rw [e]; exact hb
  have h2 := ((dif_bit hp).mp h1).2
  rw [one_bit.mpr rfl] at h2
  cases h2
section CX0
variable {l : Launch} {M : qM} {h g0 g1 b : Nat} {s : Nat → Nat} {pa : Nat → Nat} {sw : Bool}
theorem c_leadsLower (hh : HO h g0 g1) (hP : M.2.2 = pX pa sw) (hw : WF b s) (hT : RT M s) (h2 : M.1 h 2 = g0) (h3 : M.1 h 3 = g1) {nd : Nat → Nat} (hn : ∀ y, y < 128 → M.1 (h + 1) y = nc (nd y)) (hv : ∀ y, nd y = 1000 ∨ nd y ≤ 127) {x c lv : Nat} (hx : x < 2 ^ s 0) (hl : lv ≤ 127) :
    Ct l hdX kX mX0_leadsLower [.ref h, .ref 20, .int (nI x), .int (nI c), .int (nI lv)] M (RI M (if enough s nd g0 g1 lv x c = true then 1 else 0)) := by
  refine Ct.of [some (.ref h), some (.ref 20), some (.int (nI x)), some (.int (nI c)), some (.int (nI lv)), none, none] (by decide +kernel) (fun h => absurd h (by decide)) (Nat.le_of_ble_eq_true rfl) rfl ?_
  have hle := hh.le
  have w0 := p2_le hw.1
  have loop : ∀ d r, r + d = g1 + 1 → g0 ≤ r → (∀ g, g0 ≤ g → g < r → nd (thn s x c g) < lv) →
      T l hdX kX mX0_leadsLower (RI M (if enough s nd g0 g1 lv x c = true then 1 else 0)) 0 0 6 [some (.ref h), some (.ref 20), some (.int (nI x)), some (.int (nI c)), some (.int (nI lv)), some (.int (nI r)), none] [] M := by
    intro d
    induction d with
    | zero =>
      intro r hr hr0 hg
      refine T.iload (pc' := 8) (q_d dX0_leadsLower_0 3 rfl) rfl rfl ?_
      refine T.aload_n (pc' := 9) (q_d dX0_leadsLower_0 4 rfl) rfl rfl rfl ?_
      refine T.getI (pc' := 12) (ci := 0) (k0 := 3) (q_d dX0_leadsLower_0 5 rfl) rfl (HO.o hh) (Nat.lt_of_le_of_lt (Nat.le_add_right _ _) (HO.lt hh)) rfl inX0 (by decide) rfl wF_X0_22 h3 ?_
      refine T.icmp_gtN (tgt := 51) (pc' := 15) (q_d dX0_leadsLower_0 6 rfl) rfl (by decide) (by omega) (by omega) (fun h12 => ?_) (fun h12 => ?_)
      · refine T.iconst (pc' := 52) (v := nI 1) (q_d dX0_leadsLower_0 26 rfl) rfl (by decide) ?_
        refine T.zret (q_d dX0_leadsLower_0 27 rfl) rfl (by decide) rfl rfl ?_
        exact ⟨rfl, by rw [if_pos ((enough_iff hle.2).mpr (fun g a1 a2 => hg g a1 (by omega)))]⟩
      · exact absurd h12 (by omega)
    | succ d ih =>
      intro r hr hr0 hg
      have ht := thn_lt (s := s) (b := x) (c := c) (g := r) hw.1
      have hv1 := hv (thn s x c r)
      have hnl := nc_lt hv1
      have hm := nc_m1 hv1
      refine T.iload (pc' := 8) (q_d dX0_leadsLower_0 3 rfl) rfl rfl ?_
      refine T.aload_n (pc' := 9) (q_d dX0_leadsLower_0 4 rfl) rfl rfl rfl ?_
      refine T.getI (pc' := 12) (ci := 0) (k0 := 3) (q_d dX0_leadsLower_0 5 rfl) rfl (HO.o hh) (Nat.lt_of_le_of_lt (Nat.le_add_right _ _) (HO.lt hh)) rfl inX0 (by decide) rfl wF_X0_22 h3 ?_
      refine T.icmp_gtN (tgt := 51) (pc' := 15) (q_d dX0_leadsLower_0 6 rfl) rfl (by decide) (by omega) (by omega) (fun h12 => ?_) (fun h12 => ?_)
      · exact absurd h12 (by omega)
      · refine T.aload_n (pc' := 16) (q_d dX0_leadsLower_0 7 rfl) rfl rfl rfl ?_
        refine T.getR (pc' := 19) (ci := 0) (k0 := 0) (q_d dX0_leadsLower_0 8 rfl) rfl (HO.o hh) (Nat.lt_of_le_of_lt (Nat.le_add_right _ _) (HO.lt hh)) rfl inX0 (by decide) rfl wF_X0_9 (rP hP (HO.p0 hh)) ?_
        refine T.aload_n (pc' := 20) (q_d dX0_leadsLower_0 9 rfl) rfl rfl rfl ?_
        refine T.iload_n (pc' := 21) (q_d dX0_leadsLower_0 10 rfl) rfl rfl rfl ?_
        refine T.iload_n (pc' := 22) (q_d dX0_leadsLower_0 11 rfl) rfl rfl rfl ?_
        refine T.iload (pc' := 24) (q_d dX0_leadsLower_0 12 rfl) rfl rfl ?_
        refine T.callV (pc' := 27) (ci := 1) (q_d dX0_leadsLower_0 13 rfl) rfl uX1_after wM_X0_52 (c_after hP hw hT hx (show r < 5 by omega)) rfl rfl (by decide) rfl rfl (by decide) (Nat.le_of_ble_eq_true rfl) rfl rfl (fun _ => rfl) ?_
        rintro _ _ ⟨rfl, rfl⟩
        dsimp only [Option.toList, List.cons_append, List.nil_append, List.append_nil]
        refine T.iald (pc' := 28) (q_d dX0_leadsLower_0 14 rfl) rfl (HO.a1 hh) (Nat.lt_of_le_of_lt (by omega) (HO.lt hh)) rfl (by omega) (by decide) (hn _ (by omega)) ?_
        refine T.istore (pc' := 30) (q_d dX0_leadsLower_0 15 rfl) rfl (by decide) rfl rfl ?_
        refine T.iload (pc' := 32) (q_d dX0_leadsLower_0 16 rfl) rfl rfl ?_
        refine T.iconst (pc' := 33) (v := nI 4294967295) (q_d dX0_leadsLower_0 17 rfl) rfl (by decide) ?_
        refine T.icmp_eqN (tgt := 43) (pc' := 36) (q_d dX0_leadsLower_0 18 rfl) rfl (by decide) (by omega) (by omega) (fun h33 => ?_) (fun h33 => ?_)
        · refine T.iconst (pc' := 44) (v := nI 0) (q_d dX0_leadsLower_0 22 rfl) rfl (by decide) ?_
          refine T.zret (q_d dX0_leadsLower_0 23 rfl) rfl (by decide) rfl rfl ?_
          refine ⟨rfl, ?_⟩
          rw [if_neg]
          intro he
          have h9 := (enough_iff hle.2).mp he r hr0 (by omega)
          first
            | (have h8 := hm.mp h33; omega)
            | (rw [nc_id (fun e => h33 (hm.mpr e))] at h40; omega)
        · refine T.iload (pc' := 38) (q_d dX0_leadsLower_0 19 rfl) rfl rfl ?_
          refine T.iload (pc' := 40) (q_d dX0_leadsLower_0 20 rfl) rfl rfl ?_
          refine T.icmp_ltN (tgt := 45) (pc' := 43) (q_d dX0_leadsLower_0 21 rfl) rfl (by decide) (by rw [nc_id (fun e => h33 (hm.mpr e))]; omega) (by omega) (fun h40 => ?_) (fun h40 => ?_)
          · refine T.iinc (pc' := 48) (q_d dX0_leadsLower_0 24 rfl) rfl rfl (nN_p _ 1) (by decide) rfl rfl ?_
            refine T.goto (tgt := 6) (q_d dX0_leadsLower_0 25 rfl) (by decide) ?_
            refine T.drop (loc' := [some (.ref h), some (.ref 20), some (.int (nI x)), some (.int (nI c)), some (.int (nI lv)), some (.int (nI (r + 1))), none]) ⟨rfl, rfl, rfl, rfl, rfl, rfl, trivial⟩ ?_
            refine ih (r + 1) (by omega) (by omega) (fun g a1 a2 => ?_)
            by_cases e : g = r
            · subst e
              rw [nc_id (fun e => h33 (hm.mpr e))] at h40
              exact h40
            · exact hg g a1 (by omega)
          · refine T.iconst (pc' := 44) (v := nI 0) (q_d dX0_leadsLower_0 22 rfl) rfl (by decide) ?_
            refine T.zret (q_d dX0_leadsLower_0 23 rfl) rfl (by decide) rfl rfl ?_
            refine ⟨rfl, ?_⟩
            rw [if_neg]
            intro he
            have h9 := (enough_iff hle.2).mp he r hr0 (by omega)
            first
              | (have h8 := hm.mp h33; omega)
              | (rw [nc_id (fun e => h33 (hm.mpr e))] at h40; omega)
  refine T.aload_n (pc' := 1) (q_d dX0_leadsLower_0 0 rfl) rfl rfl rfl ?_
  refine T.getI (pc' := 4) (ci := 0) (k0 := 2) (q_d dX0_leadsLower_0 1 rfl) rfl (HO.o hh) (Nat.lt_of_le_of_lt (Nat.le_add_right _ _) (HO.lt hh)) rfl inX0 (by decide) rfl wF_X0_18 h2 ?_
  refine T.istore (pc' := 6) (q_d dX0_leadsLower_0 2 rfl) rfl (by decide) rfl rfl ?_
  exact loop (g1 + 1 - g0) g0 (by omega) (Nat.le_refl _) (fun g a1 a2 => absurd a2 (by omega))
theorem c_settle (hh : HO h g0 g1) (hP : M.2.2 = pX pa sw) (hw : WF b s) (hT : RT M s) (h2 : M.1 h 2 = g0) (h3 : M.1 h 3 = g1) {nd : Nat → Nat} (hn : ∀ y, y < 128 → M.1 (h + 1) y = nc (nd y)) (hv : ∀ y, nd y = 1000 ∨ nd y ≤ 127) {x lv : Nat} (hx : x < 2 ^ s 0) (hl : lv ≤ 127) :
    Ct l hdX kX mX0_settle [.ref h, .ref 20, .int (nI x), .int (nI lv)] M (fun v M' => (v = some (.int (nI 1)) ∧ ∃ c, fstC s nd g0 g1 lv x = some c ∧ M' = qI (qI M (h + 1) x lv) (h + 2) x c) ∨ (v = some (.int (nI 0)) ∧ fstC s nd g0 g1 lv x = none ∧ M = M')) := by
  refine Ct.of [some (.ref h), some (.ref 20), some (.int (nI x)), some (.int (nI lv)), none] (by decide +kernel) (fun h => absurd h (by decide)) (Nat.le_of_ble_eq_true rfl) rfl ?_
  have w0 := p2_le hw.1
  have hge := hh.ge
  have hlen : (ckN s (2 ^ s 0)).length ≤ 128 := by
    refine Nat.le_trans (List.length_filter_le _ _) ?_
    rw [List.length_range]; exact w0
  have loop : ∀ d i, i + d = (ckN s (2 ^ s 0)).length → fstC s nd g0 g1 lv x = ((ckN s (2 ^ s 0)).drop i).find? (enough s nd g0 g1 lv x) →
      T l hdX kX mX0_settle (fun v M' => (v = some (.int (nI 1)) ∧ ∃ c, fstC s nd g0 g1 lv x = some c ∧ M' = qI (qI M (h + 1) x lv) (h + 2) x c) ∨ (v = some (.int (nI 0)) ∧ fstC s nd g0 g1 lv x = none ∧ M = M')) 0 0 3 [some (.ref h), some (.ref 20), some (.int (nI x)), some (.int (nI lv)), some (.int (nI i))] [] M := by
    intro d
    induction d with
    | zero =>
      intro i hi hf
      refine T.iload (pc' := 5) (q_d dX0_settle_0 2 rfl) rfl rfl ?_
      refine T.aload_n (pc' := 6) (q_d dX0_settle_0 3 rfl) rfl rfl rfl ?_
      refine T.getI (pc' := 9) (ci := 1) (k0 := 3) (q_d dX0_settle_0 4 rfl) rfl rfl (by decide) rfl inX1 (by decide) rfl wF_X0_42 hT.2.2.2.1 ?_
      refine T.icmp_geN (tgt := 57) (pc' := 12) (q_d dX0_settle_0 5 rfl) rfl (by decide) (by omega) (by omega) (fun h9 => ?_) (fun h9 => ?_)
      · refine T.iconst (pc' := 58) (v := nI 0) (q_d dX0_settle_0 33 rfl) rfl (by decide) ?_
        refine T.zret (q_d dX0_settle_0 34 rfl) rfl (by decide) rfl rfl ?_
        exact Or.inr ⟨rfl, by rw [hf, List.drop_eq_nil_of_le (by omega)]; rfl, rfl⟩
      · exact absurd h9 (by omega)
    | succ d ih =>
      intro i hi hf
      obtain ⟨c, hc⟩ : ∃ c, (ckN s (2 ^ s 0))[i]? = some c := ⟨_, List.getElem?_eq_getElem (by omega)⟩
      have hc28 := hT.2.2.2.2 i c hc
      have hdr : (ckN s (2 ^ s 0)).drop i = c :: (ckN s (2 ^ s 0)).drop (i + 1) := by
        rw [List.drop_eq_getElem_cons (by omega)]
        rw [List.getElem?_eq_getElem (by omega)] at hc
        rw [Option.some.inj hc]
      rw [hdr, List.find?_cons] at hf
      refine T.iload (pc' := 5) (q_d dX0_settle_0 2 rfl) rfl rfl ?_
      refine T.aload_n (pc' := 6) (q_d dX0_settle_0 3 rfl) rfl rfl rfl ?_
      refine T.getI (pc' := 9) (ci := 1) (k0 := 3) (q_d dX0_settle_0 4 rfl) rfl rfl (by decide) rfl inX1 (by decide) rfl wF_X0_42 hT.2.2.2.1 ?_
      refine T.icmp_geN (tgt := 57) (pc' := 12) (q_d dX0_settle_0 5 rfl) rfl (by decide) (by omega) (by omega) (fun h9 => ?_) (fun h9 => ?_)
      · exact absurd h9 (by omega)
      · refine T.aload_n (pc' := 13) (q_d dX0_settle_0 6 rfl) rfl rfl rfl ?_
        refine T.aload_n (pc' := 14) (q_d dX0_settle_0 7 rfl) rfl rfl rfl ?_
        refine T.iload_n (pc' := 15) (q_d dX0_settle_0 8 rfl) rfl rfl rfl ?_
        refine T.aload_n (pc' := 16) (q_d dX0_settle_0 9 rfl) rfl rfl rfl ?_
        refine T.getR (pc' := 19) (ci := 1) (k0 := 2) (q_d dX0_settle_0 10 rfl) rfl rfl (by decide) rfl inX1 (by decide) rfl wF_X0_45 (rP hP rfl) ?_
        refine T.iload (pc' := 21) (q_d dX0_settle_0 11 rfl) rfl rfl ?_
        refine T.iald (pc' := 22) (q_d dX0_settle_0 12 rfl) rfl rfl (by decide) rfl (by omega) (by decide) hc28 ?_
        refine T.iload_n (pc' := 23) (q_d dX0_settle_0 13 rfl) rfl rfl rfl ?_
        refine T.callV (pc' := 26) (ci := 0) (q_d dX0_settle_0 14 rfl) rfl uX0_leadsLower wM_X0_48 (c_leadsLower hh hP hw hT h2 h3 hn hv (c := c) hx hl) rfl rfl (Nat.lt_of_le_of_lt (Nat.le_add_right _ _) (HO.lt hh)) (HO.o hh) rfl (by decide) (Nat.le_of_ble_eq_true rfl) rfl rfl (fun _ => rfl) ?_
        rintro _ _ ⟨rfl, rfl⟩
        dsimp only [Option.toList, List.cons_append, List.nil_append, List.append_nil]
        refine T.if_eqN (tgt := 51) (pc' := 29) (q_d dX0_settle_0 15 rfl) rfl (by decide) (by split <;> decide) (fun h26 => ?_) (fun h26 => ?_)
        · refine T.iinc (pc' := 54) (q_d dX0_settle_0 31 rfl) rfl rfl (nN_p _ 1) (by decide) rfl rfl ?_
          refine T.goto (tgt := 3) (q_d dX0_settle_0 32 rfl) (by decide) ?_
          by_cases he : enough s nd g0 g1 lv x c = true
          · rw [if_pos he] at h26; cases h26
          · rw [Bool.not_eq_true] at he
            rw [he] at hf
            exact ih (i + 1) (by omega) hf
        · refine T.aload_n (pc' := 30) (q_d dX0_settle_0 16 rfl) rfl rfl rfl ?_
          refine T.getR (pc' := 33) (ci := 0) (k0 := 0) (q_d dX0_settle_0 17 rfl) rfl (HO.o hh) (Nat.lt_of_le_of_lt (Nat.le_add_right _ _) (HO.lt hh)) rfl inX0 (by decide) rfl wF_X0_9 (rP hP (HO.p0 hh)) ?_
          refine T.iload_n (pc' := 34) (q_d dX0_settle_0 18 rfl) rfl rfl rfl ?_
          refine T.iload_n (pc' := 35) (q_d dX0_settle_0 19 rfl) rfl rfl rfl ?_
          refine T.iast (pc' := 36) (q_d dX0_settle_0 20 rfl) rfl (HO.a1 hh) (Nat.lt_of_le_of_lt (by omega) (HO.lt hh)) rfl (by omega) (by decide) ?_
          refine T.aload_n (pc' := 37) (q_d dX0_settle_0 21 rfl) rfl rfl rfl ?_
          refine T.getR (pc' := 40) (ci := 0) (k0 := 1) (q_d dX0_settle_0 22 rfl) rfl (HO.o hh) (Nat.lt_of_le_of_lt (Nat.le_add_right _ _) (HO.lt hh)) rfl inX0 (by decide) rfl wF_X0_15 (rP hP (HO.p1 hh)) ?_
          refine T.iload_n (pc' := 41) (q_d dX0_settle_0 23 rfl) rfl rfl rfl ?_
          refine T.aload_n (pc' := 42) (q_d dX0_settle_0 24 rfl) rfl rfl rfl ?_
          refine T.getR (pc' := 45) (ci := 1) (k0 := 2) (q_d dX0_settle_0 25 rfl) rfl rfl (by decide) rfl inX1 (by decide) rfl wF_X0_45 (rP hP rfl) ?_
          refine T.iload (pc' := 47) (q_d dX0_settle_0 26 rfl) rfl rfl ?_
          refine T.iald (pc' := 48) (q_d dX0_settle_0 27 rfl) rfl rfl (by decide) rfl (by omega) (by decide) ((qI_ne (Or.inl (by omega))).trans hc28) ?_
          refine T.iast (pc' := 49) (q_d dX0_settle_0 28 rfl) rfl (HO.a2 hh) (Nat.lt_of_le_of_lt (by omega) (HO.lt hh)) rfl (by omega) (by decide) ?_
          refine T.iconst (pc' := 50) (v := nI 1) (q_d dX0_settle_0 29 rfl) rfl (by decide) ?_
          refine T.zret (q_d dX0_settle_0 30 rfl) rfl (by decide) rfl rfl ?_
          by_cases he : enough s nd g0 g1 lv x c = true
          · rw [he] at hf
            exact Or.inl ⟨rfl, c, hf, rfl⟩
          · rw [if_neg he] at h26; exact absurd rfl h26
  refine T.iconst (pc' := 1) (v := nI 0) (q_d dX0_settle_0 0 rfl) rfl (by decide) ?_
  refine T.istore (pc' := 3) (q_d dX0_settle_0 1 rfl) rfl (by decide) rfl rfl ?_
  exact loop _ 0 (Nat.zero_add _) (by rw [fstC_ck]; rfl)
theorem c_partsAreSure (hh : HO h g0 g1) (hP : M.2.2 = pX pa sw) {nd : Nat → Nat} (hn : ∀ y, y < 128 → M.1 (h + 1) y = nc (nd y)) (hv : ∀ y, nd y = 1000 ∨ nd y ≤ 127) {x : Nat} (hx : x < 128) :
    Ct l hdX kX mX0_partsAreSure [.ref h, .int (nI x)] M (fun v M' => M = M' ∧ ((v = some (.int (nI 1)) ∧ True) ∨ (v = some (.int (nI 0)) ∧ ∃ p, p < 7 ∧ x.testBit p = true ∧ nd (dif x (1 <<< p)) = 1000))) := by
  refine Ct.of [some (.ref h), some (.int (nI x)), none, none] (by decide +kernel) (fun h => absurd h (by decide)) (Nat.le_of_ble_eq_true rfl) rfl ?_
  have loop : ∀ d i, i + d = 7 → T l hdX kX mX0_partsAreSure (fun v M' => M = M' ∧ ((v = some (.int (nI 1)) ∧ True) ∨ (v = some (.int (nI 0)) ∧ ∃ p, p < 7 ∧ x.testBit p = true ∧ nd (dif x (1 <<< p)) = 1000))) 0 0 2 [some (.ref h), some (.int (nI x)), some (.int (nI i)), none] [] M := by
    intro d
    induction d with
    | zero =>
      intro i hi
      refine T.iload_n (pc' := 3) (q_d dX0_partsAreSure_0 2 rfl) rfl rfl rfl ?_
      refine T.bipush (pc' := 5) (v := nI 7) (q_d dX0_partsAreSure_0 3 rfl) rfl (by decide) ?_
      refine T.icmp_geN (tgt := 51) (pc' := 8) (q_d dX0_partsAreSure_0 4 rfl) rfl (by decide) (by omega) (by omega) (fun h5 => ?_) (fun h5 => ?_)
      · refine T.iconst (pc' := 52) (v := nI 1) (q_d dX0_partsAreSure_0 34 rfl) rfl (by decide) ?_
        refine T.zret (q_d dX0_partsAreSure_0 35 rfl) rfl (by decide) rfl rfl ?_
        exact ⟨rfl, Or.inl ⟨rfl, trivial⟩⟩
      · exact absurd h5 (by omega)
    | succ d ih =>
      intro i hi
      have g9 := and1_lt (x >>> i)
      have hd : dif x (1 <<< i) < 128 := dif_lt hx
      have hv1 := hv (dif x (1 <<< i))
      have hnl := nc_lt hv1
      refine T.iload_n (pc' := 3) (q_d dX0_partsAreSure_0 2 rfl) rfl rfl rfl ?_
      refine T.bipush (pc' := 5) (v := nI 7) (q_d dX0_partsAreSure_0 3 rfl) rfl (by decide) ?_
      refine T.icmp_geN (tgt := 51) (pc' := 8) (q_d dX0_partsAreSure_0 4 rfl) rfl (by decide) (by omega) (by omega) (fun h5 => ?_) (fun h5 => ?_)
      · exact absurd h5 (by omega)
      · refine T.iload_n (pc' := 9) (q_d dX0_partsAreSure_0 5 rfl) rfl rfl rfl ?_
        refine T.iload_n (pc' := 10) (q_d dX0_partsAreSure_0 6 rfl) rfl rfl rfl ?_
        refine T.ishr (pc' := 11) (q_d dX0_partsAreSure_0 7 rfl) rfl (nN_shr (by omega) (by omega)) ?_
        refine T.iconst (pc' := 12) (v := nI 1) (q_d dX0_partsAreSure_0 8 rfl) rfl (by decide) ?_
        refine T.iand (pc' := 13) (q_d dX0_partsAreSure_0 9 rfl) rfl (nN_and _ _) ?_
        refine T.iconst (pc' := 14) (v := nI 1) (q_d dX0_partsAreSure_0 10 rfl) rfl (by decide) ?_
        refine T.icmp_neN (tgt := 21) (pc' := 17) (q_d dX0_partsAreSure_0 11 rfl) rfl (by decide) (by omega) (by omega) (fun h14 => ?_) (fun h14 => ?_)
        · refine T.iconst (pc' := 22) (v := nI 0) (q_d dX0_partsAreSure_0 14 rfl) rfl (by decide) ?_
          refine T.istore_n (pc' := 23) (q_d dX0_partsAreSure_0 15 rfl) rfl rfl (by decide) rfl rfl ?_
          refine T.iload_n (pc' := 24) (q_d dX0_partsAreSure_0 16 rfl) rfl rfl rfl ?_
          refine T.if_eqN (tgt := 45) (pc' := 27) (q_d dX0_partsAreSure_0 17 rfl) rfl (by decide) (by omega) (fun h24 => ?_) (fun h24 => ?_)
          · refine T.iinc (pc' := 48) (q_d dX0_partsAreSure_0 32 rfl) rfl rfl (nN_p _ 1) (by decide) rfl rfl ?_
            refine T.goto (tgt := 2) (q_d dX0_partsAreSure_0 33 rfl) (by decide) ?_
            refine T.drop (loc' := [some (.ref h), some (.int (nI x)), some (.int (nI (i + 1))), none]) ⟨rfl, rfl, rfl, trivial⟩ ?_
            exact ih (i + 1) (by omega)
          · refine T.aload_n (pc' := 28) (q_d dX0_partsAreSure_0 18 rfl) rfl rfl rfl ?_
            refine T.getR (pc' := 31) (ci := 0) (k0 := 0) (q_d dX0_partsAreSure_0 19 rfl) rfl (HO.o hh) (Nat.lt_of_le_of_lt (Nat.le_add_right _ _) (HO.lt hh)) rfl inX0 (by decide) rfl wF_X0_9 (rP hP (HO.p0 hh)) ?_
            refine T.iload_n (pc' := 32) (q_d dX0_partsAreSure_0 20 rfl) rfl rfl rfl ?_
            refine T.iconst (pc' := 33) (v := nI 1) (q_d dX0_partsAreSure_0 21 rfl) rfl (by decide) ?_
            refine T.iload_n (pc' := 34) (q_d dX0_partsAreSure_0 22 rfl) rfl rfl rfl ?_
            refine T.ishl (pc' := 35) (q_d dX0_partsAreSure_0 23 rfl) rfl (nN_shl _ (by omega)) ?_
            refine T.iconst (pc' := 36) (v := nI 4294967295) (q_d dX0_partsAreSure_0 24 rfl) rfl (by decide) ?_
            refine T.ixor (pc' := 37) (q_d dX0_partsAreSure_0 25 rfl) rfl (nN_xor _ _) ?_
            refine T.iand (pc' := 38) (q_d dX0_partsAreSure_0 26 rfl) rfl ((nN_and _ _).trans (show _ = nI (dif x (1 <<< i)) from rfl)) ?_
            refine T.iald (pc' := 39) (q_d dX0_partsAreSure_0 27 rfl) rfl (HO.a1 hh) (Nat.lt_of_le_of_lt (by omega) (HO.lt hh)) rfl (by omega) (by decide) (hn _ hd) ?_
            refine T.iconst (pc' := 40) (v := nI 4294967295) (q_d dX0_partsAreSure_0 28 rfl) rfl (by decide) ?_
            refine T.icmp_neN (tgt := 45) (pc' := 43) (q_d dX0_partsAreSure_0 29 rfl) rfl (by decide) (by omega) (by omega) (fun h40 => ?_) (fun h40 => ?_)
            · refine T.iinc (pc' := 48) (q_d dX0_partsAreSure_0 32 rfl) rfl rfl (nN_p _ 1) (by decide) rfl rfl ?_
              refine T.goto (tgt := 2) (q_d dX0_partsAreSure_0 33 rfl) (by decide) ?_
              refine T.drop (loc' := [some (.ref h), some (.int (nI x)), some (.int (nI (i + 1))), none]) ⟨rfl, rfl, rfl, trivial⟩ ?_
              exact ih (i + 1) (by omega)
            · refine T.iconst (pc' := 44) (v := nI 0) (q_d dX0_partsAreSure_0 30 rfl) rfl (by decide) ?_
              refine T.zret (q_d dX0_partsAreSure_0 31 rfl) rfl (by decide) rfl rfl ?_
              first
                | exact absurd h24 (by decide)
                | exact ⟨rfl, Or.inr ⟨rfl, i, by omega, (bit_iff _ _).mp h14, (nc_m1 hv1).mp h40⟩⟩
                | exact absurd rfl h24
        · refine T.iconst (pc' := 18) (v := nI 1) (q_d dX0_partsAreSure_0 12 rfl) rfl (by decide) ?_
          refine T.goto (tgt := 22) (q_d dX0_partsAreSure_0 13 rfl) (by decide) ?_
          refine T.istore_n (pc' := 23) (q_d dX0_partsAreSure_0 15 rfl) rfl rfl (by decide) rfl rfl ?_
          refine T.iload_n (pc' := 24) (q_d dX0_partsAreSure_0 16 rfl) rfl rfl rfl ?_
          refine T.if_eqN (tgt := 45) (pc' := 27) (q_d dX0_partsAreSure_0 17 rfl) rfl (by decide) (by omega) (fun h24 => ?_) (fun h24 => ?_)
          · refine T.iinc (pc' := 48) (q_d dX0_partsAreSure_0 32 rfl) rfl rfl (nN_p _ 1) (by decide) rfl rfl ?_
            refine T.goto (tgt := 2) (q_d dX0_partsAreSure_0 33 rfl) (by decide) ?_
            refine T.drop (loc' := [some (.ref h), some (.int (nI x)), some (.int (nI (i + 1))), none]) ⟨rfl, rfl, rfl, trivial⟩ ?_
            exact ih (i + 1) (by omega)
          · refine T.aload_n (pc' := 28) (q_d dX0_partsAreSure_0 18 rfl) rfl rfl rfl ?_
            refine T.getR (pc' := 31) (ci := 0) (k0 := 0) (q_d dX0_partsAreSure_0 19 rfl) rfl (HO.o hh) (Nat.lt_of_le_of_lt (Nat.le_add_right _ _) (HO.lt hh)) rfl inX0 (by decide) rfl wF_X0_9 (rP hP (HO.p0 hh)) ?_
            refine T.iload_n (pc' := 32) (q_d dX0_partsAreSure_0 20 rfl) rfl rfl rfl ?_
            refine T.iconst (pc' := 33) (v := nI 1) (q_d dX0_partsAreSure_0 21 rfl) rfl (by decide) ?_
            refine T.iload_n (pc' := 34) (q_d dX0_partsAreSure_0 22 rfl) rfl rfl rfl ?_
            refine T.ishl (pc' := 35) (q_d dX0_partsAreSure_0 23 rfl) rfl (nN_shl _ (by omega)) ?_
            refine T.iconst (pc' := 36) (v := nI 4294967295) (q_d dX0_partsAreSure_0 24 rfl) rfl (by decide) ?_
            refine T.ixor (pc' := 37) (q_d dX0_partsAreSure_0 25 rfl) rfl (nN_xor _ _) ?_
            refine T.iand (pc' := 38) (q_d dX0_partsAreSure_0 26 rfl) rfl ((nN_and _ _).trans (show _ = nI (dif x (1 <<< i)) from rfl)) ?_
            refine T.iald (pc' := 39) (q_d dX0_partsAreSure_0 27 rfl) rfl (HO.a1 hh) (Nat.lt_of_le_of_lt (by omega) (HO.lt hh)) rfl (by omega) (by decide) (hn _ hd) ?_
            refine T.iconst (pc' := 40) (v := nI 4294967295) (q_d dX0_partsAreSure_0 28 rfl) rfl (by decide) ?_
            refine T.icmp_neN (tgt := 45) (pc' := 43) (q_d dX0_partsAreSure_0 29 rfl) rfl (by decide) (by omega) (by omega) (fun h40 => ?_) (fun h40 => ?_)
            · refine T.iinc (pc' := 48) (q_d dX0_partsAreSure_0 32 rfl) rfl rfl (nN_p _ 1) (by decide) rfl rfl ?_
              refine T.goto (tgt := 2) (q_d dX0_partsAreSure_0 33 rfl) (by decide) ?_
              refine T.drop (loc' := [some (.ref h), some (.int (nI x)), some (.int (nI (i + 1))), none]) ⟨rfl, rfl, rfl, trivial⟩ ?_
              exact ih (i + 1) (by omega)
            · refine T.iconst (pc' := 44) (v := nI 0) (q_d dX0_partsAreSure_0 30 rfl) rfl (by decide) ?_
              refine T.zret (q_d dX0_partsAreSure_0 31 rfl) rfl (by decide) rfl rfl ?_
              first
                | exact absurd h24 (by decide)
                | exact ⟨rfl, Or.inr ⟨rfl, i, by omega, (bit_iff _ _).mp h14, (nc_m1 hv1).mp h40⟩⟩
                | exact absurd rfl h24
  refine T.iconst (pc' := 1) (v := nI 0) (q_d dX0_partsAreSure_0 0 rfl) rfl (by decide) ?_
  refine T.istore_n (pc' := 2) (q_d dX0_partsAreSure_0 1 rfl) rfl rfl (by decide) rfl rfl ?_
  exact loop 7 0 (by omega)
end CX0
end
section
/-! BlindHunts$Hunt: the levels, and what is told of them -/
def mostTo (nd : Nat → Nat) : Nat → Nat
  | 0 => 0
  | k + 1 => if nd (k + 1) ≠ 1000 ∧ mostTo nd k < nd (k + 1) then nd (k + 1) else mostTo nd k
theorem mostTo_le {nd : Nat → Nat} (hv : ∀ y, nd y = 1000 ∨ nd y ≤ 127) : ∀ k, mostTo nd k ≤ 127
  | 0 => by simp [mostTo]
  | k + 1 => by
    have := mostTo_le hv k
    have := hv (k + 1)
    unfold mostTo
    split <;> omega
/-- the first belief of those below n that needs m rounds -/
def hardN (nd : Nat → Nat) (m n : Nat) : Option Nat := (List.range n).find? (fun x => decide (0 < x) && decide (nd x = m))
section CX0B
variable {l : Launch} {M : qM} {h g0 g1 b : Nat} {s : Nat → Nat} {pa : Nat → Nat} {sw : Bool}
theorem c_solveLevel (hh : HO h g0 g1) (hP : M.2.2 = pX pa sw) (hw : WF b s) (hT : RT M s) (h2 : M.1 h 2 = g0) (h3 : M.1 h 3 = g1) {k : Nat} (hk : k < 127) (hR : RHs M h (solN s g0 g1 k)) :
    Ct l hdX kX mX0_solveLevel [.ref h, .ref 20, .int (nI (k + 1))] M (fun v M' => ((v = some (.int (nI 1)) ∧ ∃ x, newly s (solN s g0 g1 k).1 g0 g1 (k + 1) x = true) ∨ (v = some (.int (nI 0)) ∧ ∀ x, newly s (solN s g0 g1 k).1 g0 g1 (k + 1) x = false)) ∧ RHs M' h (solN s g0 g1 (k + 1)) ∧ M'.2 = M.2 ∧ ∀ a, a ≠ h + 1 → a ≠ h + 2 → M'.1 a = M.1 a) := by
  refine Ct.of [some (.ref h), some (.ref 20), some (.int (nI (k + 1))), none, none] (by decide +kernel) (fun h => absurd h (by decide)) (Nat.le_of_ble_eq_true rfl) rfl ?_
  have hle := hh.le
  have hge := hh.ge
  have w0 := p2_le hw.1
  have hA : ∀ x, newly s (solN s g0 g1 k).1 g0 g1 (k + 1) x = true → (solN s g0 g1 (k + 1)).1 x = k + 1 ∧ (solN s g0 g1 (k + 1)).2 x = (fstC s (solN s g0 g1 k).1 g0 g1 (k + 1) x).getD 0 := fun x n1 => by simp only [solN]; rw [if_pos n1, if_pos n1]; exact ⟨rfl, rfl⟩
  have hB : ∀ x, newly s (solN s g0 g1 k).1 g0 g1 (k + 1) x = false → (solN s g0 g1 (k + 1)).1 x = (solN s g0 g1 k).1 x ∧ (solN s g0 g1 (k + 1)).2 x = (solN s g0 g1 k).2 x := fun x n1 => by simp only [solN]; rw [n1]; simp
  have loop : ∀ d j any (M' : qM), j + d = 2 ^ s 0 → 0 < j → M'.2 = M.2 → (∀ a, a ≠ h + 1 → a ≠ h + 2 → M'.1 a = M.1 a) →
      (∀ x, x < 128 → M'.1 (h + 1) x = nc (if x < j then (solN s g0 g1 (k + 1)).1 x else (solN s g0 g1 k).1 x) ∧ M'.1 (h + 2) x = if x < j then (solN s g0 g1 (k + 1)).2 x else (solN s g0 g1 k).2 x) →
      ((any = 1 ∧ ∃ x, newly s (solN s g0 g1 k).1 g0 g1 (k + 1) x = true) ∨ (any = 0 ∧ ∀ x, x < j → newly s (solN s g0 g1 k).1 g0 g1 (k + 1) x = false)) →
      T l hdX kX mX0_solveLevel (fun v M' => ((v = some (.int (nI 1)) ∧ ∃ x, newly s (solN s g0 g1 k).1 g0 g1 (k + 1) x = true) ∨ (v = some (.int (nI 0)) ∧ ∀ x, newly s (solN s g0 g1 k).1 g0 g1 (k + 1) x = false)) ∧ RHs M' h (solN s g0 g1 (k + 1)) ∧ M'.2 = M.2 ∧ ∀ a, a ≠ h + 1 → a ≠ h + 2 → M'.1 a = M.1 a) 0 0 5 [some (.ref h), some (.ref 20), some (.int (nI (k + 1))), some (.int (nI any)), some (.int (nI j))] [] M' := by
    intro d
    induction d with
    | zero =>
      intro j any M' hj hj0 hF ha hc hy
      have h4 : M'.1 20 4 = 2 ^ s 0 := by rw [ha 20 (by omega) (by omega)]; exact hT.2.2.1
      have hout : ∀ x, ¬ x < j → newly s (solN s g0 g1 k).1 g0 g1 (k + 1) x = false := fun x hx => by
        cases hn : newly s (solN s g0 g1 k).1 g0 g1 (k + 1) x with
        | false => rfl
        | true => exact absurd (newly_pos hn).2.1 (by omega)
      refine T.iload (pc' := 7) (q_d dX0_solveLevel_0 4 rfl) rfl rfl ?_
      refine T.aload_n (pc' := 8) (q_d dX0_solveLevel_0 5 rfl) rfl rfl rfl ?_
      refine T.getI (pc' := 11) (ci := 1) (k0 := 4) (q_d dX0_solveLevel_0 6 rfl) rfl rfl (by decide) rfl inX1 (by decide) rfl wF_X0_29 h4 ?_
      refine T.icmp_geN (tgt := 53) (pc' := 14) (q_d dX0_solveLevel_0 7 rfl) rfl (by decide) (by omega) (by omega) (fun h11 => ?_) (fun h11 => ?_)
      · refine T.iload_n (pc' := 54) (q_d dX0_solveLevel_0 28 rfl) rfl rfl rfl ?_
        refine T.zret (q_d dX0_solveLevel_0 29 rfl) rfl (by rcases hy with ⟨e, -⟩ | ⟨e, -⟩ <;> subst e <;> decide) rfl rfl ?_
        refine ⟨?_, fun x hx => ?_, hF, ha⟩
        · rcases hy with ⟨e, h9⟩ | ⟨e, h9⟩
          · subst e; exact Or.inl ⟨rfl, h9⟩
          · subst e; exact Or.inr ⟨rfl, fun x => by
              by_cases hx : x < j
              · exact h9 x hx
              · exact hout x hx⟩
        · have h9 := hc x hx
          by_cases hxj : x < j
          · rw [if_pos hxj, if_pos hxj] at h9; exact h9
          · have h8 := hB x (hout x hxj)
            rw [if_neg hxj, if_neg hxj, ← h8.1, ← h8.2] at h9; exact h9
      · exact absurd h11 (by omega)
    | succ d ih =>
      intro j any M' hj hj0 hF ha hc hy
      have hP' : M'.2.2 = pX pa sw := by rw [hF]; exact hP
      have h4 : M'.1 20 4 = 2 ^ s 0 := by rw [ha 20 (by omega) (by omega)]; exact hT.2.2.1
      have hT' : RT M' s := hT.mono (fun a a1 a2 => ha a (by omega) (by omega))
      have h2' : M'.1 h 2 = g0 := by rw [ha h (by omega) (by omega)]; exact h2
      have h3' : M'.1 h 3 = g1 := by rw [ha h (by omega) (by omega)]; exact h3
      have hj2 : j < 2 ^ s 0 := by omega
      have hcv : ∀ y, (if y < j then (solN s g0 g1 (k + 1)).1 y else (solN s g0 g1 k).1 y) = 1000 ∨ (if y < j then (solN s g0 g1 (k + 1)).1 y else (solN s g0 g1 k).1 y) ≤ 127 := fun y => by
        split
        · rcases sol_val (s := s) (g0 := g0) (g1 := g1) (k + 1) y with v | v <;> omega
        · rcases sol_val (s := s) (g0 := g0) (g1 := g1) k y with v | v <;> omega
      have hvk : (solN s g0 g1 k).1 j = 1000 ∨ (solN s g0 g1 k).1 j ≤ 127 := by rcases sol_val (s := s) (g0 := g0) (g1 := g1) k j with v | v <;> omega
      have hnl := nc_lt hvk
      have hm := nc_m1 hvk
      have hcj : M'.1 (h + 1) j = nc ((solN s g0 g1 k).1 j) := by rw [(hc j (by omega)).1, if_neg (Nat.lt_irrefl _)]
      have hlt : ∀ y, (if y < j then (solN s g0 g1 (k + 1)).1 y else (solN s g0 g1 k).1 y) < k + 1 ↔ (solN s g0 g1 k).1 y < k + 1 := fun y => by
        split
        · cases hn : newly s (solN s g0 g1 k).1 g0 g1 (k + 1) y with
          | false => rw [(hB y hn).1]
          | true =>
            rw [(hA y hn).1, (newly_pos hn).2.2.1]
            omega
        · exact Iff.rfl
      have hfc : fstC s (fun y => if y < j then (solN s g0 g1 (k + 1)).1 y else (solN s g0 g1 k).1 y) g0 g1 (k + 1) j = fstC s (solN s g0 g1 k).1 g0 g1 (k + 1) j := by
        rw [fstC_ck, fstC_ck, enough_congr hle.2 hlt]
      have hstep : newly s (solN s g0 g1 k).1 g0 g1 (k + 1) j = false → T l hdX kX mX0_solveLevel (fun v M' => ((v = some (.int (nI 1)) ∧ ∃ x, newly s (solN s g0 g1 k).1 g0 g1 (k + 1) x = true) ∨ (v = some (.int (nI 0)) ∧ ∀ x, newly s (solN s g0 g1 k).1 g0 g1 (k + 1) x = false)) ∧ RHs M' h (solN s g0 g1 (k + 1)) ∧ M'.2 = M.2 ∧ ∀ a, a ≠ h + 1 → a ≠ h + 2 → M'.1 a = M.1 a) 0 0 5 [some (.ref h), some (.ref 20), some (.int (nI (k + 1))), some (.int (nI any)), some (.int (nI (j + 1)))] [] M' := by
        intro hnew
        refine ih (j + 1) any M' (by omega) (by omega) hF ha (fun x hx => ?_) ?_
        · have h9 := hc x hx
          have h8 := hB j hnew
          by_cases e : x = j
          · subst e
            rw [if_neg (Nat.lt_irrefl _), if_neg (Nat.lt_irrefl _), ← h8.1, ← h8.2] at h9
            rw [if_pos (Nat.lt_succ_self _), if_pos (Nat.lt_succ_self _)]
            exact h9
          · by_cases e2 : x < j
            · rw [if_pos e2, if_pos e2] at h9
              rw [if_pos (by omega), if_pos (by omega)]
              exact h9
            · rw [if_neg e2, if_neg e2] at h9
              rw [if_neg (by omega), if_neg (by omega)]
              exact h9
        · rcases hy with ⟨e, h9⟩ | ⟨e, h9⟩
          · exact Or.inl ⟨e, h9⟩
          · refine Or.inr ⟨e, fun x hx => ?_⟩
            by_cases e2 : x = j
            · subst e2; exact hnew
            · exact h9 x (by omega)
      refine T.iload (pc' := 7) (q_d dX0_solveLevel_0 4 rfl) rfl rfl ?_
      refine T.aload_n (pc' := 8) (q_d dX0_solveLevel_0 5 rfl) rfl rfl rfl ?_
      refine T.getI (pc' := 11) (ci := 1) (k0 := 4) (q_d dX0_solveLevel_0 6 rfl) rfl rfl (by decide) rfl inX1 (by decide) rfl wF_X0_29 h4 ?_
      refine T.icmp_geN (tgt := 53) (pc' := 14) (q_d dX0_solveLevel_0 7 rfl) rfl (by decide) (by omega) (by omega) (fun h11 => ?_) (fun h11 => ?_)
      · exact absurd h11 (by omega)
      · refine T.aload_n (pc' := 15) (q_d dX0_solveLevel_0 8 rfl) rfl rfl rfl ?_
        refine T.getR (pc' := 18) (ci := 0) (k0 := 0) (q_d dX0_solveLevel_0 9 rfl) rfl (HO.o hh) (Nat.lt_of_le_of_lt (Nat.le_add_right _ _) (HO.lt hh)) rfl inX0 (by decide) rfl wF_X0_9 (rP hP' (HO.p0 hh)) ?_
        refine T.iload (pc' := 20) (q_d dX0_solveLevel_0 10 rfl) rfl rfl ?_
        refine T.iald (pc' := 21) (q_d dX0_solveLevel_0 11 rfl) rfl (HO.a1 hh) (Nat.lt_of_le_of_lt (by omega) (HO.lt hh)) rfl (by omega) (by decide) hcj ?_
        refine T.iconst (pc' := 22) (v := nI 4294967295) (q_d dX0_solveLevel_0 12 rfl) rfl (by decide) ?_
        refine T.icmp_neN (tgt := 47) (pc' := 25) (q_d dX0_solveLevel_0 13 rfl) rfl (by decide) (by omega) (by omega) (fun h22 => ?_) (fun h22 => ?_)
        · refine T.iinc (pc' := 50) (q_d dX0_solveLevel_0 26 rfl) rfl rfl (nN_p _ 1) (by decide) rfl rfl ?_
          refine T.goto (tgt := 5) (q_d dX0_solveLevel_0 27 rfl) (by decide) ?_
          exact hstep (by
            cases hn : newly s (solN s g0 g1 k).1 g0 g1 (k + 1) j with
            | false => rfl
            | true => exact absurd (hm.mpr (newly_pos hn).2.2.1) h22)
        · refine T.aload_n (pc' := 26) (q_d dX0_solveLevel_0 14 rfl) rfl rfl rfl ?_
          refine T.iload (pc' := 28) (q_d dX0_solveLevel_0 15 rfl) rfl rfl ?_
          refine T.callV (pc' := 31) (ci := 0) (q_d dX0_solveLevel_0 16 rfl) rfl uX0_partsAreSure wM_X0_34 (c_partsAreSure hh hP' (nd := fun y => if y < j then (solN s g0 g1 (k + 1)).1 y else (solN s g0 g1 k).1 y) (fun y hy9 => (hc y hy9).1) hcv (show j < 128 by omega)) rfl rfl (Nat.lt_of_le_of_lt (Nat.le_add_right _ _) (HO.lt hh)) (HO.o hh) rfl (by decide) (Nat.le_of_ble_eq_true rfl) rfl rfl (fun _ => rfl) ?_
          rintro v9 _ ⟨rfl, hps⟩
          obtain ⟨pv, rfl, pl, hps⟩ := or_num hps
          dsimp only [Option.toList, List.cons_append, List.nil_append, List.append_nil]
          refine T.if_eqN (tgt := 47) (pc' := 34) (q_d dX0_solveLevel_0 17 rfl) rfl (by decide) (by omega) (fun h31 => ?_) (fun h31 => ?_)
          · obtain ⟨p, p1, p2, p3⟩ : ∃ p, p < 7 ∧ j.testBit p = true ∧ (if dif j (1 <<< p) < j then (solN s g0 g1 (k + 1)).1 (dif j (1 <<< p)) else (solN s g0 g1 k).1 (dif j (1 <<< p))) = 1000 := by
              rcases hps with ⟨e, -⟩ | ⟨-, e⟩
              · exact absurd h31 (by omega)
              · exact e
            rw [if_pos (dif_less (by omega) p2)] at p3
            refine T.iinc (pc' := 50) (q_d dX0_solveLevel_0 26 rfl) rfl rfl (nN_p _ 1) (by decide) rfl rfl ?_
            refine T.goto (tgt := 5) (q_d dX0_solveLevel_0 27 rfl) (by decide) ?_
            exact hstep (part_no hw.1 hle.2 (by omega) hj2 p1 p3)
          · refine T.aload_n (pc' := 35) (q_d dX0_solveLevel_0 18 rfl) rfl rfl rfl ?_
            refine T.aload_n (pc' := 36) (q_d dX0_solveLevel_0 19 rfl) rfl rfl rfl ?_
            refine T.iload (pc' := 38) (q_d dX0_solveLevel_0 20 rfl) rfl rfl ?_
            refine T.iload_n (pc' := 39) (q_d dX0_solveLevel_0 21 rfl) rfl rfl rfl ?_
            refine T.callV (pc' := 42) (ci := 0) (q_d dX0_solveLevel_0 22 rfl) rfl uX0_settle wM_X0_38 (c_settle hh hP' hw hT' h2' h3' (nd := fun y => if y < j then (solN s g0 g1 (k + 1)).1 y else (solN s g0 g1 k).1 y) (fun y hy9 => (hc y hy9).1) hcv (lv := k + 1) hj2 (by omega)) rfl rfl (Nat.lt_of_le_of_lt (Nat.le_add_right _ _) (HO.lt hh)) (HO.o hh) rfl (by decide) (Nat.le_of_ble_eq_true rfl) rfl rfl (fun _ => rfl) ?_
            rintro v8 M2 hse
            obtain ⟨sv, rfl, sl9, hse⟩ := or_num hse
            dsimp only [Option.toList, List.cons_append, List.nil_append, List.append_nil]
            refine T.if_eqN (tgt := 47) (pc' := 45) (q_d dX0_solveLevel_0 23 rfl) rfl (by decide) (by omega) (fun h42 => ?_) (fun h42 => ?_)
            · rcases hse with ⟨e, -⟩ | ⟨-, e, rfl⟩
              · exact absurd h42 (by omega)
              refine T.iinc (pc' := 50) (q_d dX0_solveLevel_0 26 rfl) rfl rfl (nN_p _ 1) (by decide) rfl rfl ?_
              refine T.goto (tgt := 5) (q_d dX0_solveLevel_0 27 rfl) (by decide) ?_
              exact hstep (by
                cases hn : newly s (solN s g0 g1 k).1 g0 g1 (k + 1) j with
                | false => rfl
                | true =>
                  have h9 := (newly_pos hn).2.2.2
                  rw [← hfc, e] at h9
                  cases h9)
            · refine T.iconst (pc' := 46) (v := nI 1) (q_d dX0_solveLevel_0 24 rfl) rfl (by decide) ?_
              refine T.istore_n (pc' := 47) (q_d dX0_solveLevel_0 25 rfl) rfl rfl (by decide) rfl rfl ?_
              refine T.iinc (pc' := 50) (q_d dX0_solveLevel_0 26 rfl) rfl rfl (nN_p _ 1) (by decide) rfl rfl ?_
              refine T.goto (tgt := 5) (q_d dX0_solveLevel_0 27 rfl) (by decide) ?_
              rcases hse with ⟨-, c, hcc, rfl⟩ | ⟨e, -, -⟩
              · have hnew : newly s (solN s g0 g1 k).1 g0 g1 (k + 1) j = true := by
                  rw [hfc] at hcc
                  simp only [newly, Bool.and_eq_true, decide_eq_true_eq]
                  exact ⟨⟨⟨hj0, hj2⟩, hm.mp h22⟩, by rw [hcc]; rfl⟩
                have h8 := hA j hnew
                rw [hfc] at hcc
                rw [hcc] at h8
                refine ih (j + 1) 1 _ (by omega) (by omega) hF (fun a a1 a2 => ?_) (fun x hx => ?_) (Or.inl ⟨rfl, j, hnew⟩)
                · funext y; rw [qI_ne (Or.inl a2), qI_ne (Or.inl a1), ha a a1 a2]
                · have h9 := hc x hx
                  by_cases e : x = j
                  · subst e
                    rw [if_pos (Nat.lt_succ_self _), if_pos (Nat.lt_succ_self _), qI_ne (Or.inl (by omega)), qI_eq, qI_eq, h8.1, h8.2, nc_id (by omega)]
                    exact ⟨rfl, rfl⟩
                  · rw [qI_ne (Or.inl (by omega)), qI_ne (Or.inr e), qI_ne (Or.inr e), qI_ne (Or.inr e)]
                    by_cases e2 : x < j
                    · rw [if_pos e2, if_pos e2] at h9
                      rw [if_pos (by omega), if_pos (by omega)]
                      exact h9
                    · rw [if_neg e2, if_neg e2] at h9
                      rw [if_neg (by omega), if_neg (by omega)]
                      exact h9
              · exact absurd e h42
  refine T.iconst (pc' := 1) (v := nI 0) (q_d dX0_solveLevel_0 0 rfl) rfl (by decide) ?_
  refine T.istore_n (pc' := 2) (q_d dX0_solveLevel_0 1 rfl) rfl rfl (by decide) rfl rfl ?_
  refine T.iconst (pc' := 3) (v := nI 1) (q_d dX0_solveLevel_0 2 rfl) rfl (by decide) ?_
  refine T.istore (pc' := 5) (q_d dX0_solveLevel_0 3 rfl) rfl (by decide) rfl rfl ?_
  have h1 : 0 < 2 ^ s 0 := Nat.two_pow_pos _
  refine loop (2 ^ s 0 - 1) 1 0 M (by omega) (by decide) rfl (fun _ _ _ => rfl) (fun x hx => ?_) (Or.inr ⟨rfl, fun x hx => ?_⟩)
  · have h9 := hR x hx
    by_cases e : x < 1
    · have e0 : x = 0 := by omega
      subst e0
      have h8 := hB 0 (by
        cases hn : newly s (solN s g0 g1 k).1 g0 g1 (k + 1) 0 with
        | false => rfl
        | true => exact absurd (newly_pos hn).1 (Nat.lt_irrefl 0))
      rw [if_pos e, if_pos e, h8.1, h8.2]; exact h9
    · rw [if_neg e, if_neg e]; exact h9
  · have e0 : x = 0 := by omega
    subst e0
    cases hn : newly s (solN s g0 g1 k).1 g0 g1 (k + 1) 0 with
    | false => rfl
    | true => exact absurd (newly_pos hn).1 (Nat.lt_irrefl 0)
theorem c_solve (hh : HO h g0 g1) (hP : M.2.2 = pX pa sw) (hw : WF b s) (hT : RT M s) (h2 : M.1 h 2 = g0) (h3 : M.1 h 3 = g1) :
    Ct l hdX kX mX0_solve [.ref h, .ref 20] M (fun v M' => v = none ∧ RHs M' h (solN s g0 g1 127) ∧ M'.2 = M.2 ∧ ∀ a, a ≠ h + 1 → a ≠ h + 2 → M'.1 a = M.1 a) := by
  refine Ct.of [some (.ref h), some (.ref 20), none, none] (by decide +kernel) (fun h => absurd h (by decide)) (Nat.le_of_ble_eq_true rfl) rfl ?_
  have hle := hh.le
  have hge := hh.ge
  have loop2 : ∀ d k m (M' : qM), k + d = 127 → M'.2 = M.2 → (∀ a, a ≠ h + 1 → a ≠ h + 2 → M'.1 a = M.1 a) → RHs M' h (solN s g0 g1 k) → (m = 1 ∨ (m = 0 ∧ solN s g0 g1 127 = solN s g0 g1 k)) →
      T l hdX kX mX0_solve (fun v M' => v = none ∧ RHs M' h (solN s g0 g1 127) ∧ M'.2 = M.2 ∧ ∀ a, a ≠ h + 1 → a ≠ h + 2 → M'.1 a = M.1 a) 0 0 40 [some (.ref h), some (.ref 20), some (.int (nI m)), some (.int (nI (k + 1)))] [] M' := by
    intro d
    induction d with
    | zero =>
      intro k m M' hk hF ha hR hm
      have e : k = 127 := by omega
      subst e
      refine T.iload_n (pc' := 41) (q_d dX0_solve_0 26 rfl) rfl rfl rfl ?_
      refine T.sipush (pc' := 44) (v := nI 128) (q_d dX0_solve_0 27 rfl) rfl (by decide) ?_
      refine T.icmp_geN (tgt := 64) (pc' := 47) (q_d dX0_solve_0 28 rfl) rfl (by decide) (by omega) (by omega) (fun h44 => ?_) (fun h44 => ?_)
      · refine T.vret (q_d dX0_solve_0 38 rfl) rfl rfl rfl ?_
        exact ⟨rfl, hR, hF, ha⟩
      · exact absurd h44 (by omega)
    | succ d ih =>
      intro k m M' hk hF ha hR hm
      have hP' : M'.2.2 = pX pa sw := by rw [hF]; exact hP
      have hT' : RT M' s := hT.mono (fun a a1 a2 => ha a (by omega) (by omega))
      have h2' : M'.1 h 2 = g0 := by rw [ha h (by omega) (by omega)]; exact h2
      have h3' : M'.1 h 3 = g1 := by rw [ha h (by omega) (by omega)]; exact h3
      refine T.iload_n (pc' := 41) (q_d dX0_solve_0 26 rfl) rfl rfl rfl ?_
      refine T.sipush (pc' := 44) (v := nI 128) (q_d dX0_solve_0 27 rfl) rfl (by decide) ?_
      refine T.icmp_geN (tgt := 64) (pc' := 47) (q_d dX0_solve_0 28 rfl) rfl (by decide) (by omega) (by omega) (fun h44 => ?_) (fun h44 => ?_)
      · exact absurd h44 (by omega)
      · refine T.iload_n (pc' := 48) (q_d dX0_solve_0 29 rfl) rfl rfl rfl ?_
        refine T.if_eqN (tgt := 64) (pc' := 51) (q_d dX0_solve_0 30 rfl) rfl (by decide) (by omega) (fun h48 => ?_) (fun h48 => ?_)
        · refine T.vret (q_d dX0_solve_0 38 rfl) rfl rfl rfl ?_
          rcases hm with e | ⟨-, e⟩
          · exact absurd h48 (by omega)
          · exact ⟨rfl, by rw [e]; exact hR, hF, ha⟩
        · refine T.aload_n (pc' := 52) (q_d dX0_solve_0 31 rfl) rfl rfl rfl ?_
          refine T.aload_n (pc' := 53) (q_d dX0_solve_0 32 rfl) rfl rfl rfl ?_
          refine T.iload_n (pc' := 54) (q_d dX0_solve_0 33 rfl) rfl rfl rfl ?_
          refine T.callV (pc' := 57) (ci := 0) (q_d dX0_solve_0 34 rfl) rfl uX0_solveLevel wM_X0_25 (c_solveLevel hh hP' hw hT' h2' h3' (k := k) (by omega) hR) rfl rfl (Nat.lt_of_le_of_lt (Nat.le_add_right _ _) (HO.lt hh)) (HO.o hh) rfl (by decide) (Nat.le_of_ble_eq_true rfl) rfl rfl (fun _ => rfl) ?_
          rintro v8 M2 ⟨hse, q1, q2, q3⟩
          obtain ⟨sv, rfl, sl9, hse⟩ := or_num hse
          dsimp only [Option.toList, List.cons_append, List.nil_append, List.append_nil]
          refine T.istore_n (pc' := 58) (q_d dX0_solve_0 35 rfl) rfl rfl (by decide) rfl rfl ?_
          refine T.iinc (pc' := 61) (q_d dX0_solve_0 36 rfl) rfl rfl (nN_p _ 1) (by decide) rfl rfl ?_
          refine T.goto (tgt := 40) (q_d dX0_solve_0 37 rfl) (by decide) ?_
          refine ih (k + 1) sv M2 (by omega) (q2.trans hF) (fun a a1 a2 => (q3 a a1 a2).trans (ha a a1 a2)) q1 ?_
          rcases hse with ⟨e, -⟩ | ⟨e, h9⟩
          · exact Or.inl e
          · refine Or.inr ⟨e, ?_⟩
            rw [sol_end hle.2 h9 (show k ≤ 127 by omega) (by decide), sol_end hle.2 h9 (Nat.le_succ k) (by omega)]
  have loop1 : ∀ d k (M' : qM), k + d = 128 → M'.2 = M.2 → (∀ a, a ≠ h + 1 → a ≠ h + 2 → M'.1 a = M.1 a) → (∀ x, x < k → M'.1 (h + 1) x = 4294967295 ∧ M'.1 (h + 2) x = 0) →
      T l hdX kX mX0_solve (fun v M' => v = none ∧ RHs M' h (solN s g0 g1 127) ∧ M'.2 = M.2 ∧ ∀ a, a ≠ h + 1 → a ≠ h + 2 → M'.1 a = M.1 a) 0 0 2 [some (.ref h), some (.ref 20), some (.int (nI k)), none] [] M' := by
    intro d
    induction d with
    | zero =>
      intro k M' hk hF ha hx
      have hP' : M'.2.2 = pX pa sw := by rw [hF]; exact hP
      refine T.iload_n (pc' := 3) (q_d dX0_solve_0 2 rfl) rfl rfl rfl ?_
      refine T.sipush (pc' := 6) (v := nI 128) (q_d dX0_solve_0 3 rfl) rfl (by decide) ?_
      refine T.icmp_geN (tgt := 29) (pc' := 9) (q_d dX0_solve_0 4 rfl) rfl (by decide) (by omega) (by omega) (fun h6 => ?_) (fun h6 => ?_)
      · refine T.aload_n (pc' := 30) (q_d dX0_solve_0 17 rfl) rfl rfl rfl ?_
        refine T.getR (pc' := 33) (ci := 0) (k0 := 0) (q_d dX0_solve_0 18 rfl) rfl (HO.o hh) (Nat.lt_of_le_of_lt (Nat.le_add_right _ _) (HO.lt hh)) rfl inX0 (by decide) rfl wF_X0_9 (rP hP' (HO.p0 hh)) ?_
        refine T.iconst (pc' := 34) (v := nI 0) (q_d dX0_solve_0 19 rfl) rfl (by decide) ?_
        refine T.iconst (pc' := 35) (v := nI 0) (q_d dX0_solve_0 20 rfl) rfl (by decide) ?_
        refine T.iast (pc' := 36) (q_d dX0_solve_0 21 rfl) rfl (HO.a1 hh) (Nat.lt_of_le_of_lt (by omega) (HO.lt hh)) rfl (by omega) (by decide) ?_
        refine T.iconst (pc' := 37) (v := nI 1) (q_d dX0_solve_0 22 rfl) rfl (by decide) ?_
        refine T.istore_n (pc' := 38) (q_d dX0_solve_0 23 rfl) rfl rfl (by decide) rfl rfl ?_
        refine T.iconst (pc' := 39) (v := nI 1) (q_d dX0_solve_0 24 rfl) rfl (by decide) ?_
        refine T.istore_n (pc' := 40) (q_d dX0_solve_0 25 rfl) rfl rfl (by decide) rfl rfl ?_
        refine loop2 127 0 1 _ (by omega) hF (fun a a1 a2 => ?_) (fun x hx9 => ?_) (Or.inl rfl)
        · funext y; rw [qI_ne (Or.inl a1), ha a a1 a2]
        · by_cases e : x = 0
          · subst e
            rw [qI_eq, qI_ne (Or.inl (by omega))]
            exact ⟨rfl, (hx 0 (by omega)).2⟩
          · rw [qI_ne (Or.inr e), qI_ne (Or.inr e)]
            have h9 := hx x (by omega)
            rw [h9.1, h9.2]
            refine ⟨?_, rfl⟩
            simp only [solN]
            rw [if_neg e]; rfl
      · exact absurd h6 (by omega)
    | succ d ih =>
      intro k M' hk hF ha hx
      have hP' : M'.2.2 = pX pa sw := by rw [hF]; exact hP
      refine T.iload_n (pc' := 3) (q_d dX0_solve_0 2 rfl) rfl rfl rfl ?_
      refine T.sipush (pc' := 6) (v := nI 128) (q_d dX0_solve_0 3 rfl) rfl (by decide) ?_
      refine T.icmp_geN (tgt := 29) (pc' := 9) (q_d dX0_solve_0 4 rfl) rfl (by decide) (by omega) (by omega) (fun h6 => ?_) (fun h6 => ?_)
      · exact absurd h6 (by omega)
      · refine T.aload_n (pc' := 10) (q_d dX0_solve_0 5 rfl) rfl rfl rfl ?_
        refine T.getR (pc' := 13) (ci := 0) (k0 := 0) (q_d dX0_solve_0 6 rfl) rfl (HO.o hh) (Nat.lt_of_le_of_lt (Nat.le_add_right _ _) (HO.lt hh)) rfl inX0 (by decide) rfl wF_X0_9 (rP hP' (HO.p0 hh)) ?_
        refine T.iload_n (pc' := 14) (q_d dX0_solve_0 7 rfl) rfl rfl rfl ?_
        refine T.iconst (pc' := 15) (v := nI 4294967295) (q_d dX0_solve_0 8 rfl) rfl (by decide) ?_
        refine T.iast (pc' := 16) (q_d dX0_solve_0 9 rfl) rfl (HO.a1 hh) (Nat.lt_of_le_of_lt (by omega) (HO.lt hh)) rfl (by omega) (by decide) ?_
        refine T.aload_n (pc' := 17) (q_d dX0_solve_0 10 rfl) rfl rfl rfl ?_
        refine T.getR (pc' := 20) (ci := 0) (k0 := 1) (q_d dX0_solve_0 11 rfl) rfl (HO.o hh) (Nat.lt_of_le_of_lt (Nat.le_add_right _ _) (HO.lt hh)) rfl inX0 (by decide) rfl wF_X0_15 (rP hP' (HO.p1 hh)) ?_
        refine T.iload_n (pc' := 21) (q_d dX0_solve_0 12 rfl) rfl rfl rfl ?_
        refine T.iconst (pc' := 22) (v := nI 0) (q_d dX0_solve_0 13 rfl) rfl (by decide) ?_
        refine T.iast (pc' := 23) (q_d dX0_solve_0 14 rfl) rfl (HO.a2 hh) (Nat.lt_of_le_of_lt (by omega) (HO.lt hh)) rfl (by omega) (by decide) ?_
        refine T.iinc (pc' := 26) (q_d dX0_solve_0 15 rfl) rfl rfl (nN_p _ 1) (by decide) rfl rfl ?_
        refine T.goto (tgt := 2) (q_d dX0_solve_0 16 rfl) (by decide) ?_
        refine ih (k + 1) _ (by omega) hF (fun a a1 a2 => ?_) (fun x hx9 => ?_)
        · funext y; rw [qI_ne (Or.inl a2), qI_ne (Or.inl a1), ha a a1 a2]
        · by_cases e : x = k
          · subst e
            rw [qI_ne (Or.inl (by omega)), qI_eq, qI_eq]
            exact ⟨rfl, rfl⟩
          · rw [qI_ne (Or.inr e), qI_ne (Or.inr e), qI_ne (Or.inr e), qI_ne (Or.inr e)]
            exact hx x (by omega)
  refine T.iconst (pc' := 1) (v := nI 0) (q_d dX0_solve_0 0 rfl) rfl (by decide) ?_
  refine T.istore_n (pc' := 2) (q_d dX0_solve_0 1 rfl) rfl rfl (by decide) rfl rfl ?_
  exact loop1 128 0 M (by omega) rfl (fun _ _ _ => rfl) (fun x hx => absurd hx (by omega))
theorem c_countSure (hh : HO h g0 g1) (hP : M.2.2 = pX pa sw) {nd : Nat → Nat} (hn : ∀ y, y < 128 → M.1 (h + 1) y = nc (nd y)) (hv : ∀ y, nd y = 1000 ∨ nd y ≤ 127) {n : Nat} (h1 : 1 ≤ n) (hn9 : n ≤ 128) :
    Ct l hdX kX mX0_countSure [.ref h, .int (nI n)] M (RI M (nset nd (n - 1))) := by
  refine Ct.of [some (.ref h), some (.int (nI n)), none, none] (by decide +kernel) (fun h => absurd h (by decide)) (Nat.le_of_ble_eq_true rfl) rfl ?_
  have loop : ∀ d k, k + d + 1 = n → T l hdX kX mX0_countSure (RI M (nset nd (n - 1))) 0 0 4 [some (.ref h), some (.int (nI n)), some (.int (nI (nset nd k))), some (.int (nI (k + 1)))] [] M := by
    intro d
    induction d with
    | zero =>
      intro k hk
      refine T.iload_n (pc' := 5) (q_d dX0_countSure_0 4 rfl) rfl rfl rfl ?_
      refine T.iload_n (pc' := 6) (q_d dX0_countSure_0 5 rfl) rfl rfl rfl ?_
      refine T.icmp_geN (tgt := 28) (pc' := 9) (q_d dX0_countSure_0 6 rfl) rfl (by decide) (by omega) (by omega) (fun h6 => ?_) (fun h6 => ?_)
      · refine T.iload_n (pc' := 29) (q_d dX0_countSure_0 16 rfl) rfl rfl rfl ?_
        refine T.iret (q_d dX0_countSure_0 17 rfl) rfl rfl rfl ?_
        exact ⟨rfl, by rw [show k = n - 1 by omega]⟩
      · exact absurd h6 (by omega)
    | succ d ih =>
      intro k hk
      have hv1 := hv (k + 1)
      have hnl := nc_lt hv1
      have hm := nc_m1 hv1
      have hs9 : nset nd (k + 1) = nset nd k + (if nd (k + 1) = 1000 then 0 else 1) := rfl
      refine T.iload_n (pc' := 5) (q_d dX0_countSure_0 4 rfl) rfl rfl rfl ?_
      refine T.iload_n (pc' := 6) (q_d dX0_countSure_0 5 rfl) rfl rfl rfl ?_
      refine T.icmp_geN (tgt := 28) (pc' := 9) (q_d dX0_countSure_0 6 rfl) rfl (by decide) (by omega) (by omega) (fun h6 => ?_) (fun h6 => ?_)
      · exact absurd h6 (by omega)
      · refine T.aload_n (pc' := 10) (q_d dX0_countSure_0 7 rfl) rfl rfl rfl ?_
        refine T.getR (pc' := 13) (ci := 0) (k0 := 0) (q_d dX0_countSure_0 8 rfl) rfl (HO.o hh) (Nat.lt_of_le_of_lt (Nat.le_add_right _ _) (HO.lt hh)) rfl inX0 (by decide) rfl wF_X0_9 (rP hP (HO.p0 hh)) ?_
        refine T.iload_n (pc' := 14) (q_d dX0_countSure_0 9 rfl) rfl rfl rfl ?_
        refine T.iald (pc' := 15) (q_d dX0_countSure_0 10 rfl) rfl (HO.a1 hh) (Nat.lt_of_le_of_lt (by omega) (HO.lt hh)) rfl (by omega) (by decide) (hn _ (by omega)) ?_
        refine T.iconst (pc' := 16) (v := nI 4294967295) (q_d dX0_countSure_0 11 rfl) rfl (by decide) ?_
        refine T.icmp_eqN (tgt := 22) (pc' := 19) (q_d dX0_countSure_0 12 rfl) rfl (by decide) (by omega) (by omega) (fun h16 => ?_) (fun h16 => ?_)
        · refine T.iinc (pc' := 25) (q_d dX0_countSure_0 14 rfl) rfl rfl (nN_p _ 1) (by decide) rfl rfl ?_
          refine T.goto (tgt := 4) (q_d dX0_countSure_0 15 rfl) (by decide) ?_
          first
            | (have e9 := hm.mp h16
               rw [if_pos e9] at hs9
               have h9 := ih (k + 1) (by omega)
               rw [hs9] at h9
               exact h9)
            | (rw [if_neg (fun e => h16 (hm.mpr e))] at hs9
               have h9 := ih (k + 1) (by omega)
               rw [hs9] at h9
               exact h9)
        · refine T.iinc (pc' := 22) (q_d dX0_countSure_0 13 rfl) rfl rfl (nN_p _ 1) (by decide) rfl rfl ?_
          refine T.iinc (pc' := 25) (q_d dX0_countSure_0 14 rfl) rfl rfl (nN_p _ 1) (by decide) rfl rfl ?_
          refine T.goto (tgt := 4) (q_d dX0_countSure_0 15 rfl) (by decide) ?_
          first
            | (have e9 := hm.mp h16
               rw [if_pos e9] at hs9
               have h9 := ih (k + 1) (by omega)
               rw [hs9] at h9
               exact h9)
            | (rw [if_neg (fun e => h16 (hm.mpr e))] at hs9
               have h9 := ih (k + 1) (by omega)
               rw [hs9] at h9
               exact h9)
  refine T.iconst (pc' := 1) (v := nI 0) (q_d dX0_countSure_0 0 rfl) rfl (by decide) ?_
  refine T.istore_n (pc' := 2) (q_d dX0_countSure_0 1 rfl) rfl rfl (by decide) rfl rfl ?_
  refine T.iconst (pc' := 3) (v := nI 1) (q_d dX0_countSure_0 2 rfl) rfl (by decide) ?_
  refine T.istore_n (pc' := 4) (q_d dX0_countSure_0 3 rfl) rfl rfl (by decide) rfl rfl ?_
  exact loop (n - 1) 0 (by omega)
theorem c_mostNeeded (hh : HO h g0 g1) (hP : M.2.2 = pX pa sw) {nd : Nat → Nat} (hn : ∀ y, y < 128 → M.1 (h + 1) y = nc (nd y)) (hv : ∀ y, nd y = 1000 ∨ nd y ≤ 127) {n : Nat} (h1 : 1 ≤ n) (hn9 : n ≤ 128) :
    Ct l hdX kX mX0_mostNeeded [.ref h, .int (nI n)] M (RI M (mostTo nd (n - 1))) := by
  refine Ct.of [some (.ref h), some (.int (nI n)), none, none] (by decide +kernel) (fun h => absurd h (by decide)) (Nat.le_of_ble_eq_true rfl) rfl ?_
  have loop : ∀ d k, k + d + 1 = n → T l hdX kX mX0_mostNeeded (RI M (mostTo nd (n - 1))) 0 0 4 [some (.ref h), some (.int (nI n)), some (.int (nI (mostTo nd k))), some (.int (nI (k + 1)))] [] M := by
    intro d
    induction d with
    | zero =>
      intro k hk
      refine T.iload_n (pc' := 5) (q_d dX0_mostNeeded_0 4 rfl) rfl rfl rfl ?_
      refine T.iload_n (pc' := 6) (q_d dX0_mostNeeded_0 5 rfl) rfl rfl rfl ?_
      refine T.icmp_geN (tgt := 26) (pc' := 9) (q_d dX0_mostNeeded_0 6 rfl) rfl (by decide) (by omega) (by omega) (fun h6 => ?_) (fun h6 => ?_)
      · refine T.iload_n (pc' := 27) (q_d dX0_mostNeeded_0 16 rfl) rfl rfl rfl ?_
        refine T.iret (q_d dX0_mostNeeded_0 17 rfl) rfl rfl rfl ?_
        exact ⟨rfl, by rw [show k = n - 1 by omega]⟩
      · exact absurd h6 (by omega)
    | succ d ih =>
      intro k hk
      have hv1 := hv (k + 1)
      have hml := mostTo_le hv k
      have hmx : (if nI (mostTo nd k) < nI (nc (nd (k + 1))) then nI (nc (nd (k + 1))) else nI (mostTo nd k)) = nI (mostTo nd (k + 1)) := by
        by_cases e : nd (k + 1) = 1000
        · rw [e, show nc 1000 = 4294967295 from rfl, if_neg, show mostTo nd (k + 1) = mostTo nd k by simp only [mostTo]; rw [if_neg (fun q => q.1 e)]]
          rw [Int32.lt_iff_toInt_lt, nI_toInt (by omega), nN_neg (by decide) (by decide)]
          omega
        · rw [nc_id e]
          by_cases e2 : mostTo nd k < nd (k + 1)
          · rw [if_pos ((nN_lt (by omega) (by omega)).mpr e2)]
            simp only [mostTo]; rw [if_pos ⟨e, e2⟩]
          · rw [if_neg (fun q => e2 ((nN_lt (by omega) (by omega)).mp q))]
            simp only [mostTo]; rw [if_neg (fun q => e2 q.2)]
      refine T.iload_n (pc' := 5) (q_d dX0_mostNeeded_0 4 rfl) rfl rfl rfl ?_
      refine T.iload_n (pc' := 6) (q_d dX0_mostNeeded_0 5 rfl) rfl rfl rfl ?_
      refine T.icmp_geN (tgt := 26) (pc' := 9) (q_d dX0_mostNeeded_0 6 rfl) rfl (by decide) (by omega) (by omega) (fun h6 => ?_) (fun h6 => ?_)
      · exact absurd h6 (by omega)
      · refine T.iload_n (pc' := 10) (q_d dX0_mostNeeded_0 7 rfl) rfl rfl rfl ?_
        refine T.aload_n (pc' := 11) (q_d dX0_mostNeeded_0 8 rfl) rfl rfl rfl ?_
        refine T.getR (pc' := 14) (ci := 0) (k0 := 0) (q_d dX0_mostNeeded_0 9 rfl) rfl (HO.o hh) (Nat.lt_of_le_of_lt (Nat.le_add_right _ _) (HO.lt hh)) rfl inX0 (by decide) rfl wF_X0_9 (rP hP (HO.p0 hh)) ?_
        refine T.iload_n (pc' := 15) (q_d dX0_mostNeeded_0 10 rfl) rfl rfl rfl ?_
        refine T.iald (pc' := 16) (q_d dX0_mostNeeded_0 11 rfl) rfl (HO.a1 hh) (Nat.lt_of_le_of_lt (by omega) (HO.lt hh)) rfl (by omega) (by decide) (hn _ (by omega)) ?_
        refine T.mmax (pc' := 19) (q_d dX0_mostNeeded_0 12 rfl) rfl wM_X0_61 wT_Math_max wZ_Math wC_Math_max (by decide) (Nat.le_of_ble_eq_true rfl) (by decide) (by decide) hmx ?_
        refine T.istore_n (pc' := 20) (q_d dX0_mostNeeded_0 13 rfl) rfl rfl (by decide) rfl rfl ?_
        refine T.iinc (pc' := 23) (q_d dX0_mostNeeded_0 14 rfl) rfl rfl (nN_p _ 1) (by decide) rfl rfl ?_
        refine T.goto (tgt := 4) (q_d dX0_mostNeeded_0 15 rfl) (by decide) ?_
        exact ih (k + 1) (by omega)
  refine T.iconst (pc' := 1) (v := nI 0) (q_d dX0_mostNeeded_0 0 rfl) rfl (by decide) ?_
  refine T.istore_n (pc' := 2) (q_d dX0_mostNeeded_0 1 rfl) rfl rfl (by decide) rfl rfl ?_
  refine T.iconst (pc' := 3) (v := nI 1) (q_d dX0_mostNeeded_0 2 rfl) rfl (by decide) ?_
  refine T.istore_n (pc' := 4) (q_d dX0_mostNeeded_0 3 rfl) rfl rfl (by decide) rfl rfl ?_
  exact loop (n - 1) 0 (by omega)
theorem c_hardestBelief (hh : HO h g0 g1) (hP : M.2.2 = pX pa sw) {nd : Nat → Nat} (hn : ∀ y, y < 128 → M.1 (h + 1) y = nc (nd y)) (hv : ∀ y, nd y = 1000 ∨ nd y ≤ 127) {n : Nat} (h1 : 1 ≤ n) (hn9 : n ≤ 128) :
    Ct l hdX kX mX0_hardestBelief [.ref h, .int (nI n)] M (RI M ((hardN nd (mostTo nd (n - 1)) n).getD 4293967292)) := by
  refine Ct.of [some (.ref h), some (.int (nI n)), none, none] (by decide +kernel) (fun h => absurd h (by decide)) (Nat.le_of_ble_eq_true rfl) rfl ?_
  have hml := mostTo_le hv (n - 1)
  have loop : ∀ d k, k + d = n → 1 ≤ k → (∀ x, x < k → ¬ (0 < x ∧ nd x = mostTo nd (n - 1))) → T l hdX kX mX0_hardestBelief (RI M ((hardN nd (mostTo nd (n - 1)) n).getD 4293967292)) 0 0 8 [some (.ref h), some (.int (nI n)), some (.int (nI (mostTo nd (n - 1)))), some (.int (nI k))] [] M := by
    intro d
    induction d with
    | zero =>
      intro k hk hk1 hx
      refine T.iload_n (pc' := 9) (q_d dX0_hardestBelief_0 6 rfl) rfl rfl rfl ?_
      refine T.iload_n (pc' := 10) (q_d dX0_hardestBelief_0 7 rfl) rfl rfl rfl ?_
      refine T.icmp_geN (tgt := 31) (pc' := 13) (q_d dX0_hardestBelief_0 8 rfl) rfl (by decide) (by omega) (by omega) (fun h10 => ?_) (fun h10 => ?_)
      · refine T.ldc (pc' := 33) (v := nI 4293967292) (q_d dX0_hardestBelief_0 19 rfl) rfl wN_X0_60 ?_
        refine T.iret (q_d dX0_hardestBelief_0 20 rfl) rfl rfl rfl ?_
        refine ⟨rfl, ?_⟩
        have h9 : hardN nd (mostTo nd (n - 1)) n = none := by
          unfold hardN
          rw [List.find?_eq_none]
          intro x hx9
          have := hx x (by have := List.mem_range.mp hx9; omega)
          simpa using this
        rw [h9]; rfl
      · exact absurd h10 (by omega)
    | succ d ih =>
      intro k hk hk1 hx
      have hv1 := hv k
      have hnl := nc_lt hv1
      refine T.iload_n (pc' := 9) (q_d dX0_hardestBelief_0 6 rfl) rfl rfl rfl ?_
      refine T.iload_n (pc' := 10) (q_d dX0_hardestBelief_0 7 rfl) rfl rfl rfl ?_
      refine T.icmp_geN (tgt := 31) (pc' := 13) (q_d dX0_hardestBelief_0 8 rfl) rfl (by decide) (by omega) (by omega) (fun h10 => ?_) (fun h10 => ?_)
      · exact absurd h10 (by omega)
      · refine T.aload_n (pc' := 14) (q_d dX0_hardestBelief_0 9 rfl) rfl rfl rfl ?_
        refine T.getR (pc' := 17) (ci := 0) (k0 := 0) (q_d dX0_hardestBelief_0 10 rfl) rfl (HO.o hh) (Nat.lt_of_le_of_lt (Nat.le_add_right _ _) (HO.lt hh)) rfl inX0 (by decide) rfl wF_X0_9 (rP hP (HO.p0 hh)) ?_
        refine T.iload_n (pc' := 18) (q_d dX0_hardestBelief_0 11 rfl) rfl rfl rfl ?_
        refine T.iald (pc' := 19) (q_d dX0_hardestBelief_0 12 rfl) rfl (HO.a1 hh) (Nat.lt_of_le_of_lt (by omega) (HO.lt hh)) rfl (by omega) (by decide) (hn _ (by omega)) ?_
        refine T.iload_n (pc' := 20) (q_d dX0_hardestBelief_0 13 rfl) rfl rfl rfl ?_
        refine T.icmp_neN (tgt := 25) (pc' := 23) (q_d dX0_hardestBelief_0 14 rfl) rfl (by decide) (by omega) (by omega) (fun h20 => ?_) (fun h20 => ?_)
        · refine T.iinc (pc' := 28) (q_d dX0_hardestBelief_0 17 rfl) rfl rfl (nN_p _ 1) (by decide) rfl rfl ?_
          refine T.goto (tgt := 8) (q_d dX0_hardestBelief_0 18 rfl) (by decide) ?_
          refine ih (k + 1) (by omega) (by omega) (fun x hx9 => ?_)
          by_cases e : x = k
          · subst e
            rintro ⟨-, e⟩
            apply h20
            rw [e]
            unfold nc
            rw [if_neg (by omega)]
          · exact hx x (by omega)
        · refine T.iload_n (pc' := 24) (q_d dX0_hardestBelief_0 15 rfl) rfl rfl rfl ?_
          refine T.iret (q_d dX0_hardestBelief_0 16 rfl) rfl rfl rfl ?_
          refine ⟨rfl, ?_⟩
          have e : nd k = mostTo nd (n - 1) := by
            unfold nc at h20
            split at h20 <;> omega
          have h9 : hardN nd (mostTo nd (n - 1)) n = some k := by
            unfold hardN
            rw [List.find?_range_eq_some]
            refine ⟨?_, by simp; omega, fun j hj => ?_⟩
            · simp [e]; omega
            · have := hx j hj
              simp
              omega
          rw [h9]; rfl
  refine T.aload_n (pc' := 1) (q_d dX0_hardestBelief_0 0 rfl) rfl rfl rfl ?_
  refine T.iload_n (pc' := 2) (q_d dX0_hardestBelief_0 1 rfl) rfl rfl rfl ?_
  refine T.callV (pc' := 5) (ci := 0) (q_d dX0_hardestBelief_0 2 rfl) rfl uX0_mostNeeded wM_X0_56 (c_mostNeeded hh hP hn hv h1 hn9) rfl rfl (Nat.lt_of_le_of_lt (Nat.le_add_right _ _) (HO.lt hh)) (HO.o hh) rfl (by decide) (Nat.le_of_ble_eq_true rfl) rfl rfl (fun _ => rfl) ?_
  rintro _ _ ⟨rfl, rfl⟩
  dsimp only [Option.toList, List.cons_append, List.nil_append, List.append_nil]
  refine T.istore_n (pc' := 6) (q_d dX0_hardestBelief_0 3 rfl) rfl rfl (by decide) rfl rfl ?_
  refine T.iconst (pc' := 7) (v := nI 1) (q_d dX0_hardestBelief_0 4 rfl) rfl (by decide) ?_
  refine T.istore_n (pc' := 8) (q_d dX0_hardestBelief_0 5 rfl) rfl rfl (by decide) rfl rfl ?_
  exact loop (n - 1) 1 (by omega) (Nat.le_refl _) (fun x hx => by omega)
end CX0B
end
section
/-! BlindHunts$RoundText: the text, n signs -/
def TX (M : qM) (n : Nat) (t : Nat → Nat) : Prop := M.1 18 1 = n ∧ ∀ i, i < n → M.1 19 i = t i
def WT (n : Nat) (t : Nat → Nat) : Prop := n ≤ 60 ∧ ∀ i, i < n → 32 ≤ t i ∧ t i ≤ 126
end
section
/-! BlindHunts: tests of arguments, the history, the tables -/
def sI (u : Nat) : Int := if u < 2147483648 then (u : Int) else (u : Int) - 4294967296
theorem nN_sI {u : Nat} (h : u < 4294967296) : (nI u).toInt = sI u := by
  unfold sI
  split
  · exact nI_toInt (by omega)
  · exact nN_neg (by omega) h
def inS (u lo hi : Nat) : Bool := decide (sI lo ≤ sI u) && decide (sI u ≤ sI hi)
theorem inS_iff {u lo hi : Nat} (hu : u < 4294967296) (hl : lo < 2147483648) (hh : hi < 2147483648) : inS u lo hi = true ↔ lo ≤ u ∧ u ≤ hi := by
  simp only [inS, Bool.and_eq_true, decide_eq_true_eq]
  unfold sI
  rw [if_pos hl, if_pos hh]
  split <;> omega
theorem inS_pl {u pl : Nat} (hu : u < 4294967296) (hp : pl ≤ 128) : inS u 0 (if pl = 0 then 4294967295 else pl - 1) = true ↔ u < pl := by
  simp only [inS, Bool.and_eq_true, decide_eq_true_eq]
  unfold sI
  by_cases h : pl = 0
  · rw [if_pos h]
    split <;> simp <;> omega
  · rw [if_neg h, if_pos (show pl - 1 < 2147483648 by omega)]
    split <;> simp <;> omega
theorem inS_m1 {u : Nat} (hu : u < 4294967296) : inS u 4294967295 3 = true ↔ u = 4294967295 ∨ u ≤ 3 := by
  simp only [inS, Bool.and_eq_true, decide_eq_true_eq]
  unfold sI
  split <;> simp <;> omega
theorem nar_if (p : Prop) [Decidable p] : narrow .boolean (.int (nI (if p then 1 else 0))) = .int (nI (if p then 1 else 0)) := by split <;> decide
theorem pl_m1 {pl : Nat} : nI pl - nI 1 = nI (if pl = 0 then 4294967295 else pl - 1) := by
  by_cases h : pl = 0
  · subst h; decide
  · rw [if_neg h]; exact nN_sub (by omega)
def PaOk (pa : Nat → Nat) : Prop := (∀ i, i < 4 → pa i = 39 ∨ pa i = 47 ∨ pa i = 55 ∨ pa i = 63) ∧ ∀ i j, i < 4 → j < 4 → pa i = pa j → i = j
theorem PaOk.so {pa : Nat → Nat} (h : PaOk pa) {i : Nat} (hi : i < 4) : SO (pa i) := by
  rcases h.1 i hi with e | e | e | e <;> rw [e] <;> unfold SO <;> omega
theorem PaOk.ge {pa : Nat → Nat} (h : PaOk pa) {i : Nat} (hi : i < 4) : 39 ≤ pa i := by
  rcases h.1 i hi with e | e | e | e <;> omega
theorem PaOk.ap {pa : Nat → Nat} (h : PaOk pa) {i j : Nat} (hi : i < 4) (hj : j < 4) (hij : i ≠ j) : pa i + 8 ≤ pa j ∨ pa j + 8 ≤ pa i := by
  have h1 : pa i ≠ pa j := fun e => hij (h.2 i j hi hj e)
  rcases h.1 i hi with e | e | e | e <;> rcases h.1 j hj with f | f | f | f <;> omega
/-- what is known of the tables -/
def Tb (M : qM) (s : Nat → Nat) : Prop :=
  M.1 0 8 ≤ 1 ∧ M.1 0 9 ≤ 1 ∧ M.1 0 10 ≤ 1 ∧ (M.1 0 8 = 1 → RT M s) ∧ (M.1 0 9 = 1 → M.1 0 8 = 1 ∧ RHs M 29 (solN s 0 3 127)) ∧ (M.1 0 10 = 1 → M.1 0 8 = 1 ∧ RHs M 32 (solN s 4 4 127)) ∧ M.1 29 2 = 0 ∧ M.1 29 3 = 3 ∧ M.1 32 2 = 4 ∧ M.1 32 3 = 4 ∧ ∀ g, g < 5 → M.1 (22 + g) 0 = 0
def RX (M : qM) (b : Nat) (s : Nat → Nat) (k : Nat) (was : Nat → Nat → Nat) (n : Nat) (t : Nat → Nat) (pa : Nat → Nat) (sw : Bool) : Prop :=
  M.2.2 = pX pa sw ∧ PaOk pa ∧ RS M 1 s ∧ WF b s ∧ M.1 0 3 = k ∧ k ≤ 4 ∧ (∀ i, i < k → RS M (pa i) (was i) ∧ WF b (was i)) ∧ TX M n t ∧ WT n t ∧ Tb M s
theorem RHs.mono {M M' : qM} {h : Nat} {st : (Nat → Nat) × (Nat → Nat)} (q : RHs M h st) (h1 : M'.1 (h + 1) = M.1 (h + 1)) (h2 : M'.1 (h + 2) = M.1 (h + 2)) : RHs M' h st := fun x hx => by rw [h1, h2]; exact q x hx
theorem Tb.mono {M M' : qM} {s : Nat → Nat} (q : Tb M s) (h0 : M'.1 0 8 = M.1 0 8 ∧ M'.1 0 9 = M.1 0 9 ∧ M'.1 0 10 = M.1 0 10) (ha : ∀ a, 20 ≤ a → a ≤ 34 → M'.1 a = M.1 a) : Tb M' s := by
  obtain ⟨q1, q2, q3, q4, q5, q6, q7, q8, q9, q10, q11⟩ := q
  unfold Tb
  rw [h0.1, h0.2.1, h0.2.2, ha 29 (by decide) (by decide), ha 32 (by decide) (by decide)]
  exact ⟨q1, q2, q3, fun e => (q4 e).mono (fun a h1 h2 => ha a h1 (by omega)), fun e => ⟨(q5 e).1, (q5 e).2.mono (ha 30 (by decide) (by decide)) (ha 31 (by decide) (by decide))⟩, fun e => ⟨(q6 e).1, (q6 e).2.mono (ha 33 (by decide) (by decide)) (ha 34 (by decide) (by decide))⟩, q7, q8, q9, q10, fun g hg => by rw [ha (22 + g) (by omega) (by omega)]; exact q11 g hg⟩
/-- only the tables changed -/
def FrT (M M' : qM) : Prop := M'.2 = M.2 ∧ (∀ a, a ≠ 0 → (a < 20 ∨ 34 < a) → M'.1 a = M.1 a) ∧ ∀ j, j < 8 → M'.1 0 j = M.1 0 j
theorem RX.tb {M M' : qM} {b : Nat} {s : Nat → Nat} {k : Nat} {was : Nat → Nat → Nat} {n : Nat} {t pa : Nat → Nat} {sw : Bool} (q : RX M b s k was n t pa sw) (h : FrT M M') (ht : Tb M' s) : RX M' b s k was n t pa sw := by
  obtain ⟨q1, q2, q3, q4, q5, q6, q7, q8, q9, -⟩ := q
  obtain ⟨f1, f2, f3⟩ := h
  refine ⟨by rw [f1]; exact q1, q2, q3.mono (fun a a1 a2 => f2 a (by omega) (by omega)), q4, (f3 3 (by decide)).trans q5, q6, fun i hi => ⟨(q7 i hi).1.mono (fun a a1 a2 => by have := q2.ge (show i < 4 by omega); exact f2 a (by omega) (by omega)), (q7 i hi).2⟩, ⟨by rw [f2 18 (by decide) (by decide)]; exact q8.1, fun i hi => by rw [f2 19 (by decide) (by decide)]; exact q8.2 i hi⟩, q9, ht⟩
theorem FrT.refl {M : qM} : FrT M M := ⟨rfl, fun _ _ _ => rfl, fun _ _ => rfl⟩
theorem FrT.trans {M M2 M3 : qM} (h : FrT M M2) (h2 : FrT M2 M3) : FrT M M3 := ⟨h2.1.trans h.1, fun a a1 a2 => (h2.2.1 a a1 a2).trans (h.2.1 a a1 a2), fun j hj => (h2.2.2 j hj).trans (h.2.2 j hj)⟩
theorem sol_vals {s : Nat → Nat} {g0 g1 : Nat} (y : Nat) : (solN s g0 g1 127).1 y = 1000 ∨ (solN s g0 g1 127).1 y ≤ 127 := sol_val 127 y
section CX5A
variable {l : Launch} {M : qM} {b : Nat} {s : Nat → Nat} {k : Nat} {was : Nat → Nat → Nat} {n : Nat} {t pa : Nat → Nat} {sw : Bool}
theorem c_isWithin {u lo hi : Nat} (hu : u < 4294967296) (hl : lo < 4294967296) (hh : hi < 4294967296) : Ct l hdX kX mX5_isWithin [.int (nI u), .int (nI lo), .int (nI hi)] M (RI M (if inS u lo hi = true then 1 else 0)) := by
  refine Ct.of [some (.int (nI u)), some (.int (nI lo)), some (.int (nI hi))] (by decide +kernel) (fun h => absurd h (by decide)) (Nat.le_of_ble_eq_true rfl) rfl ?_
  have e1 : (nI u < nI lo) ↔ sI u < sI lo := by rw [Int32.lt_iff_toInt_lt, nN_sI hu, nN_sI hl]
  have e2 : (nI hi < nI u) ↔ sI hi < sI u := by rw [Int32.lt_iff_toInt_lt, nN_sI hh, nN_sI hu]
  have e3 : inS u lo hi = true ↔ sI lo ≤ sI u ∧ sI u ≤ sI hi := by simp [inS]
  refine T.iload_n (pc' := 1) (q_d dX5_isWithin_0 0 rfl) rfl rfl rfl ?_
  refine T.iload_n (pc' := 2) (q_d dX5_isWithin_0 1 rfl) rfl rfl rfl ?_
  refine T.icmp_lt (tgt := 14) (pc' := 5) (q_d dX5_isWithin_0 2 rfl) rfl (by decide)  (fun h2 => ?_) (fun h2 => ?_)
  · refine T.iconst (pc' := 15) (v := nI 0) (q_d dX5_isWithin_0 8 rfl) rfl (by decide) ?_
    refine T.zret (q_d dX5_isWithin_0 9 rfl) rfl (by decide) rfl rfl ?_
    refine ⟨rfl, ?_⟩
    first
      | (rw [if_pos (e3.mpr ⟨Int.not_lt.mp (fun q => h2 (e1.mpr q)), Int.not_lt.mp (fun q => h7 (e2.mpr q))⟩)]; done)
      | (rw [if_neg (fun q => by have h9 := e3.mp q; have h8 := e1.mp h2; omega)]; done)
      | (rw [if_neg (fun q => by have h9 := e3.mp q; have h8 := e2.mp h7; omega)]; done)
  · refine T.iload_n (pc' := 6) (q_d dX5_isWithin_0 3 rfl) rfl rfl rfl ?_
    refine T.iload_n (pc' := 7) (q_d dX5_isWithin_0 4 rfl) rfl rfl rfl ?_
    refine T.icmp_gt (tgt := 14) (pc' := 10) (q_d dX5_isWithin_0 5 rfl) rfl (by decide)  (fun h7 => ?_) (fun h7 => ?_)
    · refine T.iconst (pc' := 15) (v := nI 0) (q_d dX5_isWithin_0 8 rfl) rfl (by decide) ?_
      refine T.zret (q_d dX5_isWithin_0 9 rfl) rfl (by decide) rfl rfl ?_
      refine ⟨rfl, ?_⟩
      first
        | (rw [if_pos (e3.mpr ⟨Int.not_lt.mp (fun q => h2 (e1.mpr q)), Int.not_lt.mp (fun q => h7 (e2.mpr q))⟩)]; done)
        | (rw [if_neg (fun q => by have h9 := e3.mp q; have h8 := e1.mp h2; omega)]; done)
        | (rw [if_neg (fun q => by have h9 := e3.mp q; have h8 := e2.mp h7; omega)]; done)
    · refine T.iconst (pc' := 11) (v := nI 1) (q_d dX5_isWithin_0 6 rfl) rfl (by decide) ?_
      refine T.goto (tgt := 15) (q_d dX5_isWithin_0 7 rfl) (by decide) ?_
      refine T.zret (q_d dX5_isWithin_0 9 rfl) rfl (by decide) rfl rfl ?_
      refine ⟨rfl, ?_⟩
      first
        | (rw [if_pos (e3.mpr ⟨Int.not_lt.mp (fun q => h2 (e1.mpr q)), Int.not_lt.mp (fun q => h7 (e2.mpr q))⟩)]; done)
        | (rw [if_neg (fun q => by have h9 := e3.mp q; have h8 := e1.mp h2; omega)]; done)
        | (rw [if_neg (fun q => by have h9 := e3.mp q; have h8 := e2.mp h7; omega)]; done)
theorem c_isPlace (hP : M.2.2 = pX pa sw) (hs : RS M 1 s) (hw : WF b s) {u : Nat} (hu : u < 4294967296) : Ct l hdX kX mX5_isPlace [.ref 0, .int (nI u)] M (RI M (if u < s 0 then 1 else 0)) := by
  refine Ct.of [some (.ref 0), some (.int (nI u))] (by decide +kernel) (fun h => absurd h (by decide)) (Nat.le_of_ble_eq_true rfl) rfl ?_
  have h0 := hs.1
  have w7 := hw.1
  have e := inS_pl (pl := s 0) hu (by omega)
  refine T.iload_n (pc' := 1) (q_d dX5_isPlace_0 0 rfl) rfl rfl rfl ?_
  refine T.iconst (pc' := 2) (v := nI 0) (q_d dX5_isPlace_0 1 rfl) rfl (by decide) ?_
  refine T.aload_n (pc' := 3) (q_d dX5_isPlace_0 2 rfl) rfl rfl rfl ?_
  refine T.getR (pc' := 6) (ci := 5) (k0 := 0) (q_d dX5_isPlace_0 3 rfl) rfl rfl (by decide) rfl inX5 (by decide) rfl wF_X5_10 (rP hP rfl) ?_
  refine T.getI (pc' := 9) (ci := 3) (k0 := 0) (q_d dX5_isPlace_0 4 rfl) rfl rfl (by decide) rfl inX3 (by decide) rfl wF_X5_65 h0 ?_
  refine T.iconst (pc' := 10) (v := nI 1) (q_d dX5_isPlace_0 5 rfl) rfl (by decide) ?_
  refine T.isub (pc' := 11) (q_d dX5_isPlace_0 6 rfl) rfl pl_m1 ?_
  refine T.callS (pc' := 14) (q_d dX5_isPlace_0 7 rfl) rfl uX5_isWithin wM_X5_60 (c_isWithin hu (by decide) (hi := if s 0 = 0 then 4294967295 else s 0 - 1) (by split <;> omega)) rfl rfl (by decide) (Nat.le_of_ble_eq_true rfl) rfl rfl (fun _ => rfl) ?_
  rintro _ _ ⟨rfl, rfl⟩
  dsimp only [Option.toList, List.cons_append, List.nil_append, List.append_nil]
  refine T.zret (q_d dX5_isPlace_0 8 rfl) rfl (nar_if _) rfl rfl ?_
  refine ⟨rfl, ?_⟩
  by_cases h9 : u < s 0
  · rw [if_pos h9, if_pos (e.mpr h9)]
  · rw [if_neg h9, if_neg (fun q => h9 (e.mp q))]
theorem c_isSet (hP : M.2.2 = pX pa sw) (hs : RS M 1 s) (hw : WF b s) {u : Nat} (hu : u < 4294967296) : Ct l hdX kX mX5_isSet [.ref 0, .int (nI u)] M (RI M (if u < 2 ^ s 0 then 1 else 0)) := by
  refine Ct.of [some (.ref 0), some (.int (nI u))] (by decide +kernel) (fun h => absurd h (by decide)) (Nat.le_of_ble_eq_true rfl) rfl ?_
  have w0 := p2_le hw.1
  have e := inS_pl (pl := 2 ^ s 0) hu w0
  have hne : ¬ 2 ^ s 0 = 0 := by have := Nat.two_pow_pos (s 0); omega
  rw [if_neg hne] at e
  have hpos : 1 ≤ 2 ^ s 0 := Nat.two_pow_pos _
  refine T.iload_n (pc' := 1) (q_d dX5_isSet_0 0 rfl) rfl rfl rfl ?_
  refine T.iconst (pc' := 2) (v := nI 0) (q_d dX5_isSet_0 1 rfl) rfl (by decide) ?_
  refine T.aload_n (pc' := 3) (q_d dX5_isSet_0 2 rfl) rfl rfl rfl ?_
  refine T.getR (pc' := 6) (ci := 5) (k0 := 0) (q_d dX5_isSet_0 3 rfl) rfl rfl (by decide) rfl inX5 (by decide) rfl wF_X5_10 (rP hP rfl) ?_
  refine T.callV (pc' := 9) (ci := 3) (q_d dX5_isSet_0 4 rfl) rfl uX3_sets wM_X5_184 (c_sets (Or.inl rfl) hP hs hw) rfl rfl (by decide) rfl rfl (by decide) (Nat.le_of_ble_eq_true rfl) rfl rfl (fun _ => rfl) ?_
  rintro _ _ ⟨rfl, rfl⟩
  dsimp only [Option.toList, List.cons_append, List.nil_append, List.append_nil]
  refine T.iconst (pc' := 10) (v := nI 1) (q_d dX5_isSet_0 5 rfl) rfl (by decide) ?_
  refine T.isub (pc' := 11) (q_d dX5_isSet_0 6 rfl) rfl ((congrArg (fun z => nI z - nI 1) (Nat.one_shiftLeft (s 0))).trans (nN_sub hpos)) ?_
  refine T.callS (pc' := 14) (q_d dX5_isSet_0 7 rfl) rfl uX5_isWithin wM_X5_60 (c_isWithin hu (by decide) (hi := 2 ^ s 0 - 1) (by omega)) rfl rfl (by decide) (Nat.le_of_ble_eq_true rfl) rfl rfl (fun _ => rfl) ?_
  rintro _ _ ⟨rfl, rfl⟩
  dsimp only [Option.toList, List.cons_append, List.nil_append, List.append_nil]
  refine T.zret (q_d dX5_isSet_0 8 rfl) rfl (nar_if _) rfl rfl ?_
  refine ⟨rfl, ?_⟩
  by_cases h9 : u < 2 ^ s 0
  · rw [if_pos h9, if_pos (e.mpr h9)]
  · rw [if_neg h9, if_neg (fun q => h9 (e.mp q))]
theorem c_arePlaces (hP : M.2.2 = pX pa sw) (hs : RS M 1 s) (hw : WF b s) {u v : Nat} (hu : u < 4294967296) (hv : v < 4294967296) : Ct l hdX kX mX5_arePlaces [.ref 0, .int (nI u), .int (nI v)] M (RI M (if u < s 0 ∧ v < s 0 ∧ u ≠ v then 1 else 0)) := by
  refine Ct.of [some (.ref 0), some (.int (nI u)), some (.int (nI v))] (by decide +kernel) (fun h => absurd h (by decide)) (Nat.le_of_ble_eq_true rfl) rfl ?_
  refine T.aload_n (pc' := 1) (q_d dX5_arePlaces_0 0 rfl) rfl rfl rfl ?_
  refine T.iload_n (pc' := 2) (q_d dX5_arePlaces_0 1 rfl) rfl rfl rfl ?_
  refine T.callV (pc' := 5) (ci := 5) (q_d dX5_arePlaces_0 2 rfl) rfl uX5_isPlace wM_X5_141 (c_isPlace hP hs hw hu) rfl rfl (by decide) rfl rfl (by decide) (Nat.le_of_ble_eq_true rfl) rfl rfl (fun _ => rfl) ?_
  rintro _ _ ⟨rfl, rfl⟩
  dsimp only [Option.toList, List.cons_append, List.nil_append, List.append_nil]
  refine T.if_eqN (tgt := 25) (pc' := 8) (q_d dX5_arePlaces_0 3 rfl) rfl (by decide) (by split <;> decide) (fun h5 => ?_) (fun h5 => ?_)
  · refine T.iconst (pc' := 26) (v := nI 0) (q_d dX5_arePlaces_0 13 rfl) rfl (by decide) ?_
    refine T.zret (q_d dX5_arePlaces_0 14 rfl) rfl (by decide) rfl rfl ?_
    refine ⟨rfl, ?_⟩
    by_cases a1 : u < s 0 <;> by_cases a2 : v < s 0 <;> simp only [a1, a2, if_true, if_false, true_and, false_and] at * <;> first
      | exact absurd rfl h5
      | exact absurd rfl h13
      | exact absurd h5 (by decide)
      | exact absurd h13 (by decide)
      | (rw [if_pos h18]; done)
      | (rw [if_neg (fun q => q h18)]; done)
      | rfl
  · refine T.aload_n (pc' := 9) (q_d dX5_arePlaces_0 4 rfl) rfl rfl rfl ?_
    refine T.iload_n (pc' := 10) (q_d dX5_arePlaces_0 5 rfl) rfl rfl rfl ?_
    refine T.callV (pc' := 13) (ci := 5) (q_d dX5_arePlaces_0 6 rfl) rfl uX5_isPlace wM_X5_141 (c_isPlace hP hs hw hv) rfl rfl (by decide) rfl rfl (by decide) (Nat.le_of_ble_eq_true rfl) rfl rfl (fun _ => rfl) ?_
    rintro _ _ ⟨rfl, rfl⟩
    dsimp only [Option.toList, List.cons_append, List.nil_append, List.append_nil]
    refine T.if_eqN (tgt := 25) (pc' := 16) (q_d dX5_arePlaces_0 7 rfl) rfl (by decide) (by split <;> decide) (fun h13 => ?_) (fun h13 => ?_)
    · refine T.iconst (pc' := 26) (v := nI 0) (q_d dX5_arePlaces_0 13 rfl) rfl (by decide) ?_
      refine T.zret (q_d dX5_arePlaces_0 14 rfl) rfl (by decide) rfl rfl ?_
      refine ⟨rfl, ?_⟩
      by_cases a1 : u < s 0 <;> by_cases a2 : v < s 0 <;> simp only [a1, a2, if_true, if_false, true_and, false_and] at * <;> first
        | exact absurd rfl h5
        | exact absurd rfl h13
        | exact absurd h5 (by decide)
        | exact absurd h13 (by decide)
        | (rw [if_pos h18]; done)
        | (rw [if_neg (fun q => q h18)]; done)
        | rfl
    · refine T.iload_n (pc' := 17) (q_d dX5_arePlaces_0 8 rfl) rfl rfl rfl ?_
      refine T.iload_n (pc' := 18) (q_d dX5_arePlaces_0 9 rfl) rfl rfl rfl ?_
      refine T.icmp_eqN (tgt := 25) (pc' := 21) (q_d dX5_arePlaces_0 10 rfl) rfl (by decide) (by omega) (by omega) (fun h18 => ?_) (fun h18 => ?_)
      · refine T.iconst (pc' := 26) (v := nI 0) (q_d dX5_arePlaces_0 13 rfl) rfl (by decide) ?_
        refine T.zret (q_d dX5_arePlaces_0 14 rfl) rfl (by decide) rfl rfl ?_
        refine ⟨rfl, ?_⟩
        by_cases a1 : u < s 0 <;> by_cases a2 : v < s 0 <;> simp only [a1, a2, if_true, if_false, true_and, false_and] at * <;> first
          | exact absurd rfl h5
          | exact absurd rfl h13
          | exact absurd h5 (by decide)
          | exact absurd h13 (by decide)
          | (rw [if_pos h18]; done)
          | (rw [if_neg (fun q => q h18)]; done)
          | rfl
      · refine T.iconst (pc' := 22) (v := nI 1) (q_d dX5_arePlaces_0 11 rfl) rfl (by decide) ?_
        refine T.goto (tgt := 26) (q_d dX5_arePlaces_0 12 rfl) (by decide) ?_
        refine T.zret (q_d dX5_arePlaces_0 14 rfl) rfl (by decide) rfl rfl ?_
        refine ⟨rfl, ?_⟩
        by_cases a1 : u < s 0 <;> by_cases a2 : v < s 0 <;> simp only [a1, a2, if_true, if_false, true_and, false_and] at * <;> first
          | exact absurd rfl h5
          | exact absurd rfl h13
          | exact absurd h5 (by decide)
          | exact absurd h13 (by decide)
          | (rw [if_pos h18]; done)
          | (rw [if_neg (fun q => q h18)]; done)
          | rfl
theorem c_isSetting {u v : Nat} (hu : u < 4294967296) (hv : v < 4294967296) : Ct l hdX kX mX5_isSetting [.int (nI u), .int (nI v)] M (RI M (if (u ≤ 2 ∧ (if u = 2 then 1 ≤ v ∧ v ≤ 2 else v ≤ 3)) then 1 else 0)) := by
  refine Ct.of [some (.int (nI u)), some (.int (nI v))] (by decide +kernel) (fun h => absurd h (by decide)) (Nat.le_of_ble_eq_true rfl) rfl ?_
  have e1 := inS_iff (lo := 0) (hi := 2) hu (by decide) (by decide)
  have e2 := inS_iff (lo := 1) (hi := 2) hv (by decide) (by decide)
  have e3 := inS_iff (lo := 0) (hi := 3) hv (by decide) (by decide)
  refine T.iload_n (pc' := 1) (q_d dX5_isSetting_0 0 rfl) rfl rfl rfl ?_
  refine T.iconst (pc' := 2) (v := nI 0) (q_d dX5_isSetting_0 1 rfl) rfl (by decide) ?_
  refine T.iconst (pc' := 3) (v := nI 2) (q_d dX5_isSetting_0 2 rfl) rfl (by decide) ?_
  refine T.callS (pc' := 6) (q_d dX5_isSetting_0 3 rfl) rfl uX5_isWithin wM_X5_60 (c_isWithin hu (by decide) (hi := 2) (by decide)) rfl rfl (by decide) (Nat.le_of_ble_eq_true rfl) rfl rfl (fun _ => rfl) ?_
  rintro _ _ ⟨rfl, rfl⟩
  dsimp only [Option.toList, List.cons_append, List.nil_append, List.append_nil]
  refine T.if_neN (tgt := 11) (pc' := 9) (q_d dX5_isSetting_0 4 rfl) rfl (by decide) (by split <;> decide) (fun h6 => ?_) (fun h6 => ?_)
  · refine T.iload_n (pc' := 12) (q_d dX5_isSetting_0 7 rfl) rfl rfl rfl ?_
    refine T.iconst (pc' := 13) (v := nI 2) (q_d dX5_isSetting_0 8 rfl) rfl (by decide) ?_
    refine T.icmp_neN (tgt := 25) (pc' := 16) (q_d dX5_isSetting_0 9 rfl) rfl (by decide) (by omega) (by omega) (fun h13 => ?_) (fun h13 => ?_)
    · refine T.iload_n (pc' := 26) (q_d dX5_isSetting_0 15 rfl) rfl rfl rfl ?_
      refine T.iconst (pc' := 27) (v := nI 0) (q_d dX5_isSetting_0 16 rfl) rfl (by decide) ?_
      refine T.iconst (pc' := 28) (v := nI 3) (q_d dX5_isSetting_0 17 rfl) rfl (by decide) ?_
      refine T.callS (pc' := 31) (q_d dX5_isSetting_0 18 rfl) rfl uX5_isWithin wM_X5_60 (c_isWithin hv (by decide) (hi := 3) (by decide)) rfl rfl (by decide) (Nat.le_of_ble_eq_true rfl) rfl rfl (fun _ => rfl) ?_
      rintro _ _ ⟨rfl, rfl⟩
      dsimp only [Option.toList, List.cons_append, List.nil_append, List.append_nil]
      refine T.zret (q_d dX5_isSetting_0 19 rfl) rfl (nar_if _) rfl rfl ?_
      refine ⟨rfl, ?_⟩
      have a1 : inS u 0 2 = true := by
        cases q : inS u 0 2 with
        | true => rfl
        | false => rw [q] at h6; exact absurd rfl h6
      have a2 := (e1.mp a1).2
      first
        | (have e9 : (u ≤ 2 ∧ (if u = 2 then 1 ≤ v ∧ v ≤ 2 else v ≤ 3)) ↔ (1 ≤ v ∧ v ≤ 2) := by rw [if_pos h13]; exact ⟨fun q => q.2, fun q => ⟨a2, q⟩⟩
           by_cases a3 : inS v 1 2 = true
           · rw [if_pos a3, if_pos (e9.mpr (e2.mp a3))]
           · rw [if_neg a3, if_neg (fun q => a3 (e2.mpr (e9.mp q)))])
        | (have e9 : (u ≤ 2 ∧ (if u = 2 then 1 ≤ v ∧ v ≤ 2 else v ≤ 3)) ↔ v ≤ 3 := by rw [if_neg h13]; exact ⟨fun q => q.2, fun q => ⟨a2, q⟩⟩
           by_cases a3 : inS v 0 3 = true
           · rw [if_pos a3, if_pos (e9.mpr (e3.mp a3).2)]
           · rw [if_neg a3, if_neg (fun q => a3 (e3.mpr ⟨Nat.zero_le _, e9.mp q⟩))])
    · refine T.iload_n (pc' := 17) (q_d dX5_isSetting_0 10 rfl) rfl rfl rfl ?_
      refine T.iconst (pc' := 18) (v := nI 1) (q_d dX5_isSetting_0 11 rfl) rfl (by decide) ?_
      refine T.iconst (pc' := 19) (v := nI 2) (q_d dX5_isSetting_0 12 rfl) rfl (by decide) ?_
      refine T.callS (pc' := 22) (q_d dX5_isSetting_0 13 rfl) rfl uX5_isWithin wM_X5_60 (c_isWithin hv (by decide) (hi := 2) (by decide)) rfl rfl (by decide) (Nat.le_of_ble_eq_true rfl) rfl rfl (fun _ => rfl) ?_
      rintro _ _ ⟨rfl, rfl⟩
      dsimp only [Option.toList, List.cons_append, List.nil_append, List.append_nil]
      refine T.goto (tgt := 31) (q_d dX5_isSetting_0 14 rfl) (by decide) ?_
      refine T.zret (q_d dX5_isSetting_0 19 rfl) rfl (nar_if _) rfl rfl ?_
      refine ⟨rfl, ?_⟩
      have a1 : inS u 0 2 = true := by
        cases q : inS u 0 2 with
        | true => rfl
        | false => rw [q] at h6; exact absurd rfl h6
      have a2 := (e1.mp a1).2
      first
        | (have e9 : (u ≤ 2 ∧ (if u = 2 then 1 ≤ v ∧ v ≤ 2 else v ≤ 3)) ↔ (1 ≤ v ∧ v ≤ 2) := by rw [if_pos h13]; exact ⟨fun q => q.2, fun q => ⟨a2, q⟩⟩
           by_cases a3 : inS v 1 2 = true
           · rw [if_pos a3, if_pos (e9.mpr (e2.mp a3))]
           · rw [if_neg a3, if_neg (fun q => a3 (e2.mpr (e9.mp q)))])
        | (have e9 : (u ≤ 2 ∧ (if u = 2 then 1 ≤ v ∧ v ≤ 2 else v ≤ 3)) ↔ v ≤ 3 := by rw [if_neg h13]; exact ⟨fun q => q.2, fun q => ⟨a2, q⟩⟩
           by_cases a3 : inS v 0 3 = true
           · rw [if_pos a3, if_pos (e9.mpr (e3.mp a3).2)]
           · rw [if_neg a3, if_neg (fun q => a3 (e3.mpr ⟨Nat.zero_le _, e9.mp q⟩))])
  · refine T.iconst (pc' := 10) (v := nI 0) (q_d dX5_isSetting_0 5 rfl) rfl (by decide) ?_
    refine T.zret (q_d dX5_isSetting_0 6 rfl) rfl (by decide) rfl rfl ?_
    refine ⟨rfl, ?_⟩
    by_cases a1 : inS u 0 2 = true
    · rw [if_pos a1] at h6; exact absurd h6 (by decide)
    · rw [if_neg (fun q => a1 (e1.mpr ⟨Nat.zero_le _, q.1⟩))]
theorem c_forgetTables : Ct l hdX kX mX5_forgetTables [.ref 0] M (fun v M' => v = none ∧ M' = qI (qI (qI M 0 8 0) 0 9 0) 0 10 0) := by
  refine Ct.of [some (.ref 0)] (by decide +kernel) (fun h => absurd h (by decide)) (Nat.le_of_ble_eq_true rfl) rfl ?_
  refine T.aload_n (pc' := 1) (q_d dX5_forgetTables_0 0 rfl) rfl rfl rfl ?_
  refine T.iconst (pc' := 2) (v := nI 0) (q_d dX5_forgetTables_0 1 rfl) rfl (by decide) ?_
  refine T.putI (pc' := 5) (ci := 5) (k0 := 8) (q_d dX5_forgetTables_0 2 rfl) rfl rfl (by decide) rfl inX5 tyX5 tyX5_ok nmX5 (by decide) rfl wF_X5_245 rfl (by decide) (by decide) ?_
  refine T.aload_n (pc' := 6) (q_d dX5_forgetTables_0 3 rfl) rfl rfl rfl ?_
  refine T.iconst (pc' := 7) (v := nI 0) (q_d dX5_forgetTables_0 4 rfl) rfl (by decide) ?_
  refine T.putI (pc' := 10) (ci := 5) (k0 := 9) (q_d dX5_forgetTables_0 5 rfl) rfl rfl (by decide) rfl inX5 tyX5 tyX5_ok nmX5 (by decide) rfl wF_X5_249 rfl (by decide) (by decide) ?_
  refine T.aload_n (pc' := 11) (q_d dX5_forgetTables_0 6 rfl) rfl rfl rfl ?_
  refine T.iconst (pc' := 12) (v := nI 0) (q_d dX5_forgetTables_0 7 rfl) rfl (by decide) ?_
  refine T.putI (pc' := 15) (ci := 5) (k0 := 10) (q_d dX5_forgetTables_0 8 rfl) rfl rfl (by decide) rfl inX5 tyX5 tyX5_ok nmX5 (by decide) rfl wF_X5_252 rfl (by decide) (by decide) ?_
  refine T.vret (q_d dX5_forgetTables_0 9 rfl) rfl rfl rfl ?_
  exact ⟨rfl, rfl⟩
theorem c_dropOldest (hP : M.2.2 = pX pa sw) (hpa : PaOk pa) : Ct l hdX kX mX5_dropOldest [.ref 0] M (fun v M' => v = none ∧ M'.1 = (qI M 0 3 3).1 ∧ M'.2.1 = M.2.1 ∧ M'.2.2 = pX (fun i => pa ((i + 1) % 4)) sw) := by
  refine Ct.of [some (.ref 0), none, none] (by decide +kernel) (fun h => absurd h (by decide)) (Nat.le_of_ble_eq_true rfl) rfl ?_
  have hp17 : ∀ j, M.2.2 17 j = if j < 4 then some (pa j) else none := fun j => by rw [hP]; rfl
  have fin : ∀ (M' : qM), (∀ a, a ≠ 17 → M'.2.2 a = M.2.2 a) → (∀ j, M'.2.2 17 j = if j < 4 then some (pa ((j + 1) % 4)) else none) → M'.2.2 = pX (fun i => pa ((i + 1) % 4)) sw := by
    intro M' ha hj
    funext a j
    by_cases e : a = 17
    · subst e; rw [hj]; rfl
    · rw [ha a e, hP]
      unfold pX
      split <;> first | rfl | exact absurd rfl e
  have loop : ∀ d i (M' : qM), i + d = 4 → 1 ≤ i → M'.1 = M.1 → M'.2.1 = M.2.1 → (∀ a, a ≠ 17 → M'.2.2 a = M.2.2 a) → (∀ j, M'.2.2 17 j = if j < 4 then some (if j + 1 < i then pa (j + 1) else pa j) else none) →
      T l hdX kX mX5_dropOldest (fun v M' => v = none ∧ M'.1 = (qI M 0 3 3).1 ∧ M'.2.1 = M.2.1 ∧ M'.2.2 = pX (fun i => pa ((i + 1) % 4)) sw) 0 0 9 [some (.ref 0), some (.ref (pa 0)), some (.int (nI i))] [] M' := by
    intro d
    induction d with
    | zero =>
      intro i M' hi hi1 h1 h2 ha hj
      have e : i = 4 := by omega
      subst e
      have hp2 : M'.2.2 0 2 = some 17 := by rw [ha 0 (by decide), hP]; rfl
      refine T.iload_n (pc' := 10) (q_d dX5_dropOldest_0 7 rfl) rfl rfl rfl ?_
      refine T.iconst (pc' := 11) (v := nI 4) (q_d dX5_dropOldest_0 8 rfl) rfl (by decide) ?_
      refine T.icmp_geN (tgt := 34) (pc' := 14) (q_d dX5_dropOldest_0 9 rfl) rfl (by decide) (by omega) (by omega) (fun h11 => ?_) (fun h11 => ?_)
      · refine T.aload_n (pc' := 35) (q_d dX5_dropOldest_0 22 rfl) rfl rfl rfl ?_
        refine T.getR (pc' := 38) (ci := 5) (k0 := 2) (q_d dX5_dropOldest_0 23 rfl) rfl rfl (by decide) rfl inX5 (by decide) rfl wF_X5_19 hp2 ?_
        refine T.iconst (pc' := 39) (v := nI 3) (q_d dX5_dropOldest_0 24 rfl) rfl (by decide) ?_
        refine T.aload_n (pc' := 40) (q_d dX5_dropOldest_0 25 rfl) rfl rfl rfl ?_
        refine T.qast (pc' := 41) (q_d dX5_dropOldest_0 26 rfl) rfl rfl (by decide) rfl (by omega) (by decide) (show pa 0 < 71 by have := SO.lt (hpa.so (show 0 < 4 by decide)); omega) (SO.o (hpa.so (show 0 < 4 by decide))) rfl rfl ?_
        refine T.aload_n (pc' := 42) (q_d dX5_dropOldest_0 27 rfl) rfl rfl rfl ?_
        refine T.iconst (pc' := 43) (v := nI 3) (q_d dX5_dropOldest_0 28 rfl) rfl (by decide) ?_
        refine T.putI (pc' := 46) (ci := 5) (k0 := 3) (q_d dX5_dropOldest_0 29 rfl) rfl rfl (by decide) rfl inX5 tyX5 tyX5_ok nmX5 (by decide) rfl wF_X5_219 rfl rfl rfl ?_
        refine T.vret (q_d dX5_dropOldest_0 30 rfl) rfl rfl rfl ?_
        refine ⟨rfl, by simp only [qI, qR, h1], h2, fin _ (fun a h9 => ?_) (fun j => ?_)⟩
        · funext j; simp only [qI, qR]; rw [if_neg (fun q => h9 q.1), ha a h9]
        · simp only [qI, qR, true_and]
          by_cases e3 : j = 3
          · subst e3; simp
          · rw [if_neg e3, hj]
            by_cases e4 : j < 4
            · rw [if_pos e4, if_pos e4, if_pos (by omega), show (j + 1) % 4 = j + 1 by omega]
            · rw [if_neg e4, if_neg e4]
      · exact absurd h11 (by omega)
    | succ d ih =>
      intro i M' hi hi1 h1 h2 ha hj
      have hp2 : M'.2.2 0 2 = some 17 := by rw [ha 0 (by decide), hP]; rfl
      have hi4 : i < 4 := by omega
      have hx : M'.2.2 17 i = some (pa i) := by rw [hj, if_pos hi4, if_neg (by omega)]
      refine T.iload_n (pc' := 10) (q_d dX5_dropOldest_0 7 rfl) rfl rfl rfl ?_
      refine T.iconst (pc' := 11) (v := nI 4) (q_d dX5_dropOldest_0 8 rfl) rfl (by decide) ?_
      refine T.icmp_geN (tgt := 34) (pc' := 14) (q_d dX5_dropOldest_0 9 rfl) rfl (by decide) (by omega) (by omega) (fun h11 => ?_) (fun h11 => ?_)
      · exact absurd h11 (by omega)
      · refine T.aload_n (pc' := 15) (q_d dX5_dropOldest_0 10 rfl) rfl rfl rfl ?_
        refine T.getR (pc' := 18) (ci := 5) (k0 := 2) (q_d dX5_dropOldest_0 11 rfl) rfl rfl (by decide) rfl inX5 (by decide) rfl wF_X5_19 hp2 ?_
        refine T.iload_n (pc' := 19) (q_d dX5_dropOldest_0 12 rfl) rfl rfl rfl ?_
        refine T.iconst (pc' := 20) (v := nI 1) (q_d dX5_dropOldest_0 13 rfl) rfl (by decide) ?_
        refine T.isub (pc' := 21) (q_d dX5_dropOldest_0 14 rfl) rfl (nN_sub (by omega)) ?_
        refine T.aload_n (pc' := 22) (q_d dX5_dropOldest_0 15 rfl) rfl rfl rfl ?_
        refine T.getR (pc' := 25) (ci := 5) (k0 := 2) (q_d dX5_dropOldest_0 16 rfl) rfl rfl (by decide) rfl inX5 (by decide) rfl wF_X5_19 hp2 ?_
        refine T.iload_n (pc' := 26) (q_d dX5_dropOldest_0 17 rfl) rfl rfl rfl ?_
        refine T.qald (pc' := 27) (q_d dX5_dropOldest_0 18 rfl) rfl (Or.inl rfl) rfl (by decide) rfl (by omega) (by decide) hx ?_
        refine T.qast (pc' := 28) (q_d dX5_dropOldest_0 19 rfl) rfl rfl (by decide) rfl (by omega) (by decide) (show pa i < 71 by have := SO.lt (hpa.so hi4); omega) (SO.o (hpa.so hi4)) rfl rfl ?_
        refine T.iinc (pc' := 31) (q_d dX5_dropOldest_0 20 rfl) rfl rfl (nN_p _ 1) (by decide) rfl rfl ?_
        refine T.goto (tgt := 9) (q_d dX5_dropOldest_0 21 rfl) (by decide) ?_
        refine ih (i + 1) _ (by omega) (by omega) h1 h2 (fun a h9 => ?_) (fun j => ?_)
        · funext j; simp only [qR]; rw [if_neg (fun q => h9 q.1), ha a h9]
        · simp only [qR, true_and]
          by_cases e3 : j = i - 1
          · subst e3
            rw [if_pos rfl, if_pos (by omega), if_pos (by omega), show i - 1 + 1 = i by omega]
          · rw [if_neg e3, hj]
            by_cases e4 : j < 4
            · rw [if_pos e4, if_pos e4]
              by_cases e5 : j + 1 < i
              · rw [if_pos e5, if_pos (by omega)]
              · rw [if_neg e5, if_neg (by omega)]
            · rw [if_neg e4, if_neg e4]
  refine T.aload_n (pc' := 1) (q_d dX5_dropOldest_0 0 rfl) rfl rfl rfl ?_
  refine T.getR (pc' := 4) (ci := 5) (k0 := 2) (q_d dX5_dropOldest_0 1 rfl) rfl rfl (by decide) rfl inX5 (by decide) rfl wF_X5_19 (rP hP rfl) ?_
  refine T.iconst (pc' := 5) (v := nI 0) (q_d dX5_dropOldest_0 2 rfl) rfl (by decide) ?_
  refine T.qald (pc' := 6) (q_d dX5_dropOldest_0 3 rfl) rfl (Or.inl rfl) rfl (by decide) rfl (by omega) (by decide) (rP hP rfl) ?_
  refine T.astore_n (pc' := 7) (q_d dX5_dropOldest_0 4 rfl) rfl rfl (by decide) rfl rfl ?_
  refine T.iconst (pc' := 8) (v := nI 1) (q_d dX5_dropOldest_0 5 rfl) rfl (by decide) ?_
  refine T.istore_n (pc' := 9) (q_d dX5_dropOldest_0 6 rfl) rfl rfl (by decide) rfl rfl ?_
  exact loop 3 1 M (by omega) (by decide) rfl rfl (fun _ _ => rfl) (fun j => by rw [hp17]; by_cases e : j < 4; rw [if_pos e, if_pos e, if_neg (by omega)]; rw [if_neg e, if_neg e])
def pushK (k : Nat) : Nat := if k = 4 then 4 else k + 1
def pushW (k : Nat) (was : Nat → Nat → Nat) (s : Nat → Nat) : Nat → Nat → Nat := if k = 4 then (fun i => if i < 3 then was (i + 1) else s) else (fun i => if i = k then s else was i)
theorem PaOk.rot {pa : Nat → Nat} (h : PaOk pa) : PaOk (fun i => pa ((i + 1) % 4)) :=
  ⟨fun i _ => h.1 _ (Nat.mod_lt _ (by decide)), fun i j hi hj e => by have := h.2 _ _ (Nat.mod_lt _ (by decide)) (Nat.mod_lt _ (by decide)) e; omega⟩
theorem RX.rec {M M' : qM} {pa' : Nat → Nat} {k' : Nat} {was' : Nat → Nat → Nat} (q : RX M b s k was n t pa sw) (hP : M'.2.2 = pX pa' sw) (hpa : PaOk pa') (ha : ∀ a, a ≠ 0 → a < 39 → M'.1 a = M.1 a) (h0 : ∀ j, j ≠ 3 → M'.1 0 j = M.1 0 j) (hk : M'.1 0 3 = k') (hk4 : k' ≤ 4) (hh : ∀ i, i < k' → RS M' (pa' i) (was' i) ∧ WF b (was' i)) : RX M' b s k' was' n t pa' sw := by
  obtain ⟨q1, q2, q3, q4, q5, q6, q7, q8, q9, q10⟩ := q
  exact ⟨hP, hpa, q3.mono (fun a a1 a2 => ha a (by omega) (by omega)), q4, hk, hk4, hh, ⟨by rw [ha 18 (by decide) (by decide)]; exact q8.1, fun i hi => by rw [ha 19 (by decide) (by decide)]; exact q8.2 i hi⟩, q9, q10.mono ⟨h0 8 (by decide), h0 9 (by decide), h0 10 (by decide)⟩ (fun a a1 a2 => ha a (by omega) (by omega))⟩
theorem c_record (hX : RX M b s k was n t pa sw) : Ct l hdX kX mX5_record [.ref 0] M (fun v M' => v = none ∧ (∃ pa', RX M' b s (pushK k) (pushW k was s) n t pa' sw) ∧ M'.2.1 = M.2.1 ∧ (∀ a, a ≠ 0 → a < 39 → M'.1 a = M.1 a) ∧ ∀ j, j ≠ 3 → M'.1 0 j = M.1 0 j) := by
  refine Ct.of [some (.ref 0)] (by decide +kernel) (fun h => absurd h (by decide)) (Nat.le_of_ble_eq_true rfl) rfl ?_
  have hX0 := hX
  obtain ⟨q1, q2, q3, q4, q5, q6, q7, q8, q9, q10⟩ := hX
  by_cases h4 : k = 4
  · have hge0 := q2.ge (show 0 < 4 by decide)
    refine T.aload_n (pc' := 1) (q_d dX5_record_0 0 rfl) rfl rfl rfl ?_
    refine T.getI (pc' := 4) (ci := 5) (k0 := 3) (q_d dX5_record_0 1 rfl) rfl rfl (by decide) rfl inX5 (by decide) rfl wF_X5_219 q5 ?_
    refine T.iconst (pc' := 5) (v := nI 4) (q_d dX5_record_0 2 rfl) rfl (by decide) ?_
    refine T.icmp_ltN (tgt := 12) (pc' := 8) (q_d dX5_record_0 3 rfl) rfl (by decide) (by omega) (by omega) (fun h5 => ?_) (fun h5 => ?_)
    · exact absurd h5 (by omega)
    · refine T.aload_n (pc' := 9) (q_d dX5_record_0 4 rfl) rfl rfl rfl ?_
      refine T.callV (pc' := 12) (ci := 5) (q_d dX5_record_0 5 rfl) rfl uX5_dropOldest wM_X5_242 (c_dropOldest q1 q2) rfl rfl (by decide) rfl rfl (by decide) (Nat.le_of_ble_eq_true rfl) rfl rfl (fun _ => rfl) ?_
      rintro _ M2 ⟨rfl, f1, f2, f3⟩
      have q3' : RS M2 1 s := q3.mono (fun a a1 a2 => by rw [f1]; funext j; exact qI_ne (Or.inl (by omega)))
      dsimp only [Option.toList, List.cons_append, List.nil_append, List.append_nil]
      refine T.aload_n (pc' := 13) (q_d dX5_record_0 6 rfl) rfl rfl rfl ?_
      refine T.getR (pc' := 16) (ci := 5) (k0 := 2) (q_d dX5_record_0 7 rfl) rfl rfl (by decide) rfl inX5 (by decide) rfl wF_X5_19 (rP f3 rfl) ?_
      refine T.aload_n (pc' := 17) (q_d dX5_record_0 8 rfl) rfl rfl rfl ?_
      refine T.getI (pc' := 20) (ci := 5) (k0 := 3) (q_d dX5_record_0 9 rfl) rfl rfl (by decide) rfl inX5 (by decide) rfl wF_X5_219 (show M2.1 0 3 = 3 by rw [f1]; exact qI_eq) ?_
      refine T.qald (pc' := 21) (q_d dX5_record_0 10 rfl) rfl (Or.inl rfl) rfl (by decide) rfl (by omega) (by decide) (rP f3 rfl) ?_
      refine T.aload_n (pc' := 22) (q_d dX5_record_0 11 rfl) rfl rfl rfl ?_
      refine T.getR (pc' := 25) (ci := 5) (k0 := 0) (q_d dX5_record_0 12 rfl) rfl rfl (by decide) rfl inX5 (by decide) rfl wF_X5_10 (rP f3 rfl) ?_
      refine T.callV (pc' := 28) (ci := 3) (q_d dX5_record_0 13 rfl) rfl uX3_takeFrom wM_X5_225 (c_takeFrom (q2.so (show 0 < 4 by decide)) (Or.inl rfl) (show pa 0 + 8 ≤ 1 ∨ 1 + 8 ≤ pa 0 from Or.inr (by omega)) f3 q3') rfl rfl (Nat.lt_of_le_of_lt (Nat.le_add_right _ _) (SO.lt (q2.so (show 0 < 4 by decide)))) (SO.o (q2.so (show 0 < 4 by decide))) rfl (by decide) (Nat.le_of_ble_eq_true rfl) rfl rfl (fun _ => rfl) ?_
      rintro _ M3 ⟨rfl, g1, g2⟩
      dsimp only [Option.toList, List.cons_append, List.nil_append, List.append_nil]
      refine T.aload_n (pc' := 29) (q_d dX5_record_0 14 rfl) rfl rfl rfl ?_
      refine T.dup (pc' := 30) (q_d dX5_record_0 15 rfl) rfl rfl ?_
      refine T.getI (pc' := 33) (ci := 5) (k0 := 3) (q_d dX5_record_0 16 rfl) rfl rfl (by decide) rfl inX5 (by decide) rfl wF_X5_219 (show M3.1 0 3 = 3 by rw [g2.2 0 (Or.inl (by omega)), f1]; exact qI_eq) ?_
      refine T.iconst (pc' := 34) (v := nI 1) (q_d dX5_record_0 17 rfl) rfl (by decide) ?_
      refine T.iadd (pc' := 35) (q_d dX5_record_0 18 rfl) rfl (nI_add _ _) ?_
      refine T.putI (pc' := 38) (ci := 5) (k0 := 3) (q_d dX5_record_0 19 rfl) rfl rfl (by decide) rfl inX5 tyX5 tyX5_ok nmX5 (by decide) rfl wF_X5_219 rfl rfl rfl ?_
      refine T.vret (q_d dX5_record_0 20 rfl) rfl rfl rfl ?_
      have hA : ∀ a, a ≠ 0 → (a < pa 0 ∨ pa 0 + 8 ≤ a) → (qI M3 0 3 (3 + 1)).1 a = M.1 a := fun a a1 a2 => by
        funext j
        rw [qI_ne (Or.inl a1), g2.2 a a2, f1, qI_ne (Or.inl a1)]
      have h0 : ∀ j, j ≠ 3 → (qI M3 0 3 (3 + 1)).1 0 j = M.1 0 j := fun j hj => by
        rw [qI_ne (Or.inr hj), g2.2 0 (Or.inl (by omega)), f1, qI_ne (Or.inr hj)]
      have hP3 : (qI M3 0 3 (3 + 1)).2.2 = pX (fun i => pa ((i + 1) % 4)) sw := by
        show M3.2.2 = _
        rw [g2.1]; exact f3
      refine ⟨rfl, ⟨_, hX0.rec hP3 q2.rot (fun a a1 a2 => hA a a1 (by omega)) h0 (k' := pushK k) (was' := pushW k was s) ?_ ?_ (fun i hi => ?_)⟩, ?_, fun a a1 a2 => hA a a1 (by omega), h0⟩
      · rw [qI_eq]; unfold pushK; rw [if_pos h4]
      · unfold pushK; rw [if_pos h4]; exact Nat.le_refl _
      · unfold pushK at hi
        rw [if_pos h4] at hi
        unfold pushW
        rw [if_pos h4]
        by_cases e : i < 3
        · show RS _ (pa ((i + 1) % 4)) (if i < 3 then was (i + 1) else s) ∧ _
          rw [if_pos e, show (i + 1) % 4 = i + 1 by omega]
          have h9 := q7 (i + 1) (by omega)
          have h8 := q2.ap (show i + 1 < 4 by omega) (show 0 < 4 by decide) (by omega)
          exact ⟨h9.1.mono (fun a a1 a2 => by have := q2.ge (show i + 1 < 4 by omega); exact hA a (by omega) (by omega)), h9.2⟩
        · show RS _ (pa ((i + 1) % 4)) (if i < 3 then was (i + 1) else s) ∧ _
          rw [if_neg e, show (i + 1) % 4 = 0 by omega]
          exact ⟨g1.mono (fun a a1 a2 => by funext j; exact qI_ne (Or.inl (by omega))), q4⟩
      · show M3.2.1 = M.2.1
        rw [g2.1]; exact f2
  · have hk4 : k < 4 := by omega
    have hgek := q2.ge hk4
    refine T.aload_n (pc' := 1) (q_d dX5_record_0 0 rfl) rfl rfl rfl ?_
    refine T.getI (pc' := 4) (ci := 5) (k0 := 3) (q_d dX5_record_0 1 rfl) rfl rfl (by decide) rfl inX5 (by decide) rfl wF_X5_219 q5 ?_
    refine T.iconst (pc' := 5) (v := nI 4) (q_d dX5_record_0 2 rfl) rfl (by decide) ?_
    refine T.icmp_ltN (tgt := 12) (pc' := 8) (q_d dX5_record_0 3 rfl) rfl (by decide) (by omega) (by omega) (fun h5 => ?_) (fun h5 => ?_)
    · refine T.aload_n (pc' := 13) (q_d dX5_record_0 6 rfl) rfl rfl rfl ?_
      refine T.getR (pc' := 16) (ci := 5) (k0 := 2) (q_d dX5_record_0 7 rfl) rfl rfl (by decide) rfl inX5 (by decide) rfl wF_X5_19 (rP q1 rfl) ?_
      refine T.aload_n (pc' := 17) (q_d dX5_record_0 8 rfl) rfl rfl rfl ?_
      refine T.getI (pc' := 20) (ci := 5) (k0 := 3) (q_d dX5_record_0 9 rfl) rfl rfl (by decide) rfl inX5 (by decide) rfl wF_X5_219 q5 ?_
      refine T.qald (pc' := 21) (q_d dX5_record_0 10 rfl) rfl (Or.inl rfl) rfl (by decide) rfl (by omega) (by decide) (rP q1 (if_pos hk4)) ?_
      refine T.aload_n (pc' := 22) (q_d dX5_record_0 11 rfl) rfl rfl rfl ?_
      refine T.getR (pc' := 25) (ci := 5) (k0 := 0) (q_d dX5_record_0 12 rfl) rfl rfl (by decide) rfl inX5 (by decide) rfl wF_X5_10 (rP q1 rfl) ?_
      refine T.callV (pc' := 28) (ci := 3) (q_d dX5_record_0 13 rfl) rfl uX3_takeFrom wM_X5_225 (c_takeFrom (q2.so hk4) (Or.inl rfl) (show pa k + 8 ≤ 1 ∨ 1 + 8 ≤ pa k from Or.inr (by omega)) q1 q3) rfl rfl (Nat.lt_of_le_of_lt (Nat.le_add_right _ _) (SO.lt (q2.so hk4))) (SO.o (q2.so hk4)) rfl (by decide) (Nat.le_of_ble_eq_true rfl) rfl rfl (fun _ => rfl) ?_
      rintro _ M3 ⟨rfl, g1, g2⟩
      dsimp only [Option.toList, List.cons_append, List.nil_append, List.append_nil]
      refine T.aload_n (pc' := 29) (q_d dX5_record_0 14 rfl) rfl rfl rfl ?_
      refine T.dup (pc' := 30) (q_d dX5_record_0 15 rfl) rfl rfl ?_
      refine T.getI (pc' := 33) (ci := 5) (k0 := 3) (q_d dX5_record_0 16 rfl) rfl rfl (by decide) rfl inX5 (by decide) rfl wF_X5_219 (show M3.1 0 3 = k by rw [g2.2 0 (Or.inl (by omega))]; exact q5) ?_
      refine T.iconst (pc' := 34) (v := nI 1) (q_d dX5_record_0 17 rfl) rfl (by decide) ?_
      refine T.iadd (pc' := 35) (q_d dX5_record_0 18 rfl) rfl (nI_add _ _) ?_
      refine T.putI (pc' := 38) (ci := 5) (k0 := 3) (q_d dX5_record_0 19 rfl) rfl rfl (by decide) rfl inX5 tyX5 tyX5_ok nmX5 (by decide) rfl wF_X5_219 rfl rfl rfl ?_
      refine T.vret (q_d dX5_record_0 20 rfl) rfl rfl rfl ?_
      have hA : ∀ a, a ≠ 0 → (a < pa k ∨ pa k + 8 ≤ a) → (qI M3 0 3 (k + 1)).1 a = M.1 a := fun a a1 a2 => by
        funext j
        rw [qI_ne (Or.inl a1), g2.2 a a2]
      have h0 : ∀ j, j ≠ 3 → (qI M3 0 3 (k + 1)).1 0 j = M.1 0 j := fun j hj => by
        rw [qI_ne (Or.inr hj), g2.2 0 (Or.inl (by omega))]
      have hP3 : (qI M3 0 3 (k + 1)).2.2 = pX pa sw := by
        show M3.2.2 = _
        rw [g2.1]; exact q1
      refine ⟨rfl, ⟨_, hX0.rec hP3 q2 (fun a a1 a2 => hA a a1 (by omega)) h0 (k' := pushK k) (was' := pushW k was s) ?_ ?_ (fun i hi => ?_)⟩, ?_, fun a a1 a2 => hA a a1 (by omega), h0⟩
      · rw [qI_eq]; unfold pushK; rw [if_neg h4]
      · unfold pushK; rw [if_neg h4]; omega
      · unfold pushK at hi
        rw [if_neg h4] at hi
        unfold pushW
        rw [if_neg h4]
        by_cases e : i = k
        · subst e
          show RS _ (pa i) (if i = i then s else was i) ∧ _
          rw [if_pos rfl]
          exact ⟨g1.mono (fun a a1 a2 => by funext j; exact qI_ne (Or.inl (by omega))), q4⟩
        · show RS _ (pa i) (if i = k then s else was i) ∧ _
          rw [if_neg e]
          have h9 := q7 i (by omega)
          have h8 := q2.ap (show i < 4 by omega) hk4 e
          exact ⟨h9.1.mono (fun a a1 a2 => by have := q2.ge (show i < 4 by omega); exact hA a (by omega) (by omega)), h9.2⟩
      · show M3.2.1 = M.2.1
        rw [g2.1]
    · exact absurd h5 (by omega)
theorem c_standingMoves (hX : RX M b s k was n t pa sw) : Ct l hdX kX mX5_standingMoves [.ref 0] M (fun v M' => v = some (.ref 20) ∧ M'.1 0 8 = 1 ∧ M'.1 0 9 = M.1 0 9 ∧ M'.1 0 10 = M.1 0 10 ∧ (∀ a, 28 < a → M'.1 a = M.1 a) ∧ FrT M M' ∧ Tb M' s) := by
  refine Ct.of [some (.ref 0)] (by decide +kernel) (fun h => absurd h (by decide)) (Nat.le_of_ble_eq_true rfl) rfl ?_
  obtain ⟨q1, q2, q3, q4, q5, q6, q7, q8, q9, q10⟩ := hX
  have z1 := q10.1
  refine T.aload_n (pc' := 1) (q_d dX5_standingMoves_0 0 rfl) rfl rfl rfl ?_
  refine T.getI (pc' := 4) (ci := 5) (k0 := 8) (q_d dX5_standingMoves_0 1 rfl) rfl rfl (by decide) rfl inX5 (by decide) rfl wF_X5_245 rfl ?_
  refine T.if_neN (tgt := 23) (pc' := 7) (q_d dX5_standingMoves_0 2 rfl) rfl (by decide) (by omega) (fun h4 => ?_) (fun h4 => ?_)
  · refine T.aload_n (pc' := 24) (q_d dX5_standingMoves_0 11 rfl) rfl rfl rfl ?_
    refine T.getR (pc' := 27) (ci := 5) (k0 := 5) (q_d dX5_standingMoves_0 12 rfl) rfl rfl (by decide) rfl inX5 (by decide) rfl wF_X5_33 (by first | exact rP q1' rfl | exact rP q1 rfl) ?_
    refine T.aret (q_d dX5_standingMoves_0 13 rfl) rfl rfl rfl ?_
    first
      | (have h8 : M.1 0 8 = 1 := by omega
         exact ⟨rfl, h8, rfl, rfl, fun _ _ => rfl, FrT.refl, q10⟩)
      | (refine ⟨rfl, qI_eq, ?_, ?_, fun a a1 => ?_, ⟨f1, fun a a1 a2 => ?_, fun j hj => ?_⟩, ?_⟩
         · rw [qI_ne (Or.inr (by decide)), f2 0 (by omega)]
         · rw [qI_ne (Or.inr (by decide)), f2 0 (by omega)]
         · funext j; rw [qI_ne (Or.inl (by omega)), f2 a (by omega)]
         · funext j; rw [qI_ne (Or.inl a1), f2 a (by omega)]
         · rw [qI_ne (Or.inr (by omega)), f2 0 (by omega)]
         · obtain ⟨t1, t2, t3, t4, t5, t6, t7, t8, t9, t10, -⟩ := q10
           have e9 : (qI M2 0 8 1).1 0 9 = M.1 0 9 := by rw [qI_ne (Or.inr (by decide)), f2 0 (by omega)]
           have e10 : (qI M2 0 8 1).1 0 10 = M.1 0 10 := by rw [qI_ne (Or.inr (by decide)), f2 0 (by omega)]
           have hr : ∀ a, 28 < a → (qI M2 0 8 1).1 a = M.1 a := fun a a1 => by funext j; rw [qI_ne (Or.inl (by omega)), f2 a (by omega)]
           refine ⟨by rw [qI_eq]; decide, by rw [e9]; exact t2, by rw [e10]; exact t3, fun _ => f3.mono (fun a a1 a2 => by funext j; exact qI_ne (Or.inl (by omega))), fun e => ?_, fun e => ?_, by rw [hr 29 (by decide)]; exact t7, by rw [hr 29 (by decide)]; exact t8, by rw [hr 32 (by decide)]; exact t9, by rw [hr 32 (by decide)]; exact t10, fun g hg => by rw [qI_ne (Or.inl (by omega))]; exact f3.zero g hg⟩
           · rw [e9] at e; exact absurd (t5 e).1 (by omega)
           · rw [e10] at e; exact absurd (t6 e).1 (by omega))
  · refine T.aload_n (pc' := 8) (q_d dX5_standingMoves_0 3 rfl) rfl rfl rfl ?_
    refine T.getR (pc' := 11) (ci := 5) (k0 := 5) (q_d dX5_standingMoves_0 4 rfl) rfl rfl (by decide) rfl inX5 (by decide) rfl wF_X5_33 (rP q1 rfl) ?_
    refine T.aload_n (pc' := 12) (q_d dX5_standingMoves_0 5 rfl) rfl rfl rfl ?_
    refine T.getR (pc' := 15) (ci := 5) (k0 := 0) (q_d dX5_standingMoves_0 6 rfl) rfl rfl (by decide) rfl inX5 (by decide) rfl wF_X5_10 (rP q1 rfl) ?_
    refine T.callV (pc' := 18) (ci := 1) (q_d dX5_standingMoves_0 7 rfl) rfl uX1_build wM_X5_255 (c_build q1 q3 q4 q10.2.2.2.2.2.2.2.2.2.2) rfl rfl (by decide) rfl rfl (by decide) (Nat.le_of_ble_eq_true rfl) rfl rfl (fun _ => rfl) ?_
    rintro _ M2 ⟨rfl, f1, f2, f3⟩
    have q1' : M2.2.2 = pX pa sw := by rw [f1]; exact q1
    dsimp only [Option.toList, List.cons_append, List.nil_append, List.append_nil]
    refine T.aload_n (pc' := 19) (q_d dX5_standingMoves_0 8 rfl) rfl rfl rfl ?_
    refine T.iconst (pc' := 20) (v := nI 1) (q_d dX5_standingMoves_0 9 rfl) rfl (by decide) ?_
    refine T.putI (pc' := 23) (ci := 5) (k0 := 8) (q_d dX5_standingMoves_0 10 rfl) rfl rfl (by decide) rfl inX5 tyX5 tyX5_ok nmX5 (by decide) rfl wF_X5_245 rfl (by decide) (by decide) ?_
    refine T.aload_n (pc' := 24) (q_d dX5_standingMoves_0 11 rfl) rfl rfl rfl ?_
    refine T.getR (pc' := 27) (ci := 5) (k0 := 5) (q_d dX5_standingMoves_0 12 rfl) rfl rfl (by decide) rfl inX5 (by decide) rfl wF_X5_33 (by first | exact rP q1' rfl | exact rP q1 rfl) ?_
    refine T.aret (q_d dX5_standingMoves_0 13 rfl) rfl rfl rfl ?_
    first
      | (have h8 : M.1 0 8 = 1 := by omega
         exact ⟨rfl, h8, rfl, rfl, fun _ _ => rfl, FrT.refl, q10⟩)
      | (refine ⟨rfl, qI_eq, ?_, ?_, fun a a1 => ?_, ⟨f1, fun a a1 a2 => ?_, fun j hj => ?_⟩, ?_⟩
         · rw [qI_ne (Or.inr (by decide)), f2 0 (by omega)]
         · rw [qI_ne (Or.inr (by decide)), f2 0 (by omega)]
         · funext j; rw [qI_ne (Or.inl (by omega)), f2 a (by omega)]
         · funext j; rw [qI_ne (Or.inl a1), f2 a (by omega)]
         · rw [qI_ne (Or.inr (by omega)), f2 0 (by omega)]
         · obtain ⟨t1, t2, t3, t4, t5, t6, t7, t8, t9, t10, -⟩ := q10
           have e9 : (qI M2 0 8 1).1 0 9 = M.1 0 9 := by rw [qI_ne (Or.inr (by decide)), f2 0 (by omega)]
           have e10 : (qI M2 0 8 1).1 0 10 = M.1 0 10 := by rw [qI_ne (Or.inr (by decide)), f2 0 (by omega)]
           have hr : ∀ a, 28 < a → (qI M2 0 8 1).1 a = M.1 a := fun a a1 => by funext j; rw [qI_ne (Or.inl (by omega)), f2 a (by omega)]
           refine ⟨by rw [qI_eq]; decide, by rw [e9]; exact t2, by rw [e10]; exact t3, fun _ => f3.mono (fun a a1 a2 => by funext j; exact qI_ne (Or.inl (by omega))), fun e => ?_, fun e => ?_, by rw [hr 29 (by decide)]; exact t7, by rw [hr 29 (by decide)]; exact t8, by rw [hr 32 (by decide)]; exact t9, by rw [hr 32 (by decide)]; exact t10, fun g hg => by rw [qI_ne (Or.inl (by omega))]; exact f3.zero g hg⟩
           · rw [e9] at e; exact absurd (t5 e).1 (by omega)
           · rw [e10] at e; exact absurd (t6 e).1 (by omega))
theorem c_standingHearing (hX : RX M b s k was n t pa sw) : Ct l hdX kX mX5_standingHearing [.ref 0] M (fun v M' => v = some (.ref 29) ∧ M'.1 0 8 = 1 ∧ M'.1 0 9 = 1 ∧ FrT M M' ∧ Tb M' s) := by
  refine Ct.of [some (.ref 0)] (by decide +kernel) (fun h => absurd h (by decide)) (Nat.le_of_ble_eq_true rfl) rfl ?_
  have hX0 := hX
  obtain ⟨q1, q2, q3, q4, q5, q6, q7, q8, q9, q10⟩ := hX
  have z1 := q10.2.1
  have hho : HO 29 0 3 := Or.inl ⟨rfl, rfl, rfl⟩
  refine T.aload_n (pc' := 1) (q_d dX5_standingHearing_0 0 rfl) rfl rfl rfl ?_
  refine T.getI (pc' := 4) (ci := 5) (k0 := 9) (q_d dX5_standingHearing_0 1 rfl) rfl rfl (by decide) rfl inX5 (by decide) rfl wF_X5_249 rfl ?_
  refine T.if_neN (tgt := 23) (pc' := 7) (q_d dX5_standingHearing_0 2 rfl) rfl (by decide) (by omega) (fun h4 => ?_) (fun h4 => ?_)
  · refine T.aload_n (pc' := 24) (q_d dX5_standingHearing_0 11 rfl) rfl rfl rfl ?_
    refine T.getR (pc' := 27) (ci := 5) (k0 := 6) (q_d dX5_standingHearing_0 12 rfl) rfl rfl (by decide) rfl inX5 (by decide) rfl wF_X5_42 (by first | exact rP qM3 rfl | exact rP q1 rfl) ?_
    refine T.aret (q_d dX5_standingHearing_0 13 rfl) rfl rfl rfl ?_
    first
      | (have h8 : M.1 0 9 = 1 := by omega
         exact ⟨rfl, (q10.2.2.2.2.1 h8).1, h8, FrT.refl, q10⟩)
      | (have hr : ∀ a, a ≠ 0 → a ≠ 30 → a ≠ 31 → (qI M3 0 9 1).1 a = M2.1 a := fun a a1 a2 a3 => by funext j; rw [qI_ne (Or.inl a1), r3 a a2 a3]
         have h0 : ∀ j, j ≠ 9 → (qI M3 0 9 1).1 0 j = M2.1 0 j := fun j hj => by rw [qI_ne (Or.inr hj), r3 0 (by decide) (by decide)]
         obtain ⟨t1, t2, t3, t4, t5, t6, t7, t8, t9, t10, t11⟩ := hTb
         refine ⟨rfl, (h0 8 (by decide)).trans e8, qI_eq, fT.trans ⟨r2, fun a a1 a2 => hr a a1 (by omega) (by omega), fun j hj => h0 j (by omega)⟩, ?_⟩
         refine ⟨by rw [h0 8 (by decide)]; exact t1, ?_, ?_, fun _ => (t4 e8).mono (fun a a1 a2 => hr a (by omega) (by omega) (by omega)), fun e => ⟨(h0 8 (by decide)).trans e8, ?_⟩, fun e => ⟨(h0 8 (by decide)).trans e8, ?_⟩, by rw [hr 29 (by decide) (by decide) (by decide)]; exact t7, by rw [hr 29 (by decide) (by decide) (by decide)]; exact t8, by rw [hr 32 (by decide) (by decide) (by decide)]; exact t9, by rw [hr 32 (by decide) (by decide) (by decide)]; exact t10, fun g hg => by rw [hr (22 + g) (by omega) (by omega) (by omega)]; exact t11 g hg⟩
         · first | (rw [qI_eq]; decide) | (rw [h0 9 (by decide)]; exact t2)
         · first | (rw [qI_eq]; decide) | (rw [h0 10 (by decide)]; exact t3)
         · first
             | exact r1.mono (by funext j; exact qI_ne (Or.inl (by decide))) (by funext j; exact qI_ne (Or.inl (by decide)))
             | (rw [h0 9 (by decide)] at e; exact (t5 e).2.mono (hr 30 (by decide) (by decide) (by decide)) (hr 31 (by decide) (by decide) (by decide)))
         · first
             | exact r1.mono (by funext j; exact qI_ne (Or.inl (by decide))) (by funext j; exact qI_ne (Or.inl (by decide)))
             | (rw [h0 10 (by decide)] at e; exact (t6 e).2.mono (hr 33 (by decide) (by decide) (by decide)) (hr 34 (by decide) (by decide) (by decide))))
  · refine T.aload_n (pc' := 8) (q_d dX5_standingHearing_0 3 rfl) rfl rfl rfl ?_
    refine T.getR (pc' := 11) (ci := 5) (k0 := 6) (q_d dX5_standingHearing_0 4 rfl) rfl rfl (by decide) rfl inX5 (by decide) rfl wF_X5_42 (rP q1 rfl) ?_
    refine T.aload_n (pc' := 12) (q_d dX5_standingHearing_0 5 rfl) rfl rfl rfl ?_
    refine T.callV (pc' := 15) (ci := 5) (q_d dX5_standingHearing_0 6 rfl) rfl uX5_standingMoves wM_X5_129 (c_standingMoves hX0) rfl rfl (by decide) rfl rfl (by decide) (Nat.le_of_ble_eq_true rfl) rfl rfl (fun _ => rfl) ?_
    rintro _ M2 ⟨rfl, e8, e9, e10, f28, fT, hTb⟩
    have qM : M2.2.2 = pX pa sw := by rw [fT.1]; exact q1
    dsimp only [Option.toList, List.cons_append, List.nil_append, List.append_nil]
    refine T.callV (pc' := 18) (ci := 0) (q_d dX5_standingHearing_0 7 rfl) rfl uX0_solve wM_X5_258 (c_solve hho qM q4 (hTb.2.2.2.1 e8) (show M2.1 29 2 = 0 from hTb.2.2.2.2.2.2.1) (show M2.1 29 3 = 3 from hTb.2.2.2.2.2.2.2.1)) rfl rfl (by decide) rfl rfl (by decide) (Nat.le_of_ble_eq_true rfl) rfl rfl (fun _ => rfl) ?_
    rintro _ M3 ⟨rfl, r1, r2, r3⟩
    have qM3 : M3.2.2 = pX pa sw := by rw [r2]; exact qM
    dsimp only [Option.toList, List.cons_append, List.nil_append, List.append_nil]
    refine T.aload_n (pc' := 19) (q_d dX5_standingHearing_0 8 rfl) rfl rfl rfl ?_
    refine T.iconst (pc' := 20) (v := nI 1) (q_d dX5_standingHearing_0 9 rfl) rfl (by decide) ?_
    refine T.putI (pc' := 23) (ci := 5) (k0 := 9) (q_d dX5_standingHearing_0 10 rfl) rfl rfl (by decide) rfl inX5 tyX5 tyX5_ok nmX5 (by decide) rfl wF_X5_249 rfl (by decide) (by decide) ?_
    refine T.aload_n (pc' := 24) (q_d dX5_standingHearing_0 11 rfl) rfl rfl rfl ?_
    refine T.getR (pc' := 27) (ci := 5) (k0 := 6) (q_d dX5_standingHearing_0 12 rfl) rfl rfl (by decide) rfl inX5 (by decide) rfl wF_X5_42 (by first | exact rP qM3 rfl | exact rP q1 rfl) ?_
    refine T.aret (q_d dX5_standingHearing_0 13 rfl) rfl rfl rfl ?_
    first
      | (have h8 : M.1 0 9 = 1 := by omega
         exact ⟨rfl, (q10.2.2.2.2.1 h8).1, h8, FrT.refl, q10⟩)
      | (have hr : ∀ a, a ≠ 0 → a ≠ 30 → a ≠ 31 → (qI M3 0 9 1).1 a = M2.1 a := fun a a1 a2 a3 => by funext j; rw [qI_ne (Or.inl a1), r3 a a2 a3]
         have h0 : ∀ j, j ≠ 9 → (qI M3 0 9 1).1 0 j = M2.1 0 j := fun j hj => by rw [qI_ne (Or.inr hj), r3 0 (by decide) (by decide)]
         obtain ⟨t1, t2, t3, t4, t5, t6, t7, t8, t9, t10, t11⟩ := hTb
         refine ⟨rfl, (h0 8 (by decide)).trans e8, qI_eq, fT.trans ⟨r2, fun a a1 a2 => hr a a1 (by omega) (by omega), fun j hj => h0 j (by omega)⟩, ?_⟩
         refine ⟨by rw [h0 8 (by decide)]; exact t1, ?_, ?_, fun _ => (t4 e8).mono (fun a a1 a2 => hr a (by omega) (by omega) (by omega)), fun e => ⟨(h0 8 (by decide)).trans e8, ?_⟩, fun e => ⟨(h0 8 (by decide)).trans e8, ?_⟩, by rw [hr 29 (by decide) (by decide) (by decide)]; exact t7, by rw [hr 29 (by decide) (by decide) (by decide)]; exact t8, by rw [hr 32 (by decide) (by decide) (by decide)]; exact t9, by rw [hr 32 (by decide) (by decide) (by decide)]; exact t10, fun g hg => by rw [hr (22 + g) (by omega) (by omega) (by omega)]; exact t11 g hg⟩
         · first | (rw [qI_eq]; decide) | (rw [h0 9 (by decide)]; exact t2)
         · first | (rw [qI_eq]; decide) | (rw [h0 10 (by decide)]; exact t3)
         · first
             | exact r1.mono (by funext j; exact qI_ne (Or.inl (by decide))) (by funext j; exact qI_ne (Or.inl (by decide)))
             | (rw [h0 9 (by decide)] at e; exact (t5 e).2.mono (hr 30 (by decide) (by decide) (by decide)) (hr 31 (by decide) (by decide) (by decide)))
         · first
             | exact r1.mono (by funext j; exact qI_ne (Or.inl (by decide))) (by funext j; exact qI_ne (Or.inl (by decide)))
             | (rw [h0 10 (by decide)] at e; exact (t6 e).2.mono (hr 33 (by decide) (by decide) (by decide)) (hr 34 (by decide) (by decide) (by decide))))
theorem c_standingUnhearing (hX : RX M b s k was n t pa sw) : Ct l hdX kX mX5_standingUnhearing [.ref 0] M (fun v M' => v = some (.ref 32) ∧ M'.1 0 8 = 1 ∧ M'.1 0 10 = 1 ∧ FrT M M' ∧ Tb M' s) := by
  refine Ct.of [some (.ref 0)] (by decide +kernel) (fun h => absurd h (by decide)) (Nat.le_of_ble_eq_true rfl) rfl ?_
  have hX0 := hX
  obtain ⟨q1, q2, q3, q4, q5, q6, q7, q8, q9, q10⟩ := hX
  have z1 := q10.2.2.1
  have hho : HO 32 4 4 := Or.inr ⟨rfl, rfl, rfl⟩
  refine T.aload_n (pc' := 1) (q_d dX5_standingUnhearing_0 0 rfl) rfl rfl rfl ?_
  refine T.getI (pc' := 4) (ci := 5) (k0 := 10) (q_d dX5_standingUnhearing_0 1 rfl) rfl rfl (by decide) rfl inX5 (by decide) rfl wF_X5_252 rfl ?_
  refine T.if_neN (tgt := 23) (pc' := 7) (q_d dX5_standingUnhearing_0 2 rfl) rfl (by decide) (by omega) (fun h4 => ?_) (fun h4 => ?_)
  · refine T.aload_n (pc' := 24) (q_d dX5_standingUnhearing_0 11 rfl) rfl rfl rfl ?_
    refine T.getR (pc' := 27) (ci := 5) (k0 := 7) (q_d dX5_standingUnhearing_0 12 rfl) rfl rfl (by decide) rfl inX5 (by decide) rfl wF_X5_46 (by first | exact rP qM3 rfl | exact rP q1 rfl) ?_
    refine T.aret (q_d dX5_standingUnhearing_0 13 rfl) rfl rfl rfl ?_
    first
      | (have h8 : M.1 0 10 = 1 := by omega
         exact ⟨rfl, (q10.2.2.2.2.2.1 h8).1, h8, FrT.refl, q10⟩)
      | (have hr : ∀ a, a ≠ 0 → a ≠ 33 → a ≠ 34 → (qI M3 0 10 1).1 a = M2.1 a := fun a a1 a2 a3 => by funext j; rw [qI_ne (Or.inl a1), r3 a a2 a3]
         have h0 : ∀ j, j ≠ 10 → (qI M3 0 10 1).1 0 j = M2.1 0 j := fun j hj => by rw [qI_ne (Or.inr hj), r3 0 (by decide) (by decide)]
         obtain ⟨t1, t2, t3, t4, t5, t6, t7, t8, t9, t10, t11⟩ := hTb
         refine ⟨rfl, (h0 8 (by decide)).trans e8, qI_eq, fT.trans ⟨r2, fun a a1 a2 => hr a a1 (by omega) (by omega), fun j hj => h0 j (by omega)⟩, ?_⟩
         refine ⟨by rw [h0 8 (by decide)]; exact t1, ?_, ?_, fun _ => (t4 e8).mono (fun a a1 a2 => hr a (by omega) (by omega) (by omega)), fun e => ⟨(h0 8 (by decide)).trans e8, ?_⟩, fun e => ⟨(h0 8 (by decide)).trans e8, ?_⟩, by rw [hr 29 (by decide) (by decide) (by decide)]; exact t7, by rw [hr 29 (by decide) (by decide) (by decide)]; exact t8, by rw [hr 32 (by decide) (by decide) (by decide)]; exact t9, by rw [hr 32 (by decide) (by decide) (by decide)]; exact t10, fun g hg => by rw [hr (22 + g) (by omega) (by omega) (by omega)]; exact t11 g hg⟩
         · first | (rw [qI_eq]; decide) | (rw [h0 9 (by decide)]; exact t2)
         · first | (rw [qI_eq]; decide) | (rw [h0 10 (by decide)]; exact t3)
         · first
             | exact r1.mono (by funext j; exact qI_ne (Or.inl (by decide))) (by funext j; exact qI_ne (Or.inl (by decide)))
             | (rw [h0 9 (by decide)] at e; exact (t5 e).2.mono (hr 30 (by decide) (by decide) (by decide)) (hr 31 (by decide) (by decide) (by decide)))
         · first
             | exact r1.mono (by funext j; exact qI_ne (Or.inl (by decide))) (by funext j; exact qI_ne (Or.inl (by decide)))
             | (rw [h0 10 (by decide)] at e; exact (t6 e).2.mono (hr 33 (by decide) (by decide) (by decide)) (hr 34 (by decide) (by decide) (by decide))))
  · refine T.aload_n (pc' := 8) (q_d dX5_standingUnhearing_0 3 rfl) rfl rfl rfl ?_
    refine T.getR (pc' := 11) (ci := 5) (k0 := 7) (q_d dX5_standingUnhearing_0 4 rfl) rfl rfl (by decide) rfl inX5 (by decide) rfl wF_X5_46 (rP q1 rfl) ?_
    refine T.aload_n (pc' := 12) (q_d dX5_standingUnhearing_0 5 rfl) rfl rfl rfl ?_
    refine T.callV (pc' := 15) (ci := 5) (q_d dX5_standingUnhearing_0 6 rfl) rfl uX5_standingMoves wM_X5_129 (c_standingMoves hX0) rfl rfl (by decide) rfl rfl (by decide) (Nat.le_of_ble_eq_true rfl) rfl rfl (fun _ => rfl) ?_
    rintro _ M2 ⟨rfl, e8, e9, e10, f28, fT, hTb⟩
    have qM : M2.2.2 = pX pa sw := by rw [fT.1]; exact q1
    dsimp only [Option.toList, List.cons_append, List.nil_append, List.append_nil]
    refine T.callV (pc' := 18) (ci := 0) (q_d dX5_standingUnhearing_0 7 rfl) rfl uX0_solve wM_X5_258 (c_solve hho qM q4 (hTb.2.2.2.1 e8) (show M2.1 32 2 = 4 from hTb.2.2.2.2.2.2.2.2.1) (show M2.1 32 3 = 4 from hTb.2.2.2.2.2.2.2.2.2.1)) rfl rfl (by decide) rfl rfl (by decide) (Nat.le_of_ble_eq_true rfl) rfl rfl (fun _ => rfl) ?_
    rintro _ M3 ⟨rfl, r1, r2, r3⟩
    have qM3 : M3.2.2 = pX pa sw := by rw [r2]; exact qM
    dsimp only [Option.toList, List.cons_append, List.nil_append, List.append_nil]
    refine T.aload_n (pc' := 19) (q_d dX5_standingUnhearing_0 8 rfl) rfl rfl rfl ?_
    refine T.iconst (pc' := 20) (v := nI 1) (q_d dX5_standingUnhearing_0 9 rfl) rfl (by decide) ?_
    refine T.putI (pc' := 23) (ci := 5) (k0 := 10) (q_d dX5_standingUnhearing_0 10 rfl) rfl rfl (by decide) rfl inX5 tyX5 tyX5_ok nmX5 (by decide) rfl wF_X5_252 rfl (by decide) (by decide) ?_
    refine T.aload_n (pc' := 24) (q_d dX5_standingUnhearing_0 11 rfl) rfl rfl rfl ?_
    refine T.getR (pc' := 27) (ci := 5) (k0 := 7) (q_d dX5_standingUnhearing_0 12 rfl) rfl rfl (by decide) rfl inX5 (by decide) rfl wF_X5_46 (by first | exact rP qM3 rfl | exact rP q1 rfl) ?_
    refine T.aret (q_d dX5_standingUnhearing_0 13 rfl) rfl rfl rfl ?_
    first
      | (have h8 : M.1 0 10 = 1 := by omega
         exact ⟨rfl, (q10.2.2.2.2.2.1 h8).1, h8, FrT.refl, q10⟩)
      | (have hr : ∀ a, a ≠ 0 → a ≠ 33 → a ≠ 34 → (qI M3 0 10 1).1 a = M2.1 a := fun a a1 a2 a3 => by funext j; rw [qI_ne (Or.inl a1), r3 a a2 a3]
         have h0 : ∀ j, j ≠ 10 → (qI M3 0 10 1).1 0 j = M2.1 0 j := fun j hj => by rw [qI_ne (Or.inr hj), r3 0 (by decide) (by decide)]
         obtain ⟨t1, t2, t3, t4, t5, t6, t7, t8, t9, t10, t11⟩ := hTb
         refine ⟨rfl, (h0 8 (by decide)).trans e8, qI_eq, fT.trans ⟨r2, fun a a1 a2 => hr a a1 (by omega) (by omega), fun j hj => h0 j (by omega)⟩, ?_⟩
         refine ⟨by rw [h0 8 (by decide)]; exact t1, ?_, ?_, fun _ => (t4 e8).mono (fun a a1 a2 => hr a (by omega) (by omega) (by omega)), fun e => ⟨(h0 8 (by decide)).trans e8, ?_⟩, fun e => ⟨(h0 8 (by decide)).trans e8, ?_⟩, by rw [hr 29 (by decide) (by decide) (by decide)]; exact t7, by rw [hr 29 (by decide) (by decide) (by decide)]; exact t8, by rw [hr 32 (by decide) (by decide) (by decide)]; exact t9, by rw [hr 32 (by decide) (by decide) (by decide)]; exact t10, fun g hg => by rw [hr (22 + g) (by omega) (by omega) (by omega)]; exact t11 g hg⟩
         · first | (rw [qI_eq]; decide) | (rw [h0 9 (by decide)]; exact t2)
         · first | (rw [qI_eq]; decide) | (rw [h0 10 (by decide)]; exact t3)
         · first
             | exact r1.mono (by funext j; exact qI_ne (Or.inl (by decide))) (by funext j; exact qI_ne (Or.inl (by decide)))
             | (rw [h0 9 (by decide)] at e; exact (t5 e).2.mono (hr 30 (by decide) (by decide) (by decide)) (hr 31 (by decide) (by decide) (by decide)))
         · first
             | exact r1.mono (by funext j; exact qI_ne (Or.inl (by decide))) (by funext j; exact qI_ne (Or.inl (by decide)))
             | (rw [h0 10 (by decide)] at e; exact (t6 e).2.mono (hr 33 (by decide) (by decide) (by decide)) (hr 34 (by decide) (by decide) (by decide))))
end CX5A
end
section
/-! what hangs on the country alone -/
def Cy (s s' : Nat → Nat) : Prop := ∀ j, j ≠ 1 → j ≠ 2 → j ≠ 3 → j < 28 → s' j = s j
theorem orTo_congr {f g : Nat → Nat} : ∀ n, (∀ i, i < n → f i = g i) → orTo f n = orTo g n
  | 0, _ => rfl
  | n + 1, h => by rw [orTo, orTo, orTo_congr n (fun i hi => h i (by omega)), h n (by omega)]
theorem Cy.lgoes {s s' : Nat → Nat} (h : Cy s s') (h7 : s 0 ≤ 7) {p c : Nat} (hp : p < 7) : goes s' p c = goes s p c := by
  unfold goes
  rw [h 0 (by decide) (by decide) (by decide) (by decide), h 4 (by decide) (by decide) (by decide) (by decide), h (21 + p) (by omega) (by omega) (by omega) (by omega)]
  rw [orTo_congr (s 0) (fun i hi => by rw [h (21 + i) (by omega) (by omega) (by omega) (by omega)])]
theorem Cy.lhears {s s' : Nat → Nat} (h : Cy s s') {p q : Nat} (hq : q < 7) : hears s' p q = hears s p q := by
  unfold hears
  rw [h 5 (by decide) (by decide) (by decide) (by decide), h (7 + q) (by omega) (by omega) (by omega) (by omega), h (21 + q) (by omega) (by omega) (by omega) (by omega)]
theorem Cy.lthn {s s' : Nat → Nat} (h : Cy s s') (h7 : s 0 ≤ 7) : thn s' = thn s := by
  funext b c g
  unfold thn
  rw [h 0 (by decide) (by decide) (by decide) (by decide)]
  refine orTo_congr _ (fun p hp => orTo_congr _ (fun q hq => ?_))
  rw [h.lgoes h7 (by omega), h.lhears (by omega)]
theorem Cy.ltgt {s s' : Nat → Nat} (h : Cy s s') (h7 : s 0 ≤ 7) {p g : Nat} (hp : p < 7) : tgt s' p g = tgt s p g := by
  unfold tgt
  rw [h 0 (by decide) (by decide) (by decide) (by decide), h.lgoes h7 hp]
  refine orTo_congr _ (fun q hq => ?_)
  rw [h.lhears (by omega)]
theorem Cy.lgon {s s' : Nat → Nat} (h : Cy s s') (h7 : s 0 ≤ 7) {g b : Nat} : ∀ n, n ≤ 7 → gon s' g b n = gon s g b n
  | 0, _ => rfl
  | n + 1, hn => by
    unfold gon
    rw [h.lgon h7 n (by omega), h.ltgt h7 (by omega)]
theorem Cy.lsol {s s' : Nat → Nat} (h : Cy s s') (h7 : s 0 ≤ 7) {g0 g1 : Nat} : ∀ k, solN s' g0 g1 k = solN s g0 g1 k
  | 0 => rfl
  | k + 1 => by
    have e0 := h 0 (by decide) (by decide) (by decide) (by decide)
    have e6 := h 6 (by decide) (by decide) (by decide) (by decide)
    have et := h.lthn h7
    have eg : ∀ nd lv b, fstC s' nd g0 g1 lv b = fstC s nd g0 g1 lv b := fun nd lv b => by
      unfold fstC goodC enough
      rw [e0, e6, et]
    have en : ∀ nd lv b, newly s' nd g0 g1 lv b = newly s nd g0 g1 lv b := fun nd lv b => by
      unfold newly
      rw [eg, e0]
    simp only [solN, h.lsol h7 k, en, eg]
theorem Cy.lck {s s' : Nat → Nat} (h : Cy s s') (n : Nat) : ckN s' n = ckN s n := by
  unfold ckN
  rw [h 6 (by decide) (by decide) (by decide) (by decide)]
theorem Cy.lRT {s s' : Nat → Nat} (h : Cy s s') (h7 : s 0 ≤ 7) {M : qM} (q : RT M s) : RT M s' := by
  unfold RT at *
  rw [h 0 (by decide) (by decide) (by decide) (by decide), h 4 (by decide) (by decide) (by decide) (by decide), h.lck]
  exact ⟨fun g hg b hb => (q.1 g hg b hb).trans (h.lgon h7 _ h7).symm, q.2⟩
theorem Cy.lTb {s s' : Nat → Nat} (h : Cy s s') (h7 : s 0 ≤ 7) {M : qM} (q : Tb M s) : Tb M s' := by
  unfold Tb at *
  rw [h.lsol h7, h.lsol h7]
  exact ⟨q.1, q.2.1, q.2.2.1, fun e => h.lRT h7 (q.2.2.2.1 e), q.2.2.2.2⟩
theorem Cy.lround (s : Nat → Nat) (c g : Nat) : Cy s (sRound s c g) := fun j a1 a2 a3 a4 => by
  unfold sRound
  rw [if_neg a1, if_neg a2, if_neg a3, if_neg (by omega), if_neg (by omega), if_neg (by omega), if_neg (by omega)]
theorem Cy.ltrans {s1 s2 s3 : Nat → Nat} (h : Cy s1 s2) (h2 : Cy s2 s3) : Cy s1 s3 := fun j a1 a2 a3 a4 => (h2 j a1 a2 a3 a4).trans (h j a1 a2 a3 a4)
theorem Cy.lrefl (s : Nat → Nat) : Cy s s := fun _ _ _ _ _ => rfl
theorem WF.mono {b b' : Nat} {s : Nat → Nat} (h : WF b s) (hb : b ≤ b') : WF b' s := ⟨h.1, h.2.1, Nat.le_trans h.2.2.1 hb, h.2.2.2⟩
/-- a state of the same country -/
theorem WF.cy {b b' : Nat} {s s' : Nat → Nat} (h : WF b s) (hc : Cy s s') (h1 : s' 1 < 2 ^ s 0) (h2 : s' 2 ≤ b') (h3 : s' 3 = if 0 < s' 2 ∧ s' 1 = 0 then 1 else 0) : WF b' s' := by
  obtain ⟨w0, w1, w2, w4, w5, w6, w7, w14, w21, wz, w3, wy, wu⟩ := h
  have e0 := hc 0 (by decide) (by decide) (by decide) (by decide)
  have e4 := hc 4 (by decide) (by decide) (by decide) (by decide)
  have e5 := hc 5 (by decide) (by decide) (by decide) (by decide)
  have e6 := hc 6 (by decide) (by decide) (by decide) (by decide)
  have g : ∀ j, 7 ≤ j → j < 28 → s' j = s j := fun j a1 a2 => hc j (by omega) (by omega) (by omega) a2
  unfold WF
  rw [e0, e4, e5, e6]
  refine ⟨w0, h1, h2, w4, w5, w6, fun i hi => ?_, fun i hi => ?_, fun i hi => ?_, fun i hi hi2 => ?_, h3, fun i j hi hj => ?_, fun i j hi => ?_⟩
  · rw [g _ (by omega) (by omega)]; exact w7 i hi
  · rw [g _ (by omega) (by omega)]; exact w14 i hi
  · rw [g _ (by omega) (by omega)]; exact w21 i hi
  · rw [g _ (by omega) (by omega), g _ (by omega) (by omega)]; exact wz i hi hi2
  · rw [g _ (by omega) (by omega), g _ (by omega) (by omega)]; exact wy i j hi hj
  · rw [g _ (by omega) (by omega), g _ (by omega) (by omega)]; exact wu i j hi
theorem thn_none {s : Nat → Nat} {b c g : Nat} (h7 : s 0 ≤ 7) (h : dif b c = 0) : thn s b c g = 0 := by
  refine Nat.eq_of_testBit_eq fun i => ?_
  cases hb : (thn s b c g).testBit i with
  | false => simp
  | true =>
    obtain ⟨-, p, hp, h1, h2, -⟩ := (thn_bit h7).mp hb
    have h3 := (dif_bit (show p < 32 by omega)).mpr ⟨h1, h2⟩
    rw [h] at h3
    simp at h3
theorem WF.round {b : Nat} {s : Nat → Nat} (h : WF b s) {c g : Nat} (hc : canR s c g) : WF (b + 1) (sRound s c g) := by
  have h2 := h.2.2.1
  have h3 := h.2.2.2.2.2.2.2.2.2.2.1
  refine h.cy (Cy.lround s c g) (thn_lt h.1) (show s 2 + 1 ≤ b + 1 by omega) ?_
  show (if dif (s 1) c = 0 then 1 else s 3) = if 0 < s 2 + 1 ∧ thn s (s 1) c g = 0 then 1 else 0
  by_cases e : dif (s 1) c = 0
  · rw [if_pos e, if_pos ⟨by omega, thn_none h.1 e⟩]
  · rw [if_neg e, if_neg (fun q => hc.2.elim e (fun z => z q.2)), h3, if_neg (fun q => hc.1 q.2)]
/-! which beliefs come -/
def markN (s : Nat → Nat) (b c : Nat) (sn : Nat → Bool) : Nat → Nat → Bool
  | 0 => sn
  | g + 1 => fun x => markN s b c sn g x || decide (x = thn s b c g)
def cmB (s nd bs : Nat → Nat) (L : Nat) : Nat → (Nat → Bool) × Nat → (Nat → Bool) × Nat
  | 0, st => st
  | k + 1, st => if (cmB s nd bs L k st).1 (k + 1) = true ∧ nd (k + 1) = L then (markN s (k + 1) (bs (k + 1)) (cmB s nd bs L k st).1 4, (cmB s nd bs L k st).2 + 1) else cmB s nd bs L k st
def cmL (s nd bs : Nat → Nat) : Nat → (Nat → Bool) × Nat → (Nat → Bool) × Nat
  | 0, st => st
  | L + 1, st => cmL s nd bs L (cmB s nd bs (L + 1) (2 ^ s 0 - 1) st)
def comingN (s nd bs : Nat → Nat) (b0 : Nat) : Nat := (cmL s nd bs (nd b0) (fun x => decide (x = b0), 0)).2
def CM (M : qM) (sn : Nat → Bool) : Prop := ∀ x, x < 128 → M.1 38 x = if sn x = true then 1 else 0
section CX5B
variable {l : Launch} {M : qM} {b : Nat} {s : Nat → Nat} {k : Nat} {was : Nat → Nat → Nat} {n : Nat} {t pa : Nat → Nat} {sw : Bool}
theorem c_sets2 {o : Nat} (ho : SO o) (hP : M.2.2 = pX pa sw) (hs : RS M o s) (hw : WF b s) : Ct l hdX kX mX3_sets [.ref o] M (RI M (2 ^ s 0)) := by
  have h := c_sets (l := l) ho hP hs hw
  rwa [Nat.one_shiftLeft] at h
theorem c_markNext (hP : M.2.2 = pX pa sw) (hw : WF b s) (hT : RT M s) {x c : Nat} (hx : x < 2 ^ s 0) {sn : Nat → Bool} (hc : CM M sn) : Ct l hdX kX mX5_markNext [.ref 0, .int (nI x), .int (nI c)] M (fun v M' => v = none ∧ M'.2 = M.2 ∧ (∀ a, a ≠ 38 → M'.1 a = M.1 a) ∧ CM M' (markN s x c sn 4)) := by
  refine Ct.of [some (.ref 0), some (.int (nI x)), some (.int (nI c)), none] (by decide +kernel) (fun h => absurd h (by decide)) (Nat.le_of_ble_eq_true rfl) rfl ?_
  have w0 := p2_le hw.1
  have loop : ∀ d g (M' : qM), g + d = 4 → M'.2 = M.2 → (∀ a, a ≠ 38 → M'.1 a = M.1 a) → CM M' (markN s x c sn g) →
      T l hdX kX mX5_markNext (fun v M' => v = none ∧ M'.2 = M.2 ∧ (∀ a, a ≠ 38 → M'.1 a = M.1 a) ∧ CM M' (markN s x c sn 4)) 0 0 2 [some (.ref 0), some (.int (nI x)), some (.int (nI c)), some (.int (nI g))] [] M' := by
    intro d
    induction d with
    | zero =>
      intro g M' hg h2 ha hcm
      have e : g = 4 := by omega
      subst e
      refine T.iload_n (pc' := 3) (q_d dX5_markNext_0 2 rfl) rfl rfl rfl ?_
      refine T.iconst (pc' := 4) (v := nI 4) (q_d dX5_markNext_0 3 rfl) rfl (by decide) ?_
      refine T.icmp_geN (tgt := 29) (pc' := 7) (q_d dX5_markNext_0 4 rfl) rfl (by decide) (by omega) (by omega) (fun h4 => ?_) (fun h4 => ?_)
      · refine T.vret (q_d dX5_markNext_0 17 rfl) rfl rfl rfl ?_
        exact ⟨rfl, h2, ha, hcm⟩
      · exact absurd h4 (by omega)
    | succ d ih =>
      intro g M' hg h2 ha hcm
      have hP' : M'.2.2 = pX pa sw := by rw [h2]; exact hP
      have hT' : RT M' s := hT.mono (fun a a1 a2 => ha a (by omega))
      have ht := thn_lt (s := s) (b := x) (c := c) (g := g) hw.1
      refine T.iload_n (pc' := 3) (q_d dX5_markNext_0 2 rfl) rfl rfl rfl ?_
      refine T.iconst (pc' := 4) (v := nI 4) (q_d dX5_markNext_0 3 rfl) rfl (by decide) ?_
      refine T.icmp_geN (tgt := 29) (pc' := 7) (q_d dX5_markNext_0 4 rfl) rfl (by decide) (by omega) (by omega) (fun h4 => ?_) (fun h4 => ?_)
      · exact absurd h4 (by omega)
      · refine T.aload_n (pc' := 8) (q_d dX5_markNext_0 5 rfl) rfl rfl rfl ?_
        refine T.getR (pc' := 11) (ci := 5) (k0 := 12) (q_d dX5_markNext_0 6 rfl) rfl rfl (by decide) rfl inX5 (by decide) rfl wF_X5_56 (rP hP' rfl) ?_
        refine T.aload_n (pc' := 12) (q_d dX5_markNext_0 7 rfl) rfl rfl rfl ?_
        refine T.getR (pc' := 15) (ci := 5) (k0 := 5) (q_d dX5_markNext_0 8 rfl) rfl rfl (by decide) rfl inX5 (by decide) rfl wF_X5_33 (rP hP' rfl) ?_
        refine T.iload_n (pc' := 16) (q_d dX5_markNext_0 9 rfl) rfl rfl rfl ?_
        refine T.iload_n (pc' := 17) (q_d dX5_markNext_0 10 rfl) rfl rfl rfl ?_
        refine T.iload_n (pc' := 18) (q_d dX5_markNext_0 11 rfl) rfl rfl rfl ?_
        refine T.callV (pc' := 21) (ci := 1) (q_d dX5_markNext_0 12 rfl) rfl uX1_after wM_X5_163 (c_after hP' hw hT' hx (show g < 5 by omega)) rfl rfl (by decide) rfl rfl (by decide) (Nat.le_of_ble_eq_true rfl) rfl rfl (fun _ => rfl) ?_
        rintro _ _ ⟨rfl, rfl⟩
        dsimp only [Option.toList, List.cons_append, List.nil_append, List.append_nil]
        refine T.iconst (pc' := 22) (v := nI 1) (q_d dX5_markNext_0 13 rfl) rfl (by decide) ?_
        refine T.zast (pc' := 23) (q_d dX5_markNext_0 14 rfl) rfl rfl (by decide) rfl (by omega) (by decide) (by decide) ?_
        refine T.iinc (pc' := 26) (q_d dX5_markNext_0 15 rfl) rfl rfl (nN_p _ 1) (by decide) rfl rfl ?_
        refine T.goto (tgt := 2) (q_d dX5_markNext_0 16 rfl) (by decide) ?_
        refine ih (g + 1) _ (by omega) h2 (fun a h9 => ?_) (fun y hy => ?_)
        · funext j; rw [qI_ne (Or.inl h9), ha a h9]
        · by_cases e : y = thn s x c g
          · subst e
            rw [qI_eq, markN]; simp
          · rw [qI_ne (Or.inr e), hcm y hy, markN]; simp [e]
  refine T.iconst (pc' := 1) (v := nI 0) (q_d dX5_markNext_0 0 rfl) rfl (by decide) ?_
  refine T.istore_n (pc' := 2) (q_d dX5_markNext_0 1 rfl) rfl rfl (by decide) rfl rfl ?_
  exact loop 4 0 M (by omega) rfl (fun _ _ => rfl) hc
theorem c_countComing (hP : M.2.2 = pX pa sw) (hs : RS M 1 s) (hw : WF b s) (hT : RT M s) (hR : RHs M 29 (solN s 0 3 127)) {x : Nat} (hx : x < 2 ^ s 0) (hne : (solN s 0 3 127).1 x ≠ 1000) :
    Ct l hdX kX mX5_countComing [.ref 0, .ref 29, .int (nI x)] M (fun v M' => v = some (.int (nI (comingN s (solN s 0 3 127).1 (solN s 0 3 127).2 x))) ∧ M'.2 = M.2 ∧ ∀ a, a ≠ 38 → M'.1 a = M.1 a) := by
  refine Ct.of [some (.ref 0), some (.ref 29), some (.int (nI x)), none, none, none] (by decide +kernel) (fun h => absurd h (by decide)) (Nat.le_of_ble_eq_true rfl) rfl ?_
  have w0 := p2_le hw.1
  have hv := sol_vals (s := s) (g0 := 0) (g1 := 3)
  have loopL : ∀ L st (M' : qM), L ≤ 127 → M'.2 = M.2 → (∀ a, a ≠ 38 → M'.1 a = M.1 a) → CM M' st.1 → (cmL s (solN s 0 3 127).1 (solN s 0 3 127).2 L st).2 = comingN s (solN s 0 3 127).1 (solN s 0 3 127).2 x →
      T l hdX kX mX5_countComing (fun v M' => v = some (.int (nI (comingN s (solN s 0 3 127).1 (solN s 0 3 127).2 x))) ∧ M'.2 = M.2 ∧ ∀ a, a ≠ 38 → M'.1 a = M.1 a) 0 0 39 [some (.ref 0), some (.ref 29), some (.int (nI x)), some (.int (nI st.2)), some (.int (nI L)), none] [] M' := by
    intro L
    induction L with
    | zero =>
      intro st M' hL h2 ha hcm he
      refine T.iload (pc' := 41) (q_d dX5_countComing_0 24 rfl) rfl rfl ?_
      refine T.if_leN (tgt := 109) (pc' := 44) (q_d dX5_countComing_0 25 rfl) rfl (by decide) (by omega) (fun h41 => ?_) (fun h41 => ?_)
      · refine T.iload_n (pc' := 110) (q_d dX5_countComing_1 16 rfl) rfl rfl rfl ?_
        refine T.iret (q_d dX5_countComing_1 17 rfl) rfl rfl rfl ?_
        exact ⟨by rw [← he]; rfl, h2, ha⟩
      · exact absurd h41 (by omega)
    | succ L ih =>
      intro st M' hL h2 ha hcm he
      have inner : ∀ d k (M2 : qM), k + d + 1 = 2 ^ s 0 → M2.2 = M.2 → (∀ a, a ≠ 38 → M2.1 a = M.1 a) → CM M2 (cmB s (solN s 0 3 127).1 (solN s 0 3 127).2 (L + 1) k st).1 →
          T l hdX kX mX5_countComing (fun v M' => v = some (.int (nI (comingN s (solN s 0 3 127).1 (solN s 0 3 127).2 x))) ∧ M'.2 = M.2 ∧ ∀ a, a ≠ 38 → M'.1 a = M.1 a) 0 0 47 [some (.ref 0), some (.ref 29), some (.int (nI x)), some (.int (nI (cmB s (solN s 0 3 127).1 (solN s 0 3 127).2 (L + 1) k st).2)), some (.int (nI (L + 1))), some (.int (nI (k + 1)))] [] M2 := by
        intro d
        induction d with
        | zero =>
          intro k M2 hk j2 ja jc
          have hP2 : M2.2.2 = pX pa sw := by rw [j2]; exact hP
          have hs2 : RS M2 1 s := hs.mono (fun a a1 a2 => ja a (by omega))
          refine T.iload (pc' := 49) (q_d dX5_countComing_0 28 rfl) rfl rfl ?_
          refine T.aload_n (pc' := 50) (q_d dX5_countComing_0 29 rfl) rfl rfl rfl ?_
          refine T.getR (pc' := 53) (ci := 5) (k0 := 0) (q_d dX5_countComing_0 30 rfl) rfl rfl (by decide) rfl inX5 (by decide) rfl wF_X5_10 (rP hP2 rfl) ?_
          refine T.callV (pc' := 56) (ci := 3) (q_d dX5_countComing_0 31 rfl) rfl uX3_sets wM_X5_184 (c_sets2 (Or.inl rfl) hP2 hs2 hw) rfl rfl (by decide) rfl rfl (by decide) (Nat.le_of_ble_eq_true rfl) rfl rfl (fun _ => rfl) ?_
          rintro _ _ ⟨rfl, rfl⟩
          dsimp only [Option.toList, List.cons_append, List.nil_append, List.append_nil]
          refine T.icmp_geN (tgt := 103) (pc' := 59) (q_d dX5_countComing_0 32 rfl) rfl (by decide) (by omega) (by omega) (fun h56 => ?_) (fun h56 => ?_)
          · refine T.iinc (pc' := 106) (q_d dX5_countComing_1 14 rfl) rfl rfl (nN_m1 (by omega)) (by decide) rfl rfl ?_
            refine T.goto (tgt := 39) (q_d dX5_countComing_1 15 rfl) (by decide) ?_
            refine T.drop (loc' := [some (.ref 0), some (.ref 29), some (.int (nI x)), some (.int (nI (cmB s (solN s 0 3 127).1 (solN s 0 3 127).2 (L + 1) k st).2)), some (.int (nI L)), none]) ⟨rfl, rfl, rfl, rfl, rfl, trivial⟩ ?_
            exact ih (cmB s (solN s 0 3 127).1 (solN s 0 3 127).2 (L + 1) k st) M2 (by omega) j2 ja jc (by rw [← he]; simp only [cmL]; rw [show 2 ^ s 0 - 1 = k by omega])
          · exact absurd h56 (by omega)
        | succ d ih2 =>
          intro k M2 hk j2 ja jc
          have hP2 : M2.2.2 = pX pa sw := by rw [j2]; exact hP
          have hs2 : RS M2 1 s := hs.mono (fun a a1 a2 => ja a (by omega))
          have hT2 : RT M2 s := hT.mono (fun a a1 a2 => ja a (by omega))
          have hn9 := hR (k + 1) (by omega)
          have hn1 : M2.1 30 (k + 1) = nc ((solN s 0 3 127).1 (k + 1)) := by rw [ja 30 (by decide)]; exact hn9.1
          have hn2 : M2.1 31 (k + 1) = (solN s 0 3 127).2 (k + 1) := by rw [ja 31 (by decide)]; exact hn9.2
          have hv1 := hv (k + 1)
          have hnl := nc_lt hv1
          have hnL : nc ((solN s 0 3 127).1 (k + 1)) = L + 1 ↔ (solN s 0 3 127).1 (k + 1) = L + 1 := by unfold nc; split <;> omega
          have hskip : ¬ ((cmB s (solN s 0 3 127).1 (solN s 0 3 127).2 (L + 1) k st).1 (k + 1) = true ∧ (solN s 0 3 127).1 (k + 1) = L + 1) → T l hdX kX mX5_countComing (fun v M' => v = some (.int (nI (comingN s (solN s 0 3 127).1 (solN s 0 3 127).2 x))) ∧ M'.2 = M.2 ∧ ∀ a, a ≠ 38 → M'.1 a = M.1 a) 0 0 47 [some (.ref 0), some (.ref 29), some (.int (nI x)), some (.int (nI (cmB s (solN s 0 3 127).1 (solN s 0 3 127).2 (L + 1) k st).2)), some (.int (nI (L + 1))), some (.int (nI (k + 1 + 1)))] [] M2 := by
            intro hno
            have e9 : cmB s (solN s 0 3 127).1 (solN s 0 3 127).2 (L + 1) (k + 1) st = cmB s (solN s 0 3 127).1 (solN s 0 3 127).2 (L + 1) k st := by rw [cmB, if_neg hno]
            have h9 := ih2 (k + 1) M2 (by omega) j2 ja (by rw [e9]; exact jc)
            rwa [e9] at h9
          refine T.iload (pc' := 49) (q_d dX5_countComing_0 28 rfl) rfl rfl ?_
          refine T.aload_n (pc' := 50) (q_d dX5_countComing_0 29 rfl) rfl rfl rfl ?_
          refine T.getR (pc' := 53) (ci := 5) (k0 := 0) (q_d dX5_countComing_0 30 rfl) rfl rfl (by decide) rfl inX5 (by decide) rfl wF_X5_10 (rP hP2 rfl) ?_
          refine T.callV (pc' := 56) (ci := 3) (q_d dX5_countComing_0 31 rfl) rfl uX3_sets wM_X5_184 (c_sets2 (Or.inl rfl) hP2 hs2 hw) rfl rfl (by decide) rfl rfl (by decide) (Nat.le_of_ble_eq_true rfl) rfl rfl (fun _ => rfl) ?_
          rintro _ _ ⟨rfl, rfl⟩
          dsimp only [Option.toList, List.cons_append, List.nil_append, List.append_nil]
          refine T.icmp_geN (tgt := 103) (pc' := 59) (q_d dX5_countComing_0 32 rfl) rfl (by decide) (by omega) (by omega) (fun h56 => ?_) (fun h56 => ?_)
          · exact absurd h56 (by omega)
          · refine T.aload_n (pc' := 60) (q_d dX5_countComing_0 33 rfl) rfl rfl rfl ?_
            refine T.getR (pc' := 63) (ci := 5) (k0 := 12) (q_d dX5_countComing_0 34 rfl) rfl rfl (by decide) rfl inX5 (by decide) rfl wF_X5_56 (rP hP2 rfl) ?_
            refine T.iload (pc' := 65) (q_d dX5_countComing_0 35 rfl) rfl rfl ?_
            refine T.zald (pc' := 66) (q_d dX5_countComing_0 36 rfl) rfl rfl (by decide) rfl (by omega) (by decide) (jc (k + 1) (by omega)) ?_
            refine T.if_eqN (tgt := 97) (pc' := 69) (q_d dX5_countComing_0 37 rfl) rfl (by decide) (by split <;> decide) (fun h66 => ?_) (fun h66 => ?_)
            · refine T.iinc (pc' := 100) (q_d dX5_countComing_1 12 rfl) rfl rfl (nN_p _ 1) (by decide) rfl rfl ?_
              refine T.goto (tgt := 47) (q_d dX5_countComing_1 13 rfl) (by decide) ?_
              by_cases hsn : (cmB s (solN s 0 3 127).1 (solN s 0 3 127).2 (L + 1) k st).1 (k + 1) = true
              · first
                | (rw [if_pos hsn] at h66; exact absurd h66 (by decide))
                | exact hskip (fun q => h78 (hnL.mpr q.2))
                | (have e9 : cmB s (solN s 0 3 127).1 (solN s 0 3 127).2 (L + 1) (k + 1) st = (markN s (k + 1) ((solN s 0 3 127).2 (k + 1)) (cmB s (solN s 0 3 127).1 (solN s 0 3 127).2 (L + 1) k st).1 4, (cmB s (solN s 0 3 127).1 (solN s 0 3 127).2 (L + 1) k st).2 + 1) := by rw [cmB, if_pos ⟨hsn, hnL.mp h78⟩]
                   have h9 := ih2 (k + 1) M3 (by omega) (m1.trans j2) (fun a a1 => (m2 a a1).trans (ja a a1)) (by rw [e9]; exact m3)
                   rw [e9] at h9
                   exact h9)
              · first
                | exact hskip (fun q => hsn q.1)
                | (rw [if_neg hsn] at h66; exact absurd rfl h66)
            · refine T.aload_n (pc' := 70) (q_d dX5_countComing_0 38 rfl) rfl rfl rfl ?_
              refine T.getR (pc' := 73) (ci := 0) (k0 := 0) (q_d dX5_countComing_0 39 rfl) rfl rfl (by decide) rfl inX0 (by decide) rfl wF_X5_171 (rP hP2 rfl) ?_
              refine T.iload (pc' := 75) (q_d dX5_countComing_1 0 rfl) rfl rfl ?_
              refine T.iald (pc' := 76) (q_d dX5_countComing_1 1 rfl) rfl rfl (by decide) rfl (by omega) (by decide) hn1 ?_
              refine T.iload (pc' := 78) (q_d dX5_countComing_1 2 rfl) rfl rfl ?_
              refine T.icmp_neN (tgt := 97) (pc' := 81) (q_d dX5_countComing_1 3 rfl) rfl (by decide) (by omega) (by omega) (fun h78 => ?_) (fun h78 => ?_)
              · refine T.iinc (pc' := 100) (q_d dX5_countComing_1 12 rfl) rfl rfl (nN_p _ 1) (by decide) rfl rfl ?_
                refine T.goto (tgt := 47) (q_d dX5_countComing_1 13 rfl) (by decide) ?_
                by_cases hsn : (cmB s (solN s 0 3 127).1 (solN s 0 3 127).2 (L + 1) k st).1 (k + 1) = true
                · first
                  | (rw [if_pos hsn] at h66; exact absurd h66 (by decide))
                  | exact hskip (fun q => h78 (hnL.mpr q.2))
                  | (have e9 : cmB s (solN s 0 3 127).1 (solN s 0 3 127).2 (L + 1) (k + 1) st = (markN s (k + 1) ((solN s 0 3 127).2 (k + 1)) (cmB s (solN s 0 3 127).1 (solN s 0 3 127).2 (L + 1) k st).1 4, (cmB s (solN s 0 3 127).1 (solN s 0 3 127).2 (L + 1) k st).2 + 1) := by rw [cmB, if_pos ⟨hsn, hnL.mp h78⟩]
                     have h9 := ih2 (k + 1) M3 (by omega) (m1.trans j2) (fun a a1 => (m2 a a1).trans (ja a a1)) (by rw [e9]; exact m3)
                     rw [e9] at h9
                     exact h9)
                · first
                  | exact hskip (fun q => hsn q.1)
                  | (rw [if_neg hsn] at h66; exact absurd rfl h66)
              · refine T.iinc (pc' := 84) (q_d dX5_countComing_1 4 rfl) rfl rfl (nN_p _ 1) (by decide) rfl rfl ?_
                refine T.aload_n (pc' := 85) (q_d dX5_countComing_1 5 rfl) rfl rfl rfl ?_
                refine T.iload (pc' := 87) (q_d dX5_countComing_1 6 rfl) rfl rfl ?_
                refine T.aload_n (pc' := 88) (q_d dX5_countComing_1 7 rfl) rfl rfl rfl ?_
                refine T.getR (pc' := 91) (ci := 0) (k0 := 1) (q_d dX5_countComing_1 8 rfl) rfl rfl (by decide) rfl inX0 (by decide) rfl wF_X5_174 (rP hP2 rfl) ?_
                refine T.iload (pc' := 93) (q_d dX5_countComing_1 9 rfl) rfl rfl ?_
                refine T.iald (pc' := 94) (q_d dX5_countComing_1 10 rfl) rfl rfl (by decide) rfl (by omega) (by decide) hn2 ?_
                refine T.callV (pc' := 97) (ci := 5) (q_d dX5_countComing_1 11 rfl) rfl uX5_markNext wM_X5_262 (c_markNext hP2 hw hT2 (show k + 1 < 2 ^ s 0 by omega) jc) rfl rfl (by decide) rfl rfl (by decide) (Nat.le_of_ble_eq_true rfl) rfl rfl (fun _ => rfl) ?_
                rintro _ M3 ⟨rfl, m1, m2, m3⟩
                dsimp only [Option.toList, List.cons_append, List.nil_append, List.append_nil]
                refine T.iinc (pc' := 100) (q_d dX5_countComing_1 12 rfl) rfl rfl (nN_p _ 1) (by decide) rfl rfl ?_
                refine T.goto (tgt := 47) (q_d dX5_countComing_1 13 rfl) (by decide) ?_
                by_cases hsn : (cmB s (solN s 0 3 127).1 (solN s 0 3 127).2 (L + 1) k st).1 (k + 1) = true
                · first
                  | (rw [if_pos hsn] at h66; exact absurd h66 (by decide))
                  | exact hskip (fun q => h78 (hnL.mpr q.2))
                  | (have e9 : cmB s (solN s 0 3 127).1 (solN s 0 3 127).2 (L + 1) (k + 1) st = (markN s (k + 1) ((solN s 0 3 127).2 (k + 1)) (cmB s (solN s 0 3 127).1 (solN s 0 3 127).2 (L + 1) k st).1 4, (cmB s (solN s 0 3 127).1 (solN s 0 3 127).2 (L + 1) k st).2 + 1) := by rw [cmB, if_pos ⟨hsn, hnL.mp h78⟩]
                     have h9 := ih2 (k + 1) M3 (by omega) (m1.trans j2) (fun a a1 => (m2 a a1).trans (ja a a1)) (by rw [e9]; exact m3)
                     rw [e9] at h9
                     exact h9)
                · first
                  | exact hskip (fun q => hsn q.1)
                  | (rw [if_neg hsn] at h66; exact absurd rfl h66)
      have h1 : 1 ≤ 2 ^ s 0 := Nat.two_pow_pos _
      refine T.iload (pc' := 41) (q_d dX5_countComing_0 24 rfl) rfl rfl ?_
      refine T.if_leN (tgt := 109) (pc' := 44) (q_d dX5_countComing_0 25 rfl) rfl (by decide) (by omega) (fun h41 => ?_) (fun h41 => ?_)
      · exact absurd h41 (by omega)
      · refine T.iconst (pc' := 45) (v := nI 1) (q_d dX5_countComing_0 26 rfl) rfl (by decide) ?_
        refine T.istore (pc' := 47) (q_d dX5_countComing_0 27 rfl) rfl (by decide) rfl rfl ?_
        exact inner (2 ^ s 0 - 1) 0 M' (by omega) h2 ha hcm
  have loop0 : ∀ d k (M' : qM), k + d = 128 → M'.2 = M.2 → (∀ a, a ≠ 38 → M'.1 a = M.1 a) → (∀ y, y < k → M'.1 38 y = 0) →
      T l hdX kX mX5_countComing (fun v M' => v = some (.int (nI (comingN s (solN s 0 3 127).1 (solN s 0 3 127).2 x))) ∧ M'.2 = M.2 ∧ ∀ a, a ≠ 38 → M'.1 a = M.1 a) 0 0 2 [some (.ref 0), some (.ref 29), some (.int (nI x)), some (.int (nI k)), none, none] [] M' := by
    intro d
    induction d with
    | zero =>
      intro k M' hk h2 ha hz
      have hP' : M'.2.2 = pX pa sw := by rw [h2]; exact hP
      have hvx := hv x
      have hn1 : (qI M' 38 x 1).1 30 x = (solN s 0 3 127).1 x := by rw [qI_ne (Or.inl (by decide)), ha 30 (by decide), (hR x (by omega)).1, nc_id hne]
      refine T.iload_n (pc' := 3) (q_d dX5_countComing_0 2 rfl) rfl rfl rfl ?_
      refine T.sipush (pc' := 6) (v := nI 128) (q_d dX5_countComing_0 3 rfl) rfl (by decide) ?_
      refine T.icmp_geN (tgt := 22) (pc' := 9) (q_d dX5_countComing_0 4 rfl) rfl (by decide) (by omega) (by omega) (fun h6 => ?_) (fun h6 => ?_)
      · refine T.aload_n (pc' := 23) (q_d dX5_countComing_0 12 rfl) rfl rfl rfl ?_
        refine T.getR (pc' := 26) (ci := 5) (k0 := 12) (q_d dX5_countComing_0 13 rfl) rfl rfl (by decide) rfl inX5 (by decide) rfl wF_X5_56 (rP hP' rfl) ?_
        refine T.iload_n (pc' := 27) (q_d dX5_countComing_0 14 rfl) rfl rfl rfl ?_
        refine T.iconst (pc' := 28) (v := nI 1) (q_d dX5_countComing_0 15 rfl) rfl (by decide) ?_
        refine T.zast (pc' := 29) (q_d dX5_countComing_0 16 rfl) rfl rfl (by decide) rfl (by omega) (by decide) (by decide) ?_
        refine T.iconst (pc' := 30) (v := nI 0) (q_d dX5_countComing_0 17 rfl) rfl (by decide) ?_
        refine T.istore_n (pc' := 31) (q_d dX5_countComing_0 18 rfl) rfl rfl (by decide) rfl rfl ?_
        refine T.aload_n (pc' := 32) (q_d dX5_countComing_0 19 rfl) rfl rfl rfl ?_
        refine T.getR (pc' := 35) (ci := 0) (k0 := 0) (q_d dX5_countComing_0 20 rfl) rfl rfl (by decide) rfl inX0 (by decide) rfl wF_X5_171 (rP hP' rfl) ?_
        refine T.iload_n (pc' := 36) (q_d dX5_countComing_0 21 rfl) rfl rfl rfl ?_
        refine T.iald (pc' := 37) (q_d dX5_countComing_0 22 rfl) rfl rfl (by decide) rfl (by omega) (by decide) hn1 ?_
        refine T.istore (pc' := 39) (q_d dX5_countComing_0 23 rfl) rfl (by decide) rfl rfl ?_
        refine loopL ((solN s 0 3 127).1 x) (fun y => decide (y = x), 0) _ (by omega) h2 (fun a h9 => ?_) (fun y hy => ?_) rfl
        · funext j; rw [qI_ne (Or.inl h9), ha a h9]
        · by_cases e : y = x
          · subst e; rw [qI_eq]; simp
          · rw [qI_ne (Or.inr e), hz y (by omega)]; simp [e]
      · exact absurd h6 (by omega)
    | succ d ih =>
      intro k M' hk h2 ha hz
      have hP' : M'.2.2 = pX pa sw := by rw [h2]; exact hP
      refine T.iload_n (pc' := 3) (q_d dX5_countComing_0 2 rfl) rfl rfl rfl ?_
      refine T.sipush (pc' := 6) (v := nI 128) (q_d dX5_countComing_0 3 rfl) rfl (by decide) ?_
      refine T.icmp_geN (tgt := 22) (pc' := 9) (q_d dX5_countComing_0 4 rfl) rfl (by decide) (by omega) (by omega) (fun h6 => ?_) (fun h6 => ?_)
      · exact absurd h6 (by omega)
      · refine T.aload_n (pc' := 10) (q_d dX5_countComing_0 5 rfl) rfl rfl rfl ?_
        refine T.getR (pc' := 13) (ci := 5) (k0 := 12) (q_d dX5_countComing_0 6 rfl) rfl rfl (by decide) rfl inX5 (by decide) rfl wF_X5_56 (rP hP' rfl) ?_
        refine T.iload_n (pc' := 14) (q_d dX5_countComing_0 7 rfl) rfl rfl rfl ?_
        refine T.iconst (pc' := 15) (v := nI 0) (q_d dX5_countComing_0 8 rfl) rfl (by decide) ?_
        refine T.zast (pc' := 16) (q_d dX5_countComing_0 9 rfl) rfl rfl (by decide) rfl (by omega) (by decide) (by decide) ?_
        refine T.iinc (pc' := 19) (q_d dX5_countComing_0 10 rfl) rfl rfl (nN_p _ 1) (by decide) rfl rfl ?_
        refine T.goto (tgt := 2) (q_d dX5_countComing_0 11 rfl) (by decide) ?_
        refine ih (k + 1) _ (by omega) h2 (fun a h9 => ?_) (fun y hy => ?_)
        · funext j; rw [qI_ne (Or.inl h9), ha a h9]
        · by_cases e : y = k
          · subst e; exact qI_eq
          · rw [qI_ne (Or.inr e)]; exact hz y (by omega)
  refine T.iconst (pc' := 1) (v := nI 0) (q_d dX5_countComing_0 0 rfl) rfl (by decide) ?_
  refine T.istore_n (pc' := 2) (q_d dX5_countComing_0 1 rfl) rfl rfl (by decide) rfl rfl ?_
  exact loop0 128 0 M (by omega) rfl (fun _ _ => rfl) (fun y hy => absurd hy (by omega))
end CX5B
end
section
/-! BlindHunts: what is done, and what changes the state -/
def sPlace (s : Nat → Nat) (c : Nat) : Nat → Nat := fun j => if j = 0 then s 0 + 1 else if j = 7 + s 0 then c else s j
def pt (i j a : Nat) : Nat := if a = i then 1 <<< j else if a = j then 1 <<< i else 0
def sRoad (s : Nat → Nat) (i j : Nat) : Nat → Nat := fun x => if 14 ≤ x ∧ x < 21 then s x ||| pt i j (x - 14) else if 21 ≤ x ∧ x < 28 then s x ||| pt i j (x - 21) else s x
def sShut (s : Nat → Nat) (i j : Nat) : Nat → Nat := fun x => if 21 ≤ x ∧ x < 28 then s x ^^^ pt i j (x - 21) else s x
def sBelieve (s : Nat → Nat) (u : Nat) : Nat → Nat := fun j => if j = 1 then u else if j = 2 ∨ j = 3 then 0 else s j
def rdN (s : Nat → Nat) (o : Nat) : Nat := sumTo (fun i => ones (s (o + i))) (s 0) / 2
abbrev St := (Nat → Nat) × Nat × (Nat → Nat → Nat) × Nat × (Nat → Nat)
def act (s : Nat → Nat) (k : Nat) (was : Nat → Nat → Nat) (n : Nat) (t : Nat → Nat) (s' : Nat → Nat) : St := (s', pushK k, pushW k was s, n, t)
def oPlace (s : Nat → Nat) (k : Nat) (was : Nat → Nat → Nat) (n : Nat) (t : Nat → Nat) (u : Nat) : Nat × St := if u ≤ 3 then (if s 0 < 7 then (s 0, act s k was n t (sPlace s u)) else (4293967293, (s, k, was, n, t))) else (4293967295, (s, k, was, n, t))
def oRoad (s : Nat → Nat) (k : Nat) (was : Nat → Nat → Nat) (n : Nat) (t : Nat → Nat) (u v : Nat) : Nat × St := if u < s 0 ∧ v < s 0 ∧ u ≠ v then (if s (14 + u) >>> v &&& 1 = 0 then (rdN (sRoad s u v) 14, act s k was n t (sRoad s u v)) else (4293967294, (s, k, was, n, t))) else (4293967295, (s, k, was, n, t))
def oShut (s : Nat → Nat) (k : Nat) (was : Nat → Nat → Nat) (n : Nat) (t : Nat → Nat) (u v w : Nat) : Nat × St := if (u < s 0 ∧ v < s 0 ∧ u ≠ v) ∧ w ≤ 1 then (if s (14 + u) >>> v &&& 1 = 1 ∧ s (21 + u) >>> v &&& 1 = w then (rdN (sShut s u v) 21, act s k was n t (sShut s u v)) else (4293967294, (s, k, was, n, t))) else (4293967295, (s, k, was, n, t))
def oSet (s : Nat → Nat) (k : Nat) (was : Nat → Nat → Nat) (n : Nat) (t : Nat → Nat) (u v : Nat) : Nat × St := if u ≤ 2 ∧ (if u = 2 then 1 ≤ v ∧ v ≤ 2 else v ≤ 3) then (s (4 + u), act s k was n t (up s (4 + u) v)) else (4293967295, (s, k, was, n, t))
def oBelieve (s : Nat → Nat) (k : Nat) (was : Nat → Nat → Nat) (n : Nat) (t : Nat → Nat) (u : Nat) : Nat × St := if u < 2 ^ s 0 then (ones u, act s k was n t (sBelieve s u)) else (4293967295, (s, k, was, n, t))
def oCheck (s : Nat → Nat) (k : Nat) (was : Nat → Nat → Nat) (n : Nat) (t : Nat → Nat) (u v : Nat) : Nat × St := if u < 2 ^ s 0 ∧ v ≤ 3 ∧ ones u ≤ s 6 then (if canR s u v then (ones (thn s (s 1) u v), act s k was n t (sRound s u v)) else (4293967294, (s, k, was, n, t))) else (4293967295, (s, k, was, n, t))
/-- a state of BlindHunts lies in the memory -/
def Ac (b : Nat) (x : St) (M : qM) : Prop := ∃ pa sw, RX M b x.1 x.2.1 x.2.2.1 x.2.2.2.1 x.2.2.2.2 pa sw
def OX (b : Nat) (r : Nat × St) : Option Value → qM → Prop := fun v M' => v = some (.int (nI r.1)) ∧ Ac b r.2 M'
theorem pt_bit {i j a x : Nat} (hij : i ≠ j) : (pt i j a).testBit x = true ↔ (a = i ∧ x = j) ∨ (a = j ∧ x = i) := by
  unfold pt
  split
  · rw [Nat.one_shiftLeft, Nat.testBit_two_pow, decide_eq_true_eq]; omega
  · split
    · rw [Nat.one_shiftLeft, Nat.testBit_two_pow, decide_eq_true_eq]; omega
    · rw [Nat.zero_testBit]; constructor
      · intro h; exact absurd h (by decide)
      · intro h; omega
theorem pt_lt {i j a n : Nat} (hi : i < n) (hj : j < n) : pt i j a < 2 ^ n := by
  unfold pt
  split
  · rw [Nat.one_shiftLeft]; exact Nat.pow_lt_pow_right (by decide) hj
  · split
    · rw [Nat.one_shiftLeft]; exact Nat.pow_lt_pow_right (by decide) hi
    · exact Nat.two_pow_pos _
theorem pt_0 {i j a : Nat} (h1 : a ≠ i) (h2 : a ≠ j) : pt i j a = 0 := by unfold pt; rw [if_neg h1, if_neg h2]
theorem pt_i {i j : Nat} : pt i j i = 1 <<< j := if_pos rfl
theorem pt_j {i j : Nat} (h : i ≠ j) : pt i j j = 1 <<< i := by unfold pt; rw [if_neg (Ne.symm h), if_pos rfl]
theorem sh_bit (a k : Nat) : a >>> k &&& 1 = 0 ↔ a.testBit k = false := by
  have h := bit_iff a k
  have g := and1_01 (a >>> k)
  cases e : a.testBit k <;> rw [e] at h <;> simp at h ⊢ <;> omega
theorem WF.place {b : Nat} {s : Nat → Nat} (h : WF b s) (h7 : s 0 < 7) {c : Nat} (hc : c ≤ 3) : WF b (sPlace s c) := by
  obtain ⟨w0, w1, w2, w4, w5, w6, w7, w14, w21, wz, w3, wy, wu⟩ := h
  have g : ∀ j, j ≠ 0 → j ≠ 7 + s 0 → sPlace s c j = s j := fun j a1 a2 => by unfold sPlace; rw [if_neg a1, if_neg a2]
  have hp : 2 ^ s 0 ≤ 2 ^ (s 0 + 1) := Nat.pow_le_pow_right (by decide) (by omega)
  have e0 : sPlace s c 0 = s 0 + 1 := rfl
  unfold WF
  rw [e0, g 1 (by decide) (by omega), g 2 (by decide) (by omega), g 3 (by decide) (by omega), g 4 (by decide) (by omega), g 5 (by decide) (by omega), g 6 (by decide) (by omega)]
  refine ⟨by omega, by omega, w2, w4, w5, w6, fun i hi => ?_, fun i hi => ?_, fun i hi => ?_, fun i hi hi2 => ?_, w3, fun i j hi hj => ?_, fun i j hi => ?_⟩
  · unfold sPlace
    rw [if_neg (by omega)]
    split
    · exact hc
    · exact w7 i hi
  · rw [g _ (by omega) (by omega)]; have := w14 i hi; omega
  · rw [g _ (by omega) (by omega)]; have := w21 i hi; omega
  · rw [g _ (by omega) (by omega), g _ (by omega) (by omega)]; exact wz i (by omega) hi2
  · rw [g _ (by omega) (by omega), g _ (by omega) (by omega)]; exact wy i j hi hj
  · rw [g _ (by omega) (by omega), g _ (by omega) (by omega)]; exact wu i j hi
theorem RS_place {M : qM} {b : Nat} {s : Nat → Nat} (hs : RS M 1 s) (h7 : s 0 < 7) {c : Nat} : RS (qI (qI M (1 + 1) (s 0) c) 1 0 (s 0 + 1)) 1 (sPlace s c) := by
  obtain ⟨e0, e1, e2, e3, e4, e5, e6, e7⟩ := hs
  have g : ∀ j, j ≠ 0 → j ≠ 7 + s 0 → sPlace s c j = s j := fun j a1 a2 => by unfold sPlace; rw [if_neg a1, if_neg a2]
  refine ⟨qI_eq, ?_, ?_, fun i hi => ?_, fun i hi => ?_, fun i hi => ?_, fun i hi => ?_, fun k hk hk2 => ?_⟩
  · rw [qI_ne (Or.inr (by decide)), qI_ne (Or.inl (by decide)), g _ (by decide) (by omega)]; exact e1
  · rw [qI_ne (Or.inr (by decide)), qI_ne (Or.inl (by decide)), g _ (by decide) (by omega)]; exact e2
  · rw [qI_ne (Or.inl (by decide))]
    by_cases e : i = s 0
    · subst e
      rw [qI_eq]; unfold sPlace; rw [if_neg (by omega), if_pos rfl]
    · rw [qI_ne (Or.inr e), g _ (by omega) (by omega)]; exact e3 i hi
  · rw [qI_ne (Or.inl (by decide)), qI_ne (Or.inl (by decide)), g _ (by omega) (by omega)]; exact e4 i hi
  · rw [qI_ne (Or.inl (by decide)), qI_ne (Or.inl (by decide)), g _ (by omega) (by omega)]; exact e5 i hi
  · rw [qI_ne (Or.inl (by decide)), qI_ne (Or.inl (by decide)), g _ (by omega) (by omega)]; exact e6 i hi
  · have h2 : sPlace s c 2 = s 2 := g 2 (by decide) (by omega)
    rw [h2] at hk2 ⊢
    rw [qI_ne (Or.inl (by decide)), qI_ne (Or.inl (by decide)), qI_ne (Or.inl (by decide)), qI_ne (Or.inl (by decide)), qI_ne (Or.inl (by decide)), qI_ne (Or.inl (by decide)), g _ (by omega) (by omega), g _ (by omega) (by omega), g _ (by omega) (by omega)]
    exact e7 k hk hk2
theorem sRoad_out {s : Nat → Nat} {i j x : Nat} (h : x < 14 ∨ 28 ≤ x) : sRoad s i j x = s x := by unfold sRoad; rw [if_neg (by omega), if_neg (by omega)]
theorem sRoad_14 {s : Nat → Nat} {i j a : Nat} (h : a < 7) : sRoad s i j (14 + a) = s (14 + a) ||| pt i j a := by unfold sRoad; rw [if_pos (by omega), show 14 + a - 14 = a by omega]
theorem sRoad_21 {s : Nat → Nat} {i j a : Nat} (h : a < 7) : sRoad s i j (21 + a) = s (21 + a) ||| pt i j a := by unfold sRoad; rw [if_neg (by omega), if_pos (by omega), show 21 + a - 21 = a by omega]
theorem sShut_out {s : Nat → Nat} {i j x : Nat} (h : x < 21 ∨ 28 ≤ x) : sShut s i j x = s x := by unfold sShut; rw [if_neg (by omega)]
theorem sShut_21 {s : Nat → Nat} {i j a : Nat} (h : a < 7) : sShut s i j (21 + a) = s (21 + a) ^^^ pt i j a := by unfold sShut; rw [if_pos (by omega), show 21 + a - 21 = a by omega]
theorem or_true_iff {a b : Bool} : (a || b) = true ↔ a = true ∨ b = true := by cases a <;> cases b <;> decide
theorem WF.road {b : Nat} {s : Nat → Nat} (h : WF b s) {i j : Nat} (hi : i < s 0) (hj : j < s 0) (hij : i ≠ j) : WF b (sRoad s i j) := by
  obtain ⟨w0, w1, w2, w4, w5, w6, w7, w14, w21, wz, w3, wy, wu⟩ := h
  have o : ∀ x, x < 14 → sRoad s i j x = s x := fun x hx => sRoad_out (Or.inl hx)
  unfold WF
  rw [o 0 (by decide), o 1 (by decide), o 2 (by decide), o 3 (by decide), o 4 (by decide), o 5 (by decide), o 6 (by decide)]
  refine ⟨w0, w1, w2, w4, w5, w6, fun a ha => ?_, fun a ha => ?_, fun a ha => ?_, fun a ha ha2 => ?_, w3, fun a c ha hc => ?_, fun a c ha => ?_⟩
  · rw [o _ (by omega)]; exact w7 a ha
  · rw [sRoad_14 ha]; exact Nat.or_lt_two_pow (w14 a ha) (pt_lt hi hj)
  · rw [sRoad_21 ha]; exact Nat.or_lt_two_pow (w21 a ha) (pt_lt hi hj)
  · rw [sRoad_14 ha2, sRoad_21 ha2, pt_0 (by omega) (by omega), (wz a ha ha2).1, (wz a ha ha2).2]; exact ⟨rfl, rfl⟩
  · rw [sRoad_14 ha, sRoad_14 hc]
    refine Bool.eq_iff_iff.mpr ?_
    rw [Nat.testBit_or, Nat.testBit_or, or_true_iff, or_true_iff, pt_bit hij, pt_bit hij, wy a c ha hc]
    refine or_congr_right ?_
    omega
  · rw [sRoad_14 ha, sRoad_21 ha, Nat.testBit_or, Nat.testBit_or, or_true_iff, or_true_iff]
    exact fun q => q.imp (wu a c ha) id
theorem WF.shut {b : Nat} {s : Nat → Nat} (h : WF b s) {i j : Nat} (hi : i < s 0) (hj : j < s 0) (hij : i ≠ j) (hr : s (14 + i) >>> j &&& 1 = 1) : WF b (sShut s i j) := by
  obtain ⟨w0, w1, w2, w4, w5, w6, w7, w14, w21, wz, w3, wy, wu⟩ := h
  have o : ∀ x, x < 21 → sShut s i j x = s x := fun x hx => sShut_out (Or.inl hx)
  unfold WF
  rw [o 0 (by decide), o 1 (by decide), o 2 (by decide), o 3 (by decide), o 4 (by decide), o 5 (by decide), o 6 (by decide)]
  refine ⟨w0, w1, w2, w4, w5, w6, fun a ha => ?_, fun a ha => ?_, fun a ha => ?_, fun a ha ha2 => ?_, w3, fun a c ha hc => ?_, fun a c ha => ?_⟩
  · rw [o _ (by omega)]; exact w7 a ha
  · rw [o _ (by omega)]; exact w14 a ha
  · rw [sShut_21 ha]; exact Nat.xor_lt_two_pow (w21 a ha) (pt_lt hi hj)
  · rw [o _ (by omega), sShut_21 ha2, pt_0 (by omega) (by omega), (wz a ha ha2).1, (wz a ha ha2).2]; exact ⟨rfl, rfl⟩
  · rw [o _ (by omega), o _ (by omega)]; exact wy a c ha hc
  · rw [o (14 + a) (by omega), sShut_21 ha, Nat.testBit_xor]
    intro q
    by_cases hp : (pt i j a).testBit c = true
    · have hb := (bit_iff _ _).mp hr
      rcases (pt_bit hij).mp hp with ⟨rfl, rfl⟩ | ⟨rfl, rfl⟩
      · exact hb
      · rw [wy _ _ ha (by omega)]; exact hb
    · have : (pt i j a).testBit c = false := by simpa using hp
      rw [this] at q
      exact wu a c ha (by simpa using q)
theorem RS_road {M : qM} {b : Nat} {s : Nat → Nat} (hs : RS M 1 s) (hw : WF b s) {i j : Nat} (hi : i < 7) (hj : j < 7) (hij : i ≠ j) (hr : s (14 + i) >>> j &&& 1 = 0) : RS (qI (qI (qI (qI M (1 + 2) i (M.1 (1 + 2) i ||| 1 <<< j)) (1 + 2) j (M.1 (1 + 2) j ||| 1 <<< i)) (1 + 3) i (M.1 (1 + 3) i ^^^ 1 <<< j)) (1 + 3) j (M.1 (1 + 3) j ^^^ 1 <<< i)) 1 (sRoad s i j) := by
  obtain ⟨e0, e1, e2, e3, e4, e5, e6, e7⟩ := hs
  obtain ⟨w0, w1, w2, w4, w5, w6, w7, w14, w21, wz, w3, wy, wu⟩ := hw
  have o : ∀ x, (x < 14 ∨ 28 ≤ x) → sRoad s i j x = s x := fun x hx => sRoad_out hx
  have b1 : (s (14 + i)).testBit j = false := (sh_bit _ _).mp hr
  have b2 : (s (14 + j)).testBit i = false := by rw [← wy i j hi hj]; exact b1
  have b3 : (s (21 + i)).testBit j = false := by
    cases e : (s (21 + i)).testBit j with
    | false => rfl
    | true => rw [wu i j hi e] at b1; exact absurd b1 (by decide)
  have b4 : (s (21 + j)).testBit i = false := by
    cases e : (s (21 + j)).testBit i with
    | false => rfl
    | true => rw [wu j i hj e] at b2; exact absurd b2 (by decide)
  have xo : ∀ a k, a.testBit k = false → a ^^^ 1 <<< k = a ||| 1 <<< k := fun a k h => by
    refine Nat.eq_of_testBit_eq fun x => ?_
    rw [Nat.testBit_xor, Nat.testBit_or, Nat.one_shiftLeft, Nat.testBit_two_pow]
    by_cases e : k = x
    · subst e; rw [h]; simp
    · simp [e]
  refine ⟨?_, ?_, ?_, fun a ha => ?_, fun a ha => ?_, fun a ha => ?_, fun a ha => ?_, fun k hk hk2 => ?_⟩
  · rw [qI_ne (Or.inl (by decide)), qI_ne (Or.inl (by decide)), qI_ne (Or.inl (by decide)), qI_ne (Or.inl (by decide)), o _ (by omega)]; exact e0
  · rw [qI_ne (Or.inl (by decide)), qI_ne (Or.inl (by decide)), qI_ne (Or.inl (by decide)), qI_ne (Or.inl (by decide)), o _ (by omega)]; exact e1
  · rw [qI_ne (Or.inl (by decide)), qI_ne (Or.inl (by decide)), qI_ne (Or.inl (by decide)), qI_ne (Or.inl (by decide)), o _ (by omega)]; exact e2
  · rw [qI_ne (Or.inl (by decide)), qI_ne (Or.inl (by decide)), qI_ne (Or.inl (by decide)), qI_ne (Or.inl (by decide)), o _ (by omega)]; exact e3 a ha
  · rw [qI_ne (Or.inl (by decide)), qI_ne (Or.inl (by decide)), sRoad_14 ha]
    by_cases hj' : a = j
    · subst hj'; rw [qI_eq, pt_j hij, e4 _ hj]
    · by_cases hi' : a = i
      · subst hi'; rw [qI_ne (Or.inr hj'), qI_eq, pt_i, e4 _ hi]
      · rw [qI_ne (Or.inr hj'), qI_ne (Or.inr hi'), pt_0 hi' hj', Nat.or_zero, e4 a ha]
  · rw [sRoad_21 ha]
    by_cases hj' : a = j
    · subst hj'; rw [qI_eq, pt_j hij, e5 _ hj, xo _ _ b4]
    · by_cases hi' : a = i
      · subst hi'; rw [qI_ne (Or.inr hj'), qI_eq, pt_i, e5 _ hi, xo _ _ b3]
      · rw [qI_ne (Or.inr hj'), qI_ne (Or.inr hi'), qI_ne (Or.inl (by decide)), qI_ne (Or.inl (by decide)), pt_0 hi' hj', Nat.or_zero, e5 a ha]
  · rw [qI_ne (Or.inl (by decide)), qI_ne (Or.inl (by decide)), qI_ne (Or.inl (by decide)), qI_ne (Or.inl (by decide)), o _ (by omega)]; exact e6 a ha
  · have h2 : sRoad s i j 2 = s 2 := o 2 (by decide)
    rw [h2] at hk2 ⊢
    rw [o _ (by omega), o _ (by omega), o _ (by omega)]
    have h9 := e7 k hk hk2
    refine ⟨?_, ?_, ?_⟩
    · rw [qI_ne (Or.inl (by decide)), qI_ne (Or.inl (by decide)), qI_ne (Or.inl (by decide)), qI_ne (Or.inl (by decide))]; exact h9.1
    · rw [qI_ne (Or.inl (by decide)), qI_ne (Or.inl (by decide)), qI_ne (Or.inl (by decide)), qI_ne (Or.inl (by decide))]; exact h9.2.1
    · rw [qI_ne (Or.inl (by decide)), qI_ne (Or.inl (by decide)), qI_ne (Or.inl (by decide)), qI_ne (Or.inl (by decide))]; exact h9.2.2
theorem RS_shut {M : qM} {s : Nat → Nat} (hs : RS M 1 s) {i j : Nat} (hi : i < 7) (hj : j < 7) (hij : i ≠ j) : RS (qI (qI M (1 + 3) i (M.1 (1 + 3) i ^^^ 1 <<< j)) (1 + 3) j (M.1 (1 + 3) j ^^^ 1 <<< i)) 1 (sShut s i j) := by
  obtain ⟨e0, e1, e2, e3, e4, e5, e6, e7⟩ := hs
  have o : ∀ x, (x < 21 ∨ 28 ≤ x) → sShut s i j x = s x := fun x hx => sShut_out hx
  refine ⟨?_, ?_, ?_, fun a ha => ?_, fun a ha => ?_, fun a ha => ?_, fun a ha => ?_, fun k hk hk2 => ?_⟩
  · rw [qI_ne (Or.inl (by decide)), qI_ne (Or.inl (by decide)), o _ (by omega)]; exact e0
  · rw [qI_ne (Or.inl (by decide)), qI_ne (Or.inl (by decide)), o _ (by omega)]; exact e1
  · rw [qI_ne (Or.inl (by decide)), qI_ne (Or.inl (by decide)), o _ (by omega)]; exact e2
  · rw [qI_ne (Or.inl (by decide)), qI_ne (Or.inl (by decide)), o _ (by omega)]; exact e3 a ha
  · rw [qI_ne (Or.inl (by decide)), qI_ne (Or.inl (by decide)), o _ (by omega)]; exact e4 a ha
  · rw [sShut_21 ha]
    by_cases hj' : a = j
    · subst hj'; rw [qI_eq, pt_j hij, e5 _ hj]
    · by_cases hi' : a = i
      · subst hi'; rw [qI_ne (Or.inr hj'), qI_eq, pt_i, e5 _ hi]
      · rw [qI_ne (Or.inr hj'), qI_ne (Or.inr hi'), pt_0 hi' hj', Nat.xor_zero, e5 a ha]
  · rw [qI_ne (Or.inl (by decide)), qI_ne (Or.inl (by decide)), o _ (by omega)]; exact e6 a ha
  · have h2 : sShut s i j 2 = s 2 := o 2 (by decide)
    rw [h2] at hk2 ⊢
    rw [o _ (by omega), o _ (by omega), o _ (by omega)]
    have h9 := e7 k hk hk2
    refine ⟨?_, ?_, ?_⟩
    · rw [qI_ne (Or.inl (by decide)), qI_ne (Or.inl (by decide))]; exact h9.1
    · rw [qI_ne (Or.inl (by decide)), qI_ne (Or.inl (by decide))]; exact h9.2.1
    · rw [qI_ne (Or.inl (by decide)), qI_ne (Or.inl (by decide))]; exact h9.2.2
theorem WF.set {b : Nat} {s : Nat → Nat} (h : WF b s) {u v : Nat} (hu : u ≤ 2) (hv : if u = 2 then 1 ≤ v ∧ v ≤ 2 else v ≤ 3) : WF b (up s (4 + u) v) := by
  obtain ⟨w0, w1, w2, w4, w5, w6, w7, w14, w21, wz, w3, wy, wu⟩ := h
  have o : ∀ x, (x < 4 ∨ 7 ≤ x) → up s (4 + u) v x = s x := fun x hx => up_ne (by omega)
  unfold WF
  rw [o 0 (by decide), o 1 (by decide), o 2 (by decide), o 3 (by decide)]
  refine ⟨w0, w1, w2, ?_, ?_, ?_, fun a ha => ?_, fun a ha => ?_, fun a ha => ?_, fun a ha ha2 => ?_, w3, fun a c ha hc => ?_, fun a c ha => ?_⟩
  · unfold up; split
    · rw [if_neg (by omega)] at hv; exact hv
    · exact w4
  · unfold up; split
    · rw [if_neg (by omega)] at hv; exact hv
    · exact w5
  · unfold up; split
    · rw [if_pos (by omega)] at hv; omega
    · exact w6
  · rw [o _ (by omega)]; exact w7 a ha
  · rw [o _ (by omega)]; exact w14 a ha
  · rw [o _ (by omega)]; exact w21 a ha
  · rw [o _ (by omega), o _ (by omega)]; exact wz a ha ha2
  · rw [o _ (by omega), o _ (by omega)]; exact wy a c ha hc
  · rw [o _ (by omega), o _ (by omega)]; exact wu a c ha
theorem RS_set {M : qM} {s : Nat → Nat} (hs : RS M 1 s) {u v : Nat} (hu : u ≤ 2) : RS (qI M (1 + 4) u v) 1 (up s (4 + u) v) := by
  obtain ⟨e0, e1, e2, e3, e4, e5, e6, e7⟩ := hs
  have o : ∀ x, (x < 4 ∨ 7 ≤ x) → up s (4 + u) v x = s x := fun x hx => up_ne (by omega)
  refine ⟨?_, ?_, ?_, fun a ha => ?_, fun a ha => ?_, fun a ha => ?_, fun a ha => ?_, fun k hk hk2 => ?_⟩
  · rw [qI_ne (Or.inl (by decide)), o _ (by omega)]; exact e0
  · rw [qI_ne (Or.inl (by decide)), o _ (by omega)]; exact e1
  · rw [qI_ne (Or.inl (by decide)), o _ (by omega)]; exact e2
  · rw [qI_ne (Or.inl (by decide)), o _ (by omega)]; exact e3 a ha
  · rw [qI_ne (Or.inl (by decide)), o _ (by omega)]; exact e4 a ha
  · rw [qI_ne (Or.inl (by decide)), o _ (by omega)]; exact e5 a ha
  · by_cases e : a = u
    · subst e; rw [qI_eq, up_eq]
    · rw [qI_ne (Or.inr e), up_ne (by omega)]; exact e6 a ha
  · have h2 : up s (4 + u) v 2 = s 2 := o 2 (by decide)
    rw [h2] at hk2 ⊢
    rw [o _ (by omega), o _ (by omega), o _ (by omega), qI_ne (Or.inl (by decide)), qI_ne (Or.inl (by decide)), qI_ne (Or.inl (by decide))]
    exact e7 k hk hk2
theorem Cy.lbelieve (s : Nat → Nat) (u : Nat) : Cy s (sBelieve s u) := fun j a1 a2 a3 a4 => by unfold sBelieve; rw [if_neg a1, if_neg (by omega)]
theorem WF.believe {b : Nat} {s : Nat → Nat} (h : WF b s) {u : Nat} (hu : u < 2 ^ s 0) : WF b (sBelieve s u) :=
  h.cy (Cy.lbelieve s u) hu (Nat.zero_le _) rfl
theorem RS_believe {M : qM} {s : Nat → Nat} (hs : RS M 1 s) {u : Nat} : RS (qI (qI M 1 5 u) 1 6 0) 1 (sBelieve s u) := by
  obtain ⟨e0, e1, e2, e3, e4, e5, e6, e7⟩ := hs
  have o : ∀ x, x ≠ 1 → x ≠ 2 → x ≠ 3 → sBelieve s u x = s x := fun x a1 a2 a3 => by unfold sBelieve; rw [if_neg a1, if_neg (by omega)]
  refine ⟨?_, ?_, ?_, fun a ha => ?_, fun a ha => ?_, fun a ha => ?_, fun a ha => ?_, fun k hk hk2 => absurd hk2 (Nat.not_lt_zero _)⟩
  · rw [qI_ne (Or.inr (by decide)), qI_ne (Or.inr (by decide)), o _ (by omega) (by omega) (by omega)]; exact e0
  · rw [qI_ne (Or.inr (by decide)), qI_eq]; rfl
  · rw [qI_eq]; rfl
  · rw [qI_ne (Or.inl (by decide)), qI_ne (Or.inl (by decide)), o _ (by omega) (by omega) (by omega)]; exact e3 a ha
  · rw [qI_ne (Or.inl (by decide)), qI_ne (Or.inl (by decide)), o _ (by omega) (by omega) (by omega)]; exact e4 a ha
  · rw [qI_ne (Or.inl (by decide)), qI_ne (Or.inl (by decide)), o _ (by omega) (by omega) (by omega)]; exact e5 a ha
  · rw [qI_ne (Or.inl (by decide)), qI_ne (Or.inl (by decide)), o _ (by omega) (by omega) (by omega)]; exact e6 a ha
section CX5C
variable {l : Launch} {M M' : qM} {b b' : Nat} {s s' : Nat → Nat} {k : Nat} {was : Nat → Nat → Nat} {n : Nat} {t pa : Nat → Nat} {sw : Bool}
theorem RX.now (q : RX M b s k was n t pa sw) (hr : RS M' 1 s') (hw : WF b' s') (hb : b ≤ b') (hf : Fr M M' 1) (ht : Tb M s') : RX M' b' s' k was n t pa sw := by
  obtain ⟨q1, q2, q3, q4, q5, q6, q7, q8, q9, q10⟩ := q
  have h0 := hf.2 0 (Or.inl (by decide))
  refine ⟨by rw [hf.1]; exact q1, q2, hr, hw, by rw [h0]; exact q5, q6, fun i hi => ⟨(q7 i hi).1.mono (fun a a1 a2 => by have := q2.ge (show i < 4 by omega); exact hf.2 a (by omega)), (q7 i hi).2.mono hb⟩, ⟨by rw [hf.2 18 (by decide)]; exact q8.1, fun i hi => by rw [hf.2 19 (by decide)]; exact q8.2 i hi⟩, q9, ht.mono (by rw [h0]; exact ⟨rfl, rfl, rfl⟩) (fun a a1 a2 => hf.2 a (by omega))⟩
theorem RX.le (q : RX M b s k was n t pa sw) (hb : b ≤ b') : RX M b' s k was n t pa sw :=
  q.now q.2.2.1 (q.2.2.2.1.mono hb) hb ⟨rfl, fun _ _ => rfl⟩ q.2.2.2.2.2.2.2.2.2
theorem RX.forget (q : RX M b s k was n t pa sw) : RX (qI (qI (qI M 0 8 0) 0 9 0) 0 10 0) b s k was n t pa sw ∧ ∀ s', Tb (qI (qI (qI M 0 8 0) 0 9 0) 0 10 0) s' := by
  have hT : ∀ s', Tb (qI (qI (qI M 0 8 0) 0 9 0) 0 10 0) s' := by
    intro s'
    have e8 : (qI (qI (qI M 0 8 0) 0 9 0) 0 10 0).1 0 8 = 0 := by rw [qI_ne (Or.inr (by decide)), qI_ne (Or.inr (by decide)), qI_eq]
    have e9 : (qI (qI (qI M 0 8 0) 0 9 0) 0 10 0).1 0 9 = 0 := by rw [qI_ne (Or.inr (by decide)), qI_eq]
    have e10 : (qI (qI (qI M 0 8 0) 0 9 0) 0 10 0).1 0 10 = 0 := qI_eq
    have hr : ∀ a j, a ≠ 0 → (qI (qI (qI M 0 8 0) 0 9 0) 0 10 0).1 a j = M.1 a j := fun a j h => by rw [qI_ne (Or.inl h), qI_ne (Or.inl h), qI_ne (Or.inl h)]
    obtain ⟨t1, t2, t3, t4, t5, t6, t7, t8, t9, t10, t11⟩ := q.2.2.2.2.2.2.2.2.2
    unfold Tb
    rw [e8, e9, e10, hr 29 2 (by decide), hr 29 3 (by decide), hr 32 2 (by decide), hr 32 3 (by decide)]
    exact ⟨by decide, by decide, by decide, fun h => absurd h (by decide), fun h => absurd h (by decide), fun h => absurd h (by decide), t7, t8, t9, t10, fun g hg => (hr _ 0 (by omega)).trans (t11 g hg)⟩
  refine ⟨q.tb ⟨rfl, fun a a1 a2 => ?_, fun j hj => ?_⟩ (hT s), hT⟩
  · funext j; rw [qI_ne (Or.inl a1), qI_ne (Or.inl a1), qI_ne (Or.inl a1)]
  · rw [qI_ne (Or.inr (by omega)), qI_ne (Or.inr (by omega)), qI_ne (Or.inr (by omega))]
theorem c_place (hX : RX M b s k was n t pa sw) {u : Nat} (hu : u < 4294967296) : Ct l hdX kX mX5_place [.ref 0, .int (nI u)] M (OX b (oPlace s k was n t u)) := by
  refine Ct.of [some (.ref 0), some (.int (nI u))] (by decide +kernel) (fun h => absurd h (by decide)) (Nat.le_of_ble_eq_true rfl) rfl ?_
  have e := inS_iff (lo := 0) (hi := 3) hu (by decide) (by decide)
  have w7 := hX.2.2.2.1.1
  by_cases a1 : u ≤ 3
  · have e1 : inS u 0 3 = true := e.mpr ⟨Nat.zero_le _, a1⟩
    by_cases a2 : s 0 < 7
    · have er : oPlace s k was n t u = (s 0, act s k was n t (sPlace s u)) := by unfold oPlace; rw [if_pos a1, if_pos a2]
      refine T.iload_n (pc' := 1) (q_d dX5_place_0 0 rfl) rfl rfl rfl ?_
      refine T.iconst (pc' := 2) (v := nI 0) (q_d dX5_place_0 1 rfl) rfl (by decide) ?_
      refine T.iconst (pc' := 3) (v := nI 3) (q_d dX5_place_0 2 rfl) rfl (by decide) ?_
      refine T.callS (pc' := 6) (q_d dX5_place_0 3 rfl) rfl uX5_isWithin wM_X5_60 (c_isWithin hu (by decide) (hi := 3) (by decide)) rfl rfl (by decide) (Nat.le_of_ble_eq_true rfl) rfl rfl (fun _ => rfl) ?_
      rintro _ _ ⟨rfl, rfl⟩
      dsimp only [Option.toList, List.cons_append, List.nil_append, List.append_nil]
      refine T.if_neN (tgt := 12) (pc' := 9) (q_d dX5_place_0 4 rfl) rfl (by decide) (by split <;> decide) (fun h6 => ?_) (fun h6 => ?_)
      · refine T.aload_n (pc' := 13) (q_d dX5_place_0 7 rfl) rfl rfl rfl ?_
        refine T.getR (pc' := 16) (ci := 5) (k0 := 0) (q_d dX5_place_0 8 rfl) rfl rfl (by decide) rfl inX5 (by decide) rfl wF_X5_10 (rP (P := pX _ sw) (by first | exact hF.1 | exact r1.1 | exact hX.1) rfl) ?_
        refine T.getI (pc' := 19) (ci := 3) (k0 := 0) (q_d dX5_place_0 9 rfl) rfl rfl (by decide) rfl inX3 (by decide) rfl wF_X5_65 hX.2.2.1.1 ?_
        refine T.bipush (pc' := 21) (v := nI 7) (q_d dX5_place_0 10 rfl) rfl (by decide) ?_
        refine T.icmp_ltN (tgt := 27) (pc' := 24) (q_d dX5_place_0 11 rfl) rfl (by decide) (by omega) (by omega) (fun h21 => ?_) (fun h21 => ?_)
        · refine T.aload_n (pc' := 28) (q_d dX5_place_0 14 rfl) rfl rfl rfl ?_
          refine T.callV (pc' := 31) (ci := 5) (q_d dX5_place_0 15 rfl) rfl uX5_record wM_X5_70 (c_record hX) rfl rfl (by decide) rfl rfl (by decide) (Nat.le_of_ble_eq_true rfl) rfl rfl (fun _ => rfl) ?_
          rintro _ M2 ⟨rfl, ⟨pa2, r1⟩, r2, r3, r4⟩
          dsimp only [Option.toList, List.cons_append, List.nil_append, List.append_nil]
          refine T.aload_n (pc' := 32) (q_d dX5_place_0 16 rfl) rfl rfl rfl ?_
          refine T.callV (pc' := 35) (ci := 5) (q_d dX5_place_0 17 rfl) rfl uX5_forgetTables wM_X5_73 c_forgetTables rfl rfl (by decide) rfl rfl (by decide) (Nat.le_of_ble_eq_true rfl) rfl rfl (fun _ => rfl) ?_
          rintro _ _ ⟨rfl, e8⟩
          subst e8
          obtain ⟨hF, hT⟩ := r1.forget
          dsimp only [Option.toList, List.cons_append, List.nil_append, List.append_nil]
          refine T.aload_n (pc' := 36) (q_d dX5_place_0 18 rfl) rfl rfl rfl ?_
          refine T.getR (pc' := 39) (ci := 5) (k0 := 0) (q_d dX5_place_0 19 rfl) rfl rfl (by decide) rfl inX5 (by decide) rfl wF_X5_10 (rP (P := pX _ sw) (by first | exact hF.1 | exact r1.1 | exact hX.1) rfl) ?_
          refine T.iload_n (pc' := 40) (q_d dX5_place_0 20 rfl) rfl rfl rfl ?_
          refine T.callV (pc' := 43) (ci := 3) (q_d dX5_place_0 21 rfl) rfl uX3_addPlace wM_X5_76 (c_addPlace (Or.inl rfl) hF.1 hF.2.2.1 hF.2.2.2.1 a2) rfl rfl (by decide) rfl rfl (by decide) (Nat.le_of_ble_eq_true rfl) rfl rfl (fun _ => rfl) ?_
          rintro _ _ ⟨rfl, rfl⟩
          dsimp only [Option.toList, List.cons_append, List.nil_append, List.append_nil]
          refine T.iret (q_d dX5_place_0 22 rfl) rfl rfl rfl ?_
          rw [er]
          exact ⟨rfl, pa2, sw, hF.now (RS_place (b := b) hF.2.2.1 a2) (hF.2.2.2.1.place a2 a1) (Nat.le_refl _) ⟨rfl, fun a h9 => by funext j; rw [qI_ne (Or.inl (by omega)), qI_ne (Or.inl (by omega))]⟩ (hT _)⟩
        · exact absurd a2 (by omega)
      · exact absurd h6 (by rw [if_pos e1]; decide)
    · have er : oPlace s k was n t u = (4293967293, (s, k, was, n, t)) := by unfold oPlace; rw [if_pos a1, if_neg a2]
      refine T.iload_n (pc' := 1) (q_d dX5_place_0 0 rfl) rfl rfl rfl ?_
      refine T.iconst (pc' := 2) (v := nI 0) (q_d dX5_place_0 1 rfl) rfl (by decide) ?_
      refine T.iconst (pc' := 3) (v := nI 3) (q_d dX5_place_0 2 rfl) rfl (by decide) ?_
      refine T.callS (pc' := 6) (q_d dX5_place_0 3 rfl) rfl uX5_isWithin wM_X5_60 (c_isWithin hu (by decide) (hi := 3) (by decide)) rfl rfl (by decide) (Nat.le_of_ble_eq_true rfl) rfl rfl (fun _ => rfl) ?_
      rintro _ _ ⟨rfl, rfl⟩
      dsimp only [Option.toList, List.cons_append, List.nil_append, List.append_nil]
      refine T.if_neN (tgt := 12) (pc' := 9) (q_d dX5_place_0 4 rfl) rfl (by decide) (by split <;> decide) (fun h6 => ?_) (fun h6 => ?_)
      · refine T.aload_n (pc' := 13) (q_d dX5_place_0 7 rfl) rfl rfl rfl ?_
        refine T.getR (pc' := 16) (ci := 5) (k0 := 0) (q_d dX5_place_0 8 rfl) rfl rfl (by decide) rfl inX5 (by decide) rfl wF_X5_10 (rP hX.1 rfl) ?_
        refine T.getI (pc' := 19) (ci := 3) (k0 := 0) (q_d dX5_place_0 9 rfl) rfl rfl (by decide) rfl inX3 (by decide) rfl wF_X5_65 hX.2.2.1.1 ?_
        refine T.bipush (pc' := 21) (v := nI 7) (q_d dX5_place_0 10 rfl) rfl (by decide) ?_
        refine T.icmp_ltN (tgt := 27) (pc' := 24) (q_d dX5_place_0 11 rfl) rfl (by decide) (by omega) (by omega) (fun h21 => ?_) (fun h21 => ?_)
        · exact absurd h21 a2
        · refine T.ldc (pc' := 26) (v := nI 4293967293) (q_d dX5_place_0 12 rfl) rfl wN_X5_69 ?_
          refine T.iret (q_d dX5_place_0 13 rfl) rfl rfl rfl ?_
          rw [er]
          exact ⟨rfl, pa, sw, hX⟩
      · exact absurd h6 (by rw [if_pos e1]; decide)
  · have e1 : ¬ inS u 0 3 = true := fun q => a1 (e.mp q).2
    have er : oPlace s k was n t u = (4293967295, (s, k, was, n, t)) := by unfold oPlace; rw [if_neg a1]
    refine T.iload_n (pc' := 1) (q_d dX5_place_0 0 rfl) rfl rfl rfl ?_
    refine T.iconst (pc' := 2) (v := nI 0) (q_d dX5_place_0 1 rfl) rfl (by decide) ?_
    refine T.iconst (pc' := 3) (v := nI 3) (q_d dX5_place_0 2 rfl) rfl (by decide) ?_
    refine T.callS (pc' := 6) (q_d dX5_place_0 3 rfl) rfl uX5_isWithin wM_X5_60 (c_isWithin hu (by decide) (hi := 3) (by decide)) rfl rfl (by decide) (Nat.le_of_ble_eq_true rfl) rfl rfl (fun _ => rfl) ?_
    rintro _ _ ⟨rfl, rfl⟩
    dsimp only [Option.toList, List.cons_append, List.nil_append, List.append_nil]
    refine T.if_neN (tgt := 12) (pc' := 9) (q_d dX5_place_0 4 rfl) rfl (by decide) (by split <;> decide) (fun h6 => ?_) (fun h6 => ?_)
    · exact absurd (if_neg e1) h6
    · refine T.ldc (pc' := 11) (v := nI 4293967295) (q_d dX5_place_0 5 rfl) rfl wN_X5_64 ?_
      refine T.iret (q_d dX5_place_0 6 rfl) rfl rfl rfl ?_
      rw [er]
      exact ⟨rfl, pa, sw, hX⟩
theorem road_0 {M : qM} {i j x y : Nat} (hij : i ≠ j) (a : Nat) : (qI (qI M a i x) a j y).1 a i = x := by rw [qI_ne (Or.inr hij), qI_eq]
theorem c_road (hX : RX M b s k was n t pa sw) {u v : Nat} (hu : u < 4294967296) (hv : v < 4294967296) : Ct l hdX kX mX5_road [.ref 0, .int (nI u), .int (nI v)] M (OX b (oRoad s k was n t u v)) := by
  refine Ct.of [some (.ref 0), some (.int (nI u)), some (.int (nI v))] (by decide +kernel) (fun h => absurd h (by decide)) (Nat.le_of_ble_eq_true rfl) rfl ?_
  have w7 := hX.2.2.2.1.1
  have ho : SO 1 := Or.inl rfl
  by_cases a1 : u < s 0 ∧ v < s 0 ∧ u ≠ v
  · have g1 := and1_01 (s (14 + u) >>> v)
    by_cases a2 : s (14 + u) >>> v &&& 1 = 0
    · have er : oRoad s k was n t u v = (rdN (sRoad s u v) 14, act s k was n t (sRoad s u v)) := by unfold oRoad; rw [if_pos a1, if_pos a2]
      refine T.aload_n (pc' := 1) (q_d dX5_road_0 0 rfl) rfl rfl rfl ?_
      refine T.iload_n (pc' := 2) (q_d dX5_road_0 1 rfl) rfl rfl rfl ?_
      refine T.iload_n (pc' := 3) (q_d dX5_road_0 2 rfl) rfl rfl rfl ?_
      refine T.callV (pc' := 6) (ci := 5) (q_d dX5_road_0 3 rfl) rfl uX5_arePlaces wM_X5_80 (c_arePlaces hX.1 hX.2.2.1 hX.2.2.2.1 hu hv) rfl rfl (by decide) rfl rfl (by decide) (Nat.le_of_ble_eq_true rfl) rfl rfl (fun _ => rfl) ?_
      rintro _ _ ⟨rfl, rfl⟩
      dsimp only [Option.toList, List.cons_append, List.nil_append, List.append_nil]
      refine T.if_neN (tgt := 12) (pc' := 9) (q_d dX5_road_0 4 rfl) rfl (by decide) (by split <;> decide) (fun h6 => ?_) (fun h6 => ?_)
      · refine T.aload_n (pc' := 13) (q_d dX5_road_0 7 rfl) rfl rfl rfl ?_
        refine T.getR (pc' := 16) (ci := 5) (k0 := 0) (q_d dX5_road_0 8 rfl) rfl rfl (by decide) rfl inX5 (by decide) rfl wF_X5_10 (rP (P := pX _ sw) (by first | exact hG.1 | exact hF.1 | exact r1.1 | exact hX.1) rfl) ?_
        refine T.iload_n (pc' := 17) (q_d dX5_road_0 9 rfl) rfl rfl rfl ?_
        refine T.iload_n (pc' := 18) (q_d dX5_road_0 10 rfl) rfl rfl rfl ?_
        refine T.callV (pc' := 21) (ci := 3) (q_d dX5_road_0 11 rfl) rfl uX3_hasRoad wM_X5_84 (c_hasRoad ho hX.1 hX.2.2.1 hX.2.2.2.1 (show u < 7 by omega) (show v < 7 by omega)) rfl rfl (by decide) rfl rfl (by decide) (Nat.le_of_ble_eq_true rfl) rfl rfl (fun _ => rfl) ?_
        rintro _ _ ⟨rfl, rfl⟩
        dsimp only [Option.toList, List.cons_append, List.nil_append, List.append_nil]
        refine T.if_eqN (tgt := 27) (pc' := 24) (q_d dX5_road_0 12 rfl) rfl (by decide) (by omega) (fun h21 => ?_) (fun h21 => ?_)
        · refine T.aload_n (pc' := 28) (q_d dX5_road_0 15 rfl) rfl rfl rfl ?_
          refine T.callV (pc' := 31) (ci := 5) (q_d dX5_road_0 16 rfl) rfl uX5_record wM_X5_70 (c_record hX) rfl rfl (by decide) rfl rfl (by decide) (Nat.le_of_ble_eq_true rfl) rfl rfl (fun _ => rfl) ?_
          rintro _ M2 ⟨rfl, ⟨pa2, r1⟩, r2, r3, r4⟩
          dsimp only [Option.toList, List.cons_append, List.nil_append, List.append_nil]
          refine T.aload_n (pc' := 32) (q_d dX5_road_0 17 rfl) rfl rfl rfl ?_
          refine T.callV (pc' := 35) (ci := 5) (q_d dX5_road_0 18 rfl) rfl uX5_forgetTables wM_X5_73 c_forgetTables rfl rfl (by decide) rfl rfl (by decide) (Nat.le_of_ble_eq_true rfl) rfl rfl (fun _ => rfl) ?_
          rintro _ _ ⟨rfl, e8⟩
          subst e8
          obtain ⟨hF, hT⟩ := r1.forget
          dsimp only [Option.toList, List.cons_append, List.nil_append, List.append_nil]
          refine T.aload_n (pc' := 36) (q_d dX5_road_0 19 rfl) rfl rfl rfl ?_
          refine T.getR (pc' := 39) (ci := 5) (k0 := 0) (q_d dX5_road_0 20 rfl) rfl rfl (by decide) rfl inX5 (by decide) rfl wF_X5_10 (rP (P := pX _ sw) (by first | exact hG.1 | exact hF.1 | exact r1.1 | exact hX.1) rfl) ?_
          refine T.iload_n (pc' := 40) (q_d dX5_road_0 21 rfl) rfl rfl rfl ?_
          refine T.iload_n (pc' := 41) (q_d dX5_road_0 22 rfl) rfl rfl rfl ?_
          refine T.callV (pc' := 44) (ci := 3) (q_d dX5_road_0 23 rfl) rfl uX3_addRoad wM_X5_88 (c_addRoad ho hF.1 (show u < 7 by omega) (show v < 7 by omega) a1.2.2) rfl rfl (by decide) rfl rfl (by decide) (Nat.le_of_ble_eq_true rfl) rfl rfl (fun _ => rfl) ?_
          rintro _ M3 ⟨rfl, e9⟩
          have hG : RX M3 b (sRoad s u v) (pushK k) (pushW k was s) n t pa2 sw := by rw [e9]; exact hF.now (RS_road hF.2.2.1 hF.2.2.2.1 (show u < 7 by omega) (show v < 7 by omega) a1.2.2 a2) (hF.2.2.2.1.road a1.1 a1.2.1 a1.2.2) (Nat.le_refl _) ⟨rfl, fun a h9 => by funext j; rw [qI_ne (Or.inl (by omega)), qI_ne (Or.inl (by omega)), qI_ne (Or.inl (by omega)), qI_ne (Or.inl (by omega))]⟩ (hT _)
          dsimp only [Option.toList, List.cons_append, List.nil_append, List.append_nil]
          refine T.aload_n (pc' := 45) (q_d dX5_road_0 24 rfl) rfl rfl rfl ?_
          refine T.getR (pc' := 48) (ci := 5) (k0 := 0) (q_d dX5_road_0 25 rfl) rfl rfl (by decide) rfl inX5 (by decide) rfl wF_X5_10 (rP (P := pX _ sw) (by first | exact hG.1 | exact hF.1 | exact r1.1 | exact hX.1) rfl) ?_
          refine T.aload_n (pc' := 49) (q_d dX5_road_0 26 rfl) rfl rfl rfl ?_
          refine T.getR (pc' := 52) (ci := 5) (k0 := 0) (q_d dX5_road_0 27 rfl) rfl rfl (by decide) rfl inX5 (by decide) rfl wF_X5_10 (rP (P := pX _ sw) (by first | exact hG.1 | exact hF.1 | exact r1.1 | exact hX.1) rfl) ?_
          refine T.getR (pc' := 55) (ci := 3) (k0 := 2) (q_d dX5_road_0 28 rfl) rfl rfl (by decide) rfl inX3 (by decide) rfl wF_X5_91 (rP (P := pX _ sw) (by first | exact hG.1 | exact hF.1 | exact r1.1 | exact hX.1) rfl) ?_
          refine T.callV (pc' := 58) (ci := 3) (q_d dX5_road_0 29 rfl) rfl uX3_countRoads wM_X5_95 (c_countRoads ho hG.2.2.1 hG.2.2.2.1 (SO.a2 ho) (by decide) hG.2.2.1.2.2.2.2.1 (fun i hi => Nat.lt_of_lt_of_le (hG.2.2.2.1.2.2.2.2.2.2.2.1 i hi) (p2_le hG.2.2.2.1.1))) rfl rfl (by decide) rfl rfl (by decide) (Nat.le_of_ble_eq_true rfl) rfl rfl (fun _ => rfl) ?_
          rintro _ _ ⟨rfl, rfl⟩
          dsimp only [Option.toList, List.cons_append, List.nil_append, List.append_nil]
          refine T.iret (q_d dX5_road_0 30 rfl) rfl rfl rfl ?_
          rw [er]
          exact ⟨rfl, pa2, sw, hG⟩
        · exact absurd a2 h21
      · exact absurd h6 (by rw [if_pos a1]; decide)
    · have er : oRoad s k was n t u v = (4293967294, (s, k, was, n, t)) := by unfold oRoad; rw [if_pos a1, if_neg a2]
      refine T.aload_n (pc' := 1) (q_d dX5_road_0 0 rfl) rfl rfl rfl ?_
      refine T.iload_n (pc' := 2) (q_d dX5_road_0 1 rfl) rfl rfl rfl ?_
      refine T.iload_n (pc' := 3) (q_d dX5_road_0 2 rfl) rfl rfl rfl ?_
      refine T.callV (pc' := 6) (ci := 5) (q_d dX5_road_0 3 rfl) rfl uX5_arePlaces wM_X5_80 (c_arePlaces hX.1 hX.2.2.1 hX.2.2.2.1 hu hv) rfl rfl (by decide) rfl rfl (by decide) (Nat.le_of_ble_eq_true rfl) rfl rfl (fun _ => rfl) ?_
      rintro _ _ ⟨rfl, rfl⟩
      dsimp only [Option.toList, List.cons_append, List.nil_append, List.append_nil]
      refine T.if_neN (tgt := 12) (pc' := 9) (q_d dX5_road_0 4 rfl) rfl (by decide) (by split <;> decide) (fun h6 => ?_) (fun h6 => ?_)
      · refine T.aload_n (pc' := 13) (q_d dX5_road_0 7 rfl) rfl rfl rfl ?_
        refine T.getR (pc' := 16) (ci := 5) (k0 := 0) (q_d dX5_road_0 8 rfl) rfl rfl (by decide) rfl inX5 (by decide) rfl wF_X5_10 (rP hX.1 rfl) ?_
        refine T.iload_n (pc' := 17) (q_d dX5_road_0 9 rfl) rfl rfl rfl ?_
        refine T.iload_n (pc' := 18) (q_d dX5_road_0 10 rfl) rfl rfl rfl ?_
        refine T.callV (pc' := 21) (ci := 3) (q_d dX5_road_0 11 rfl) rfl uX3_hasRoad wM_X5_84 (c_hasRoad ho hX.1 hX.2.2.1 hX.2.2.2.1 (show u < 7 by omega) (show v < 7 by omega)) rfl rfl (by decide) rfl rfl (by decide) (Nat.le_of_ble_eq_true rfl) rfl rfl (fun _ => rfl) ?_
        rintro _ _ ⟨rfl, rfl⟩
        dsimp only [Option.toList, List.cons_append, List.nil_append, List.append_nil]
        refine T.if_eqN (tgt := 27) (pc' := 24) (q_d dX5_road_0 12 rfl) rfl (by decide) (by omega) (fun h21 => ?_) (fun h21 => ?_)
        · exact absurd h21 a2
        · refine T.ldc (pc' := 26) (v := nI 4293967294) (q_d dX5_road_0 13 rfl) rfl wN_X5_87 ?_
          refine T.iret (q_d dX5_road_0 14 rfl) rfl rfl rfl ?_
          rw [er]
          exact ⟨rfl, pa, sw, hX⟩
      · exact absurd h6 (by rw [if_pos a1]; decide)
  · have er : oRoad s k was n t u v = (4293967295, (s, k, was, n, t)) := by unfold oRoad; rw [if_neg a1]
    refine T.aload_n (pc' := 1) (q_d dX5_road_0 0 rfl) rfl rfl rfl ?_
    refine T.iload_n (pc' := 2) (q_d dX5_road_0 1 rfl) rfl rfl rfl ?_
    refine T.iload_n (pc' := 3) (q_d dX5_road_0 2 rfl) rfl rfl rfl ?_
    refine T.callV (pc' := 6) (ci := 5) (q_d dX5_road_0 3 rfl) rfl uX5_arePlaces wM_X5_80 (c_arePlaces hX.1 hX.2.2.1 hX.2.2.2.1 hu hv) rfl rfl (by decide) rfl rfl (by decide) (Nat.le_of_ble_eq_true rfl) rfl rfl (fun _ => rfl) ?_
    rintro _ _ ⟨rfl, rfl⟩
    dsimp only [Option.toList, List.cons_append, List.nil_append, List.append_nil]
    refine T.if_neN (tgt := 12) (pc' := 9) (q_d dX5_road_0 4 rfl) rfl (by decide) (by split <;> decide) (fun h6 => ?_) (fun h6 => ?_)
    · exact absurd (if_neg a1) h6
    · refine T.ldc (pc' := 11) (v := nI 4293967295) (q_d dX5_road_0 5 rfl) rfl wN_X5_64 ?_
      refine T.iret (q_d dX5_road_0 6 rfl) rfl rfl rfl ?_
      rw [er]
      exact ⟨rfl, pa, sw, hX⟩
theorem c_shut (hX : RX M b s k was n t pa sw) {u v w : Nat} (hu : u < 4294967296) (hv : v < 4294967296) (hw9 : w < 4294967296) : Ct l hdX kX mX5_shut [.ref 0, .int (nI u), .int (nI v), .int (nI w)] M (OX b (oShut s k was n t u v w)) := by
  refine Ct.of [some (.ref 0), some (.int (nI u)), some (.int (nI v)), some (.int (nI w)), none] (by decide +kernel) (fun h => absurd h (by decide)) (Nat.le_of_ble_eq_true rfl) rfl ?_
  have w7 := hX.2.2.2.1.1
  have ho : SO 1 := Or.inl rfl
  have e := inS_iff (lo := 0) (hi := 1) hw9 (by decide) (by decide)
  by_cases a0 : u < s 0 ∧ v < s 0 ∧ u ≠ v
  · by_cases a1 : w ≤ 1
    · have e1 : inS w 0 1 = true := e.mpr ⟨Nat.zero_le _, a1⟩
      have g1 := and1_01 (s (14 + u) >>> v)
      have g2 := and1_01 (s (21 + u) >>> v)
      by_cases a2 : s (14 + u) >>> v &&& 1 = 1 ∧ s (21 + u) >>> v &&& 1 = w
      · have er : oShut s k was n t u v w = (rdN (sShut s u v) 21, act s k was n t (sShut s u v)) := by unfold oShut; rw [if_pos ⟨a0, a1⟩, if_pos a2]
        refine T.aload_n (pc' := 1) (q_d dX5_shut_0 0 rfl) rfl rfl rfl ?_
        refine T.iload_n (pc' := 2) (q_d dX5_shut_0 1 rfl) rfl rfl rfl ?_
        refine T.iload_n (pc' := 3) (q_d dX5_shut_0 2 rfl) rfl rfl rfl ?_
        refine T.callV (pc' := 6) (ci := 5) (q_d dX5_shut_0 3 rfl) rfl uX5_arePlaces wM_X5_80 (c_arePlaces hX.1 hX.2.2.1 hX.2.2.2.1 hu hv) rfl rfl (by decide) rfl rfl (by decide) (Nat.le_of_ble_eq_true rfl) rfl rfl (fun _ => rfl) ?_
        rintro _ _ ⟨rfl, rfl⟩
        dsimp only [Option.toList, List.cons_append, List.nil_append, List.append_nil]
        refine T.if_eqN (tgt := 18) (pc' := 9) (q_d dX5_shut_0 4 rfl) rfl (by decide) (by split <;> decide) (fun h6 => ?_) (fun h6 => ?_)
        · exact absurd h6 (by rw [if_pos a0]; decide)
        · refine T.iload_n (pc' := 10) (q_d dX5_shut_0 5 rfl) rfl rfl rfl ?_
          refine T.iconst (pc' := 11) (v := nI 0) (q_d dX5_shut_0 6 rfl) rfl (by decide) ?_
          refine T.iconst (pc' := 12) (v := nI 1) (q_d dX5_shut_0 7 rfl) rfl (by decide) ?_
          refine T.callS (pc' := 15) (q_d dX5_shut_0 8 rfl) rfl uX5_isWithin wM_X5_60 (c_isWithin hw9 (by decide) (hi := 1) (by decide)) rfl rfl (by decide) (Nat.le_of_ble_eq_true rfl) rfl rfl (fun _ => rfl) ?_
          rintro _ _ ⟨rfl, rfl⟩
          dsimp only [Option.toList, List.cons_append, List.nil_append, List.append_nil]
          refine T.if_neN (tgt := 21) (pc' := 18) (q_d dX5_shut_0 9 rfl) rfl (by decide) (by split <;> decide) (fun h15 => ?_) (fun h15 => ?_)
          · refine T.aload_n (pc' := 22) (q_d dX5_shut_0 12 rfl) rfl rfl rfl ?_
            refine T.getR (pc' := 25) (ci := 5) (k0 := 0) (q_d dX5_shut_0 13 rfl) rfl rfl (by decide) rfl inX5 (by decide) rfl wF_X5_10 (rP (P := pX _ sw) (by first | exact hG.1 | exact hF.1 | exact r1.1 | exact hX.1) rfl) ?_
            refine T.iload_n (pc' := 26) (q_d dX5_shut_0 14 rfl) rfl rfl rfl ?_
            refine T.iload_n (pc' := 27) (q_d dX5_shut_0 15 rfl) rfl rfl rfl ?_
            refine T.callV (pc' := 30) (ci := 3) (q_d dX5_shut_0 16 rfl) rfl uX3_hasOpenRoad wM_X5_99 (c_hasOpenRoad ho hX.1 hX.2.2.1 hX.2.2.2.1 (show u < 7 by omega) (show v < 7 by omega)) rfl rfl (by decide) rfl rfl (by decide) (Nat.le_of_ble_eq_true rfl) rfl rfl (fun _ => rfl) ?_
            rintro _ _ ⟨rfl, rfl⟩
            dsimp only [Option.toList, List.cons_append, List.nil_append, List.append_nil]
            refine T.if_neN (tgt := 37) (pc' := 33) (q_d dX5_shut_0 17 rfl) rfl (by decide) (by omega) (fun h30 => ?_) (fun h30 => ?_)
            · refine T.iconst (pc' := 38) (v := nI 0) (q_d dX5_shut_0 20 rfl) rfl (by decide) ?_
              refine T.istore (pc' := 40) (q_d dX5_shut_0 21 rfl) rfl (by decide) rfl rfl ?_
              refine T.aload_n (pc' := 41) (q_d dX5_shut_0 22 rfl) rfl rfl rfl ?_
              refine T.getR (pc' := 44) (ci := 5) (k0 := 0) (q_d dX5_shut_0 23 rfl) rfl rfl (by decide) rfl inX5 (by decide) rfl wF_X5_10 (rP (P := pX _ sw) (by first | exact hG.1 | exact hF.1 | exact r1.1 | exact hX.1) rfl) ?_
              refine T.iload_n (pc' := 45) (q_d dX5_shut_0 24 rfl) rfl rfl rfl ?_
              refine T.iload_n (pc' := 46) (q_d dX5_shut_0 25 rfl) rfl rfl rfl ?_
              refine T.callV (pc' := 49) (ci := 3) (q_d dX5_shut_0 26 rfl) rfl uX3_hasRoad wM_X5_84 (c_hasRoad ho hX.1 hX.2.2.1 hX.2.2.2.1 (show u < 7 by omega) (show v < 7 by omega)) rfl rfl (by decide) rfl rfl (by decide) (Nat.le_of_ble_eq_true rfl) rfl rfl (fun _ => rfl) ?_
              rintro _ _ ⟨rfl, rfl⟩
              dsimp only [Option.toList, List.cons_append, List.nil_append, List.append_nil]
              refine T.if_eqN (tgt := 67) (pc' := 52) (q_d dX5_shut_0 27 rfl) rfl (by decide) (by omega) (fun h49 => ?_) (fun h49 => ?_)
              · exact absurd a2.1 (by omega)
              · refine T.iload (pc' := 54) (q_d dX5_shut_0 28 rfl) rfl rfl ?_
                refine T.iload_n (pc' := 55) (q_d dX5_shut_0 29 rfl) rfl rfl rfl ?_
                refine T.iconst (pc' := 56) (v := nI 1) (q_d dX5_shut_0 30 rfl) rfl (by decide) ?_
                refine T.icmp_neN (tgt := 63) (pc' := 59) (q_d dX5_shut_0 31 rfl) rfl (by decide) (by omega) (by omega) (fun h56 => ?_) (fun h56 => ?_)
                · refine T.iconst (pc' := 64) (v := nI 0) (q_d dX5_shut_0 34 rfl) rfl (by decide) ?_
                  refine T.icmp_neN (tgt := 70) (pc' := 67) (q_d dX5_shut_0 35 rfl) rfl (by decide) (by first | omega | decide) (by first | omega | decide) (fun h64 => ?_) (fun h64 => ?_)
                  · refine T.aload_n (pc' := 71) (q_d dX5_shut_0 38 rfl) rfl rfl rfl ?_
                    refine T.callV (pc' := 74) (ci := 5) (q_d dX5_shut_0 39 rfl) rfl uX5_record wM_X5_70 (c_record hX) rfl rfl (by decide) rfl rfl (by decide) (Nat.le_of_ble_eq_true rfl) rfl rfl (fun _ => rfl) ?_
                    rintro _ M2 ⟨rfl, ⟨pa2, r1⟩, r2, r3, r4⟩
                    dsimp only [Option.toList, List.cons_append, List.nil_append, List.append_nil]
                    refine T.aload_n (pc' := 75) (q_d dX5_shut_1 0 rfl) rfl rfl rfl ?_
                    refine T.callV (pc' := 78) (ci := 5) (q_d dX5_shut_1 1 rfl) rfl uX5_forgetTables wM_X5_73 c_forgetTables rfl rfl (by decide) rfl rfl (by decide) (Nat.le_of_ble_eq_true rfl) rfl rfl (fun _ => rfl) ?_
                    rintro _ _ ⟨rfl, e8⟩
                    subst e8
                    obtain ⟨hF, hT⟩ := r1.forget
                    dsimp only [Option.toList, List.cons_append, List.nil_append, List.append_nil]
                    refine T.aload_n (pc' := 79) (q_d dX5_shut_1 2 rfl) rfl rfl rfl ?_
                    refine T.getR (pc' := 82) (ci := 5) (k0 := 0) (q_d dX5_shut_1 3 rfl) rfl rfl (by decide) rfl inX5 (by decide) rfl wF_X5_10 (rP (P := pX _ sw) (by first | exact hG.1 | exact hF.1 | exact r1.1 | exact hX.1) rfl) ?_
                    refine T.iload_n (pc' := 83) (q_d dX5_shut_1 4 rfl) rfl rfl rfl ?_
                    refine T.iload_n (pc' := 84) (q_d dX5_shut_1 5 rfl) rfl rfl rfl ?_
                    refine T.callV (pc' := 87) (ci := 3) (q_d dX5_shut_1 6 rfl) rfl uX3_turnRoad wM_X5_102 (c_turnRoad ho hF.1 (show u < 7 by omega) (show v < 7 by omega) a0.2.2) rfl rfl (by decide) rfl rfl (by decide) (Nat.le_of_ble_eq_true rfl) rfl rfl (fun _ => rfl) ?_
                    rintro _ M3 ⟨rfl, e9⟩
                    have hG : RX M3 b (sShut s u v) (pushK k) (pushW k was s) n t pa2 sw := by rw [e9]; exact hF.now (RS_shut hF.2.2.1 (show u < 7 by omega) (show v < 7 by omega) a0.2.2) (hF.2.2.2.1.shut a0.1 a0.2.1 a0.2.2 a2.1) (Nat.le_refl _) ⟨rfl, fun a h9 => by funext j; rw [qI_ne (Or.inl (by omega)), qI_ne (Or.inl (by omega))]⟩ (hT _)
                    dsimp only [Option.toList, List.cons_append, List.nil_append, List.append_nil]
                    refine T.aload_n (pc' := 88) (q_d dX5_shut_1 7 rfl) rfl rfl rfl ?_
                    refine T.getR (pc' := 91) (ci := 5) (k0 := 0) (q_d dX5_shut_1 8 rfl) rfl rfl (by decide) rfl inX5 (by decide) rfl wF_X5_10 (rP (P := pX _ sw) (by first | exact hG.1 | exact hF.1 | exact r1.1 | exact hX.1) rfl) ?_
                    refine T.aload_n (pc' := 92) (q_d dX5_shut_1 9 rfl) rfl rfl rfl ?_
                    refine T.getR (pc' := 95) (ci := 5) (k0 := 0) (q_d dX5_shut_1 10 rfl) rfl rfl (by decide) rfl inX5 (by decide) rfl wF_X5_10 (rP (P := pX _ sw) (by first | exact hG.1 | exact hF.1 | exact r1.1 | exact hX.1) rfl) ?_
                    refine T.getR (pc' := 98) (ci := 3) (k0 := 3) (q_d dX5_shut_1 11 rfl) rfl rfl (by decide) rfl inX3 (by decide) rfl wF_X5_105 (rP (P := pX _ sw) (by first | exact hG.1 | exact hF.1 | exact r1.1 | exact hX.1) rfl) ?_
                    refine T.callV (pc' := 101) (ci := 3) (q_d dX5_shut_1 12 rfl) rfl uX3_countRoads wM_X5_95 (c_countRoads ho hG.2.2.1 hG.2.2.2.1 (SO.a3 ho) (by decide) hG.2.2.1.2.2.2.2.2.1 (fun i hi => Nat.lt_of_lt_of_le (hG.2.2.2.1.2.2.2.2.2.2.2.2.1 i hi) (p2_le hG.2.2.2.1.1))) rfl rfl (by decide) rfl rfl (by decide) (Nat.le_of_ble_eq_true rfl) rfl rfl (fun _ => rfl) ?_
                    rintro _ _ ⟨rfl, rfl⟩
                    dsimp only [Option.toList, List.cons_append, List.nil_append, List.append_nil]
                    refine T.iret (q_d dX5_shut_1 13 rfl) rfl rfl rfl ?_
                    rw [er]
                    exact ⟨rfl, pa2, sw, hG⟩
                  · exact absurd a2.2 (by omega)
                · refine T.iconst (pc' := 60) (v := nI 1) (q_d dX5_shut_0 32 rfl) rfl (by decide) ?_
                  refine T.goto (tgt := 64) (q_d dX5_shut_0 33 rfl) (by decide) ?_
                  refine T.icmp_neN (tgt := 70) (pc' := 67) (q_d dX5_shut_0 35 rfl) rfl (by decide) (by first | omega | decide) (by first | omega | decide) (fun h64 => ?_) (fun h64 => ?_)
                  · refine T.aload_n (pc' := 71) (q_d dX5_shut_0 38 rfl) rfl rfl rfl ?_
                    refine T.callV (pc' := 74) (ci := 5) (q_d dX5_shut_0 39 rfl) rfl uX5_record wM_X5_70 (c_record hX) rfl rfl (by decide) rfl rfl (by decide) (Nat.le_of_ble_eq_true rfl) rfl rfl (fun _ => rfl) ?_
                    rintro _ M2 ⟨rfl, ⟨pa2, r1⟩, r2, r3, r4⟩
                    dsimp only [Option.toList, List.cons_append, List.nil_append, List.append_nil]
                    refine T.aload_n (pc' := 75) (q_d dX5_shut_1 0 rfl) rfl rfl rfl ?_
                    refine T.callV (pc' := 78) (ci := 5) (q_d dX5_shut_1 1 rfl) rfl uX5_forgetTables wM_X5_73 c_forgetTables rfl rfl (by decide) rfl rfl (by decide) (Nat.le_of_ble_eq_true rfl) rfl rfl (fun _ => rfl) ?_
                    rintro _ _ ⟨rfl, e8⟩
                    subst e8
                    obtain ⟨hF, hT⟩ := r1.forget
                    dsimp only [Option.toList, List.cons_append, List.nil_append, List.append_nil]
                    refine T.aload_n (pc' := 79) (q_d dX5_shut_1 2 rfl) rfl rfl rfl ?_
                    refine T.getR (pc' := 82) (ci := 5) (k0 := 0) (q_d dX5_shut_1 3 rfl) rfl rfl (by decide) rfl inX5 (by decide) rfl wF_X5_10 (rP (P := pX _ sw) (by first | exact hG.1 | exact hF.1 | exact r1.1 | exact hX.1) rfl) ?_
                    refine T.iload_n (pc' := 83) (q_d dX5_shut_1 4 rfl) rfl rfl rfl ?_
                    refine T.iload_n (pc' := 84) (q_d dX5_shut_1 5 rfl) rfl rfl rfl ?_
                    refine T.callV (pc' := 87) (ci := 3) (q_d dX5_shut_1 6 rfl) rfl uX3_turnRoad wM_X5_102 (c_turnRoad ho hF.1 (show u < 7 by omega) (show v < 7 by omega) a0.2.2) rfl rfl (by decide) rfl rfl (by decide) (Nat.le_of_ble_eq_true rfl) rfl rfl (fun _ => rfl) ?_
                    rintro _ M3 ⟨rfl, e9⟩
                    have hG : RX M3 b (sShut s u v) (pushK k) (pushW k was s) n t pa2 sw := by rw [e9]; exact hF.now (RS_shut hF.2.2.1 (show u < 7 by omega) (show v < 7 by omega) a0.2.2) (hF.2.2.2.1.shut a0.1 a0.2.1 a0.2.2 a2.1) (Nat.le_refl _) ⟨rfl, fun a h9 => by funext j; rw [qI_ne (Or.inl (by omega)), qI_ne (Or.inl (by omega))]⟩ (hT _)
                    dsimp only [Option.toList, List.cons_append, List.nil_append, List.append_nil]
                    refine T.aload_n (pc' := 88) (q_d dX5_shut_1 7 rfl) rfl rfl rfl ?_
                    refine T.getR (pc' := 91) (ci := 5) (k0 := 0) (q_d dX5_shut_1 8 rfl) rfl rfl (by decide) rfl inX5 (by decide) rfl wF_X5_10 (rP (P := pX _ sw) (by first | exact hG.1 | exact hF.1 | exact r1.1 | exact hX.1) rfl) ?_
                    refine T.aload_n (pc' := 92) (q_d dX5_shut_1 9 rfl) rfl rfl rfl ?_
                    refine T.getR (pc' := 95) (ci := 5) (k0 := 0) (q_d dX5_shut_1 10 rfl) rfl rfl (by decide) rfl inX5 (by decide) rfl wF_X5_10 (rP (P := pX _ sw) (by first | exact hG.1 | exact hF.1 | exact r1.1 | exact hX.1) rfl) ?_
                    refine T.getR (pc' := 98) (ci := 3) (k0 := 3) (q_d dX5_shut_1 11 rfl) rfl rfl (by decide) rfl inX3 (by decide) rfl wF_X5_105 (rP (P := pX _ sw) (by first | exact hG.1 | exact hF.1 | exact r1.1 | exact hX.1) rfl) ?_
                    refine T.callV (pc' := 101) (ci := 3) (q_d dX5_shut_1 12 rfl) rfl uX3_countRoads wM_X5_95 (c_countRoads ho hG.2.2.1 hG.2.2.2.1 (SO.a3 ho) (by decide) hG.2.2.1.2.2.2.2.2.1 (fun i hi => Nat.lt_of_lt_of_le (hG.2.2.2.1.2.2.2.2.2.2.2.2.1 i hi) (p2_le hG.2.2.2.1.1))) rfl rfl (by decide) rfl rfl (by decide) (Nat.le_of_ble_eq_true rfl) rfl rfl (fun _ => rfl) ?_
                    rintro _ _ ⟨rfl, rfl⟩
                    dsimp only [Option.toList, List.cons_append, List.nil_append, List.append_nil]
                    refine T.iret (q_d dX5_shut_1 13 rfl) rfl rfl rfl ?_
                    rw [er]
                    exact ⟨rfl, pa2, sw, hG⟩
                  · exact absurd a2.2 (by omega)
            · refine T.iconst (pc' := 34) (v := nI 1) (q_d dX5_shut_0 18 rfl) rfl (by decide) ?_
              refine T.goto (tgt := 38) (q_d dX5_shut_0 19 rfl) (by decide) ?_
              refine T.istore (pc' := 40) (q_d dX5_shut_0 21 rfl) rfl (by decide) rfl rfl ?_
              refine T.aload_n (pc' := 41) (q_d dX5_shut_0 22 rfl) rfl rfl rfl ?_
              refine T.getR (pc' := 44) (ci := 5) (k0 := 0) (q_d dX5_shut_0 23 rfl) rfl rfl (by decide) rfl inX5 (by decide) rfl wF_X5_10 (rP (P := pX _ sw) (by first | exact hG.1 | exact hF.1 | exact r1.1 | exact hX.1) rfl) ?_
              refine T.iload_n (pc' := 45) (q_d dX5_shut_0 24 rfl) rfl rfl rfl ?_
              refine T.iload_n (pc' := 46) (q_d dX5_shut_0 25 rfl) rfl rfl rfl ?_
              refine T.callV (pc' := 49) (ci := 3) (q_d dX5_shut_0 26 rfl) rfl uX3_hasRoad wM_X5_84 (c_hasRoad ho hX.1 hX.2.2.1 hX.2.2.2.1 (show u < 7 by omega) (show v < 7 by omega)) rfl rfl (by decide) rfl rfl (by decide) (Nat.le_of_ble_eq_true rfl) rfl rfl (fun _ => rfl) ?_
              rintro _ _ ⟨rfl, rfl⟩
              dsimp only [Option.toList, List.cons_append, List.nil_append, List.append_nil]
              refine T.if_eqN (tgt := 67) (pc' := 52) (q_d dX5_shut_0 27 rfl) rfl (by decide) (by omega) (fun h49 => ?_) (fun h49 => ?_)
              · exact absurd a2.1 (by omega)
              · refine T.iload (pc' := 54) (q_d dX5_shut_0 28 rfl) rfl rfl ?_
                refine T.iload_n (pc' := 55) (q_d dX5_shut_0 29 rfl) rfl rfl rfl ?_
                refine T.iconst (pc' := 56) (v := nI 1) (q_d dX5_shut_0 30 rfl) rfl (by decide) ?_
                refine T.icmp_neN (tgt := 63) (pc' := 59) (q_d dX5_shut_0 31 rfl) rfl (by decide) (by omega) (by omega) (fun h56 => ?_) (fun h56 => ?_)
                · refine T.iconst (pc' := 64) (v := nI 0) (q_d dX5_shut_0 34 rfl) rfl (by decide) ?_
                  refine T.icmp_neN (tgt := 70) (pc' := 67) (q_d dX5_shut_0 35 rfl) rfl (by decide) (by first | omega | decide) (by first | omega | decide) (fun h64 => ?_) (fun h64 => ?_)
                  · refine T.aload_n (pc' := 71) (q_d dX5_shut_0 38 rfl) rfl rfl rfl ?_
                    refine T.callV (pc' := 74) (ci := 5) (q_d dX5_shut_0 39 rfl) rfl uX5_record wM_X5_70 (c_record hX) rfl rfl (by decide) rfl rfl (by decide) (Nat.le_of_ble_eq_true rfl) rfl rfl (fun _ => rfl) ?_
                    rintro _ M2 ⟨rfl, ⟨pa2, r1⟩, r2, r3, r4⟩
                    dsimp only [Option.toList, List.cons_append, List.nil_append, List.append_nil]
                    refine T.aload_n (pc' := 75) (q_d dX5_shut_1 0 rfl) rfl rfl rfl ?_
                    refine T.callV (pc' := 78) (ci := 5) (q_d dX5_shut_1 1 rfl) rfl uX5_forgetTables wM_X5_73 c_forgetTables rfl rfl (by decide) rfl rfl (by decide) (Nat.le_of_ble_eq_true rfl) rfl rfl (fun _ => rfl) ?_
                    rintro _ _ ⟨rfl, e8⟩
                    subst e8
                    obtain ⟨hF, hT⟩ := r1.forget
                    dsimp only [Option.toList, List.cons_append, List.nil_append, List.append_nil]
                    refine T.aload_n (pc' := 79) (q_d dX5_shut_1 2 rfl) rfl rfl rfl ?_
                    refine T.getR (pc' := 82) (ci := 5) (k0 := 0) (q_d dX5_shut_1 3 rfl) rfl rfl (by decide) rfl inX5 (by decide) rfl wF_X5_10 (rP (P := pX _ sw) (by first | exact hG.1 | exact hF.1 | exact r1.1 | exact hX.1) rfl) ?_
                    refine T.iload_n (pc' := 83) (q_d dX5_shut_1 4 rfl) rfl rfl rfl ?_
                    refine T.iload_n (pc' := 84) (q_d dX5_shut_1 5 rfl) rfl rfl rfl ?_
                    refine T.callV (pc' := 87) (ci := 3) (q_d dX5_shut_1 6 rfl) rfl uX3_turnRoad wM_X5_102 (c_turnRoad ho hF.1 (show u < 7 by omega) (show v < 7 by omega) a0.2.2) rfl rfl (by decide) rfl rfl (by decide) (Nat.le_of_ble_eq_true rfl) rfl rfl (fun _ => rfl) ?_
                    rintro _ M3 ⟨rfl, e9⟩
                    have hG : RX M3 b (sShut s u v) (pushK k) (pushW k was s) n t pa2 sw := by rw [e9]; exact hF.now (RS_shut hF.2.2.1 (show u < 7 by omega) (show v < 7 by omega) a0.2.2) (hF.2.2.2.1.shut a0.1 a0.2.1 a0.2.2 a2.1) (Nat.le_refl _) ⟨rfl, fun a h9 => by funext j; rw [qI_ne (Or.inl (by omega)), qI_ne (Or.inl (by omega))]⟩ (hT _)
                    dsimp only [Option.toList, List.cons_append, List.nil_append, List.append_nil]
                    refine T.aload_n (pc' := 88) (q_d dX5_shut_1 7 rfl) rfl rfl rfl ?_
                    refine T.getR (pc' := 91) (ci := 5) (k0 := 0) (q_d dX5_shut_1 8 rfl) rfl rfl (by decide) rfl inX5 (by decide) rfl wF_X5_10 (rP (P := pX _ sw) (by first | exact hG.1 | exact hF.1 | exact r1.1 | exact hX.1) rfl) ?_
                    refine T.aload_n (pc' := 92) (q_d dX5_shut_1 9 rfl) rfl rfl rfl ?_
                    refine T.getR (pc' := 95) (ci := 5) (k0 := 0) (q_d dX5_shut_1 10 rfl) rfl rfl (by decide) rfl inX5 (by decide) rfl wF_X5_10 (rP (P := pX _ sw) (by first | exact hG.1 | exact hF.1 | exact r1.1 | exact hX.1) rfl) ?_
                    refine T.getR (pc' := 98) (ci := 3) (k0 := 3) (q_d dX5_shut_1 11 rfl) rfl rfl (by decide) rfl inX3 (by decide) rfl wF_X5_105 (rP (P := pX _ sw) (by first | exact hG.1 | exact hF.1 | exact r1.1 | exact hX.1) rfl) ?_
                    refine T.callV (pc' := 101) (ci := 3) (q_d dX5_shut_1 12 rfl) rfl uX3_countRoads wM_X5_95 (c_countRoads ho hG.2.2.1 hG.2.2.2.1 (SO.a3 ho) (by decide) hG.2.2.1.2.2.2.2.2.1 (fun i hi => Nat.lt_of_lt_of_le (hG.2.2.2.1.2.2.2.2.2.2.2.2.1 i hi) (p2_le hG.2.2.2.1.1))) rfl rfl (by decide) rfl rfl (by decide) (Nat.le_of_ble_eq_true rfl) rfl rfl (fun _ => rfl) ?_
                    rintro _ _ ⟨rfl, rfl⟩
                    dsimp only [Option.toList, List.cons_append, List.nil_append, List.append_nil]
                    refine T.iret (q_d dX5_shut_1 13 rfl) rfl rfl rfl ?_
                    rw [er]
                    exact ⟨rfl, pa2, sw, hG⟩
                  · exact absurd a2.2 (by omega)
                · refine T.iconst (pc' := 60) (v := nI 1) (q_d dX5_shut_0 32 rfl) rfl (by decide) ?_
                  refine T.goto (tgt := 64) (q_d dX5_shut_0 33 rfl) (by decide) ?_
                  refine T.icmp_neN (tgt := 70) (pc' := 67) (q_d dX5_shut_0 35 rfl) rfl (by decide) (by first | omega | decide) (by first | omega | decide) (fun h64 => ?_) (fun h64 => ?_)
                  · refine T.aload_n (pc' := 71) (q_d dX5_shut_0 38 rfl) rfl rfl rfl ?_
                    refine T.callV (pc' := 74) (ci := 5) (q_d dX5_shut_0 39 rfl) rfl uX5_record wM_X5_70 (c_record hX) rfl rfl (by decide) rfl rfl (by decide) (Nat.le_of_ble_eq_true rfl) rfl rfl (fun _ => rfl) ?_
                    rintro _ M2 ⟨rfl, ⟨pa2, r1⟩, r2, r3, r4⟩
                    dsimp only [Option.toList, List.cons_append, List.nil_append, List.append_nil]
                    refine T.aload_n (pc' := 75) (q_d dX5_shut_1 0 rfl) rfl rfl rfl ?_
                    refine T.callV (pc' := 78) (ci := 5) (q_d dX5_shut_1 1 rfl) rfl uX5_forgetTables wM_X5_73 c_forgetTables rfl rfl (by decide) rfl rfl (by decide) (Nat.le_of_ble_eq_true rfl) rfl rfl (fun _ => rfl) ?_
                    rintro _ _ ⟨rfl, e8⟩
                    subst e8
                    obtain ⟨hF, hT⟩ := r1.forget
                    dsimp only [Option.toList, List.cons_append, List.nil_append, List.append_nil]
                    refine T.aload_n (pc' := 79) (q_d dX5_shut_1 2 rfl) rfl rfl rfl ?_
                    refine T.getR (pc' := 82) (ci := 5) (k0 := 0) (q_d dX5_shut_1 3 rfl) rfl rfl (by decide) rfl inX5 (by decide) rfl wF_X5_10 (rP (P := pX _ sw) (by first | exact hG.1 | exact hF.1 | exact r1.1 | exact hX.1) rfl) ?_
                    refine T.iload_n (pc' := 83) (q_d dX5_shut_1 4 rfl) rfl rfl rfl ?_
                    refine T.iload_n (pc' := 84) (q_d dX5_shut_1 5 rfl) rfl rfl rfl ?_
                    refine T.callV (pc' := 87) (ci := 3) (q_d dX5_shut_1 6 rfl) rfl uX3_turnRoad wM_X5_102 (c_turnRoad ho hF.1 (show u < 7 by omega) (show v < 7 by omega) a0.2.2) rfl rfl (by decide) rfl rfl (by decide) (Nat.le_of_ble_eq_true rfl) rfl rfl (fun _ => rfl) ?_
                    rintro _ M3 ⟨rfl, e9⟩
                    have hG : RX M3 b (sShut s u v) (pushK k) (pushW k was s) n t pa2 sw := by rw [e9]; exact hF.now (RS_shut hF.2.2.1 (show u < 7 by omega) (show v < 7 by omega) a0.2.2) (hF.2.2.2.1.shut a0.1 a0.2.1 a0.2.2 a2.1) (Nat.le_refl _) ⟨rfl, fun a h9 => by funext j; rw [qI_ne (Or.inl (by omega)), qI_ne (Or.inl (by omega))]⟩ (hT _)
                    dsimp only [Option.toList, List.cons_append, List.nil_append, List.append_nil]
                    refine T.aload_n (pc' := 88) (q_d dX5_shut_1 7 rfl) rfl rfl rfl ?_
                    refine T.getR (pc' := 91) (ci := 5) (k0 := 0) (q_d dX5_shut_1 8 rfl) rfl rfl (by decide) rfl inX5 (by decide) rfl wF_X5_10 (rP (P := pX _ sw) (by first | exact hG.1 | exact hF.1 | exact r1.1 | exact hX.1) rfl) ?_
                    refine T.aload_n (pc' := 92) (q_d dX5_shut_1 9 rfl) rfl rfl rfl ?_
                    refine T.getR (pc' := 95) (ci := 5) (k0 := 0) (q_d dX5_shut_1 10 rfl) rfl rfl (by decide) rfl inX5 (by decide) rfl wF_X5_10 (rP (P := pX _ sw) (by first | exact hG.1 | exact hF.1 | exact r1.1 | exact hX.1) rfl) ?_
                    refine T.getR (pc' := 98) (ci := 3) (k0 := 3) (q_d dX5_shut_1 11 rfl) rfl rfl (by decide) rfl inX3 (by decide) rfl wF_X5_105 (rP (P := pX _ sw) (by first | exact hG.1 | exact hF.1 | exact r1.1 | exact hX.1) rfl) ?_
                    refine T.callV (pc' := 101) (ci := 3) (q_d dX5_shut_1 12 rfl) rfl uX3_countRoads wM_X5_95 (c_countRoads ho hG.2.2.1 hG.2.2.2.1 (SO.a3 ho) (by decide) hG.2.2.1.2.2.2.2.2.1 (fun i hi => Nat.lt_of_lt_of_le (hG.2.2.2.1.2.2.2.2.2.2.2.2.1 i hi) (p2_le hG.2.2.2.1.1))) rfl rfl (by decide) rfl rfl (by decide) (Nat.le_of_ble_eq_true rfl) rfl rfl (fun _ => rfl) ?_
                    rintro _ _ ⟨rfl, rfl⟩
                    dsimp only [Option.toList, List.cons_append, List.nil_append, List.append_nil]
                    refine T.iret (q_d dX5_shut_1 13 rfl) rfl rfl rfl ?_
                    rw [er]
                    exact ⟨rfl, pa2, sw, hG⟩
                  · exact absurd a2.2 (by omega)
          · exact absurd h15 (by rw [if_pos e1]; decide)
      · have er : oShut s k was n t u v w = (4293967294, (s, k, was, n, t)) := by unfold oShut; rw [if_pos ⟨a0, a1⟩, if_neg a2]
        refine T.aload_n (pc' := 1) (q_d dX5_shut_0 0 rfl) rfl rfl rfl ?_
        refine T.iload_n (pc' := 2) (q_d dX5_shut_0 1 rfl) rfl rfl rfl ?_
        refine T.iload_n (pc' := 3) (q_d dX5_shut_0 2 rfl) rfl rfl rfl ?_
        refine T.callV (pc' := 6) (ci := 5) (q_d dX5_shut_0 3 rfl) rfl uX5_arePlaces wM_X5_80 (c_arePlaces hX.1 hX.2.2.1 hX.2.2.2.1 hu hv) rfl rfl (by decide) rfl rfl (by decide) (Nat.le_of_ble_eq_true rfl) rfl rfl (fun _ => rfl) ?_
        rintro _ _ ⟨rfl, rfl⟩
        dsimp only [Option.toList, List.cons_append, List.nil_append, List.append_nil]
        refine T.if_eqN (tgt := 18) (pc' := 9) (q_d dX5_shut_0 4 rfl) rfl (by decide) (by split <;> decide) (fun h6 => ?_) (fun h6 => ?_)
        · exact absurd h6 (by rw [if_pos a0]; decide)
        · refine T.iload_n (pc' := 10) (q_d dX5_shut_0 5 rfl) rfl rfl rfl ?_
          refine T.iconst (pc' := 11) (v := nI 0) (q_d dX5_shut_0 6 rfl) rfl (by decide) ?_
          refine T.iconst (pc' := 12) (v := nI 1) (q_d dX5_shut_0 7 rfl) rfl (by decide) ?_
          refine T.callS (pc' := 15) (q_d dX5_shut_0 8 rfl) rfl uX5_isWithin wM_X5_60 (c_isWithin hw9 (by decide) (hi := 1) (by decide)) rfl rfl (by decide) (Nat.le_of_ble_eq_true rfl) rfl rfl (fun _ => rfl) ?_
          rintro _ _ ⟨rfl, rfl⟩
          dsimp only [Option.toList, List.cons_append, List.nil_append, List.append_nil]
          refine T.if_neN (tgt := 21) (pc' := 18) (q_d dX5_shut_0 9 rfl) rfl (by decide) (by split <;> decide) (fun h15 => ?_) (fun h15 => ?_)
          · refine T.aload_n (pc' := 22) (q_d dX5_shut_0 12 rfl) rfl rfl rfl ?_
            refine T.getR (pc' := 25) (ci := 5) (k0 := 0) (q_d dX5_shut_0 13 rfl) rfl rfl (by decide) rfl inX5 (by decide) rfl wF_X5_10 (rP hX.1 rfl) ?_
            refine T.iload_n (pc' := 26) (q_d dX5_shut_0 14 rfl) rfl rfl rfl ?_
            refine T.iload_n (pc' := 27) (q_d dX5_shut_0 15 rfl) rfl rfl rfl ?_
            refine T.callV (pc' := 30) (ci := 3) (q_d dX5_shut_0 16 rfl) rfl uX3_hasOpenRoad wM_X5_99 (c_hasOpenRoad ho hX.1 hX.2.2.1 hX.2.2.2.1 (show u < 7 by omega) (show v < 7 by omega)) rfl rfl (by decide) rfl rfl (by decide) (Nat.le_of_ble_eq_true rfl) rfl rfl (fun _ => rfl) ?_
            rintro _ _ ⟨rfl, rfl⟩
            dsimp only [Option.toList, List.cons_append, List.nil_append, List.append_nil]
            refine T.if_neN (tgt := 37) (pc' := 33) (q_d dX5_shut_0 17 rfl) rfl (by decide) (by omega) (fun h30 => ?_) (fun h30 => ?_)
            · refine T.iconst (pc' := 38) (v := nI 0) (q_d dX5_shut_0 20 rfl) rfl (by decide) ?_
              refine T.istore (pc' := 40) (q_d dX5_shut_0 21 rfl) rfl (by decide) rfl rfl ?_
              refine T.aload_n (pc' := 41) (q_d dX5_shut_0 22 rfl) rfl rfl rfl ?_
              refine T.getR (pc' := 44) (ci := 5) (k0 := 0) (q_d dX5_shut_0 23 rfl) rfl rfl (by decide) rfl inX5 (by decide) rfl wF_X5_10 (rP hX.1 rfl) ?_
              refine T.iload_n (pc' := 45) (q_d dX5_shut_0 24 rfl) rfl rfl rfl ?_
              refine T.iload_n (pc' := 46) (q_d dX5_shut_0 25 rfl) rfl rfl rfl ?_
              refine T.callV (pc' := 49) (ci := 3) (q_d dX5_shut_0 26 rfl) rfl uX3_hasRoad wM_X5_84 (c_hasRoad ho hX.1 hX.2.2.1 hX.2.2.2.1 (show u < 7 by omega) (show v < 7 by omega)) rfl rfl (by decide) rfl rfl (by decide) (Nat.le_of_ble_eq_true rfl) rfl rfl (fun _ => rfl) ?_
              rintro _ _ ⟨rfl, rfl⟩
              dsimp only [Option.toList, List.cons_append, List.nil_append, List.append_nil]
              refine T.if_eqN (tgt := 67) (pc' := 52) (q_d dX5_shut_0 27 rfl) rfl (by decide) (by omega) (fun h49 => ?_) (fun h49 => ?_)
              · refine T.ldc (pc' := 69) (v := nI 4293967294) (q_d dX5_shut_0 36 rfl) rfl wN_X5_87 ?_
                refine T.iret (q_d dX5_shut_0 37 rfl) rfl rfl rfl ?_
                rw [er]
                exact ⟨rfl, pa, sw, hX⟩
              · refine T.iload (pc' := 54) (q_d dX5_shut_0 28 rfl) rfl rfl ?_
                refine T.iload_n (pc' := 55) (q_d dX5_shut_0 29 rfl) rfl rfl rfl ?_
                refine T.iconst (pc' := 56) (v := nI 1) (q_d dX5_shut_0 30 rfl) rfl (by decide) ?_
                refine T.icmp_neN (tgt := 63) (pc' := 59) (q_d dX5_shut_0 31 rfl) rfl (by decide) (by omega) (by omega) (fun h56 => ?_) (fun h56 => ?_)
                · refine T.iconst (pc' := 64) (v := nI 0) (q_d dX5_shut_0 34 rfl) rfl (by decide) ?_
                  refine T.icmp_neN (tgt := 70) (pc' := 67) (q_d dX5_shut_0 35 rfl) rfl (by decide) (by first | omega | decide) (by first | omega | decide) (fun h64 => ?_) (fun h64 => ?_)
                  · exact absurd (show _ ∧ _ from ⟨by omega, by omega⟩) a2
                  · refine T.ldc (pc' := 69) (v := nI 4293967294) (q_d dX5_shut_0 36 rfl) rfl wN_X5_87 ?_
                    refine T.iret (q_d dX5_shut_0 37 rfl) rfl rfl rfl ?_
                    rw [er]
                    exact ⟨rfl, pa, sw, hX⟩
                · refine T.iconst (pc' := 60) (v := nI 1) (q_d dX5_shut_0 32 rfl) rfl (by decide) ?_
                  refine T.goto (tgt := 64) (q_d dX5_shut_0 33 rfl) (by decide) ?_
                  refine T.icmp_neN (tgt := 70) (pc' := 67) (q_d dX5_shut_0 35 rfl) rfl (by decide) (by first | omega | decide) (by first | omega | decide) (fun h64 => ?_) (fun h64 => ?_)
                  · exact absurd (show _ ∧ _ from ⟨by omega, by omega⟩) a2
                  · refine T.ldc (pc' := 69) (v := nI 4293967294) (q_d dX5_shut_0 36 rfl) rfl wN_X5_87 ?_
                    refine T.iret (q_d dX5_shut_0 37 rfl) rfl rfl rfl ?_
                    rw [er]
                    exact ⟨rfl, pa, sw, hX⟩
            · refine T.iconst (pc' := 34) (v := nI 1) (q_d dX5_shut_0 18 rfl) rfl (by decide) ?_
              refine T.goto (tgt := 38) (q_d dX5_shut_0 19 rfl) (by decide) ?_
              refine T.istore (pc' := 40) (q_d dX5_shut_0 21 rfl) rfl (by decide) rfl rfl ?_
              refine T.aload_n (pc' := 41) (q_d dX5_shut_0 22 rfl) rfl rfl rfl ?_
              refine T.getR (pc' := 44) (ci := 5) (k0 := 0) (q_d dX5_shut_0 23 rfl) rfl rfl (by decide) rfl inX5 (by decide) rfl wF_X5_10 (rP hX.1 rfl) ?_
              refine T.iload_n (pc' := 45) (q_d dX5_shut_0 24 rfl) rfl rfl rfl ?_
              refine T.iload_n (pc' := 46) (q_d dX5_shut_0 25 rfl) rfl rfl rfl ?_
              refine T.callV (pc' := 49) (ci := 3) (q_d dX5_shut_0 26 rfl) rfl uX3_hasRoad wM_X5_84 (c_hasRoad ho hX.1 hX.2.2.1 hX.2.2.2.1 (show u < 7 by omega) (show v < 7 by omega)) rfl rfl (by decide) rfl rfl (by decide) (Nat.le_of_ble_eq_true rfl) rfl rfl (fun _ => rfl) ?_
              rintro _ _ ⟨rfl, rfl⟩
              dsimp only [Option.toList, List.cons_append, List.nil_append, List.append_nil]
              refine T.if_eqN (tgt := 67) (pc' := 52) (q_d dX5_shut_0 27 rfl) rfl (by decide) (by omega) (fun h49 => ?_) (fun h49 => ?_)
              · refine T.ldc (pc' := 69) (v := nI 4293967294) (q_d dX5_shut_0 36 rfl) rfl wN_X5_87 ?_
                refine T.iret (q_d dX5_shut_0 37 rfl) rfl rfl rfl ?_
                rw [er]
                exact ⟨rfl, pa, sw, hX⟩
              · refine T.iload (pc' := 54) (q_d dX5_shut_0 28 rfl) rfl rfl ?_
                refine T.iload_n (pc' := 55) (q_d dX5_shut_0 29 rfl) rfl rfl rfl ?_
                refine T.iconst (pc' := 56) (v := nI 1) (q_d dX5_shut_0 30 rfl) rfl (by decide) ?_
                refine T.icmp_neN (tgt := 63) (pc' := 59) (q_d dX5_shut_0 31 rfl) rfl (by decide) (by omega) (by omega) (fun h56 => ?_) (fun h56 => ?_)
                · refine T.iconst (pc' := 64) (v := nI 0) (q_d dX5_shut_0 34 rfl) rfl (by decide) ?_
                  refine T.icmp_neN (tgt := 70) (pc' := 67) (q_d dX5_shut_0 35 rfl) rfl (by decide) (by first | omega | decide) (by first | omega | decide) (fun h64 => ?_) (fun h64 => ?_)
                  · exact absurd (show _ ∧ _ from ⟨by omega, by omega⟩) a2
                  · refine T.ldc (pc' := 69) (v := nI 4293967294) (q_d dX5_shut_0 36 rfl) rfl wN_X5_87 ?_
                    refine T.iret (q_d dX5_shut_0 37 rfl) rfl rfl rfl ?_
                    rw [er]
                    exact ⟨rfl, pa, sw, hX⟩
                · refine T.iconst (pc' := 60) (v := nI 1) (q_d dX5_shut_0 32 rfl) rfl (by decide) ?_
                  refine T.goto (tgt := 64) (q_d dX5_shut_0 33 rfl) (by decide) ?_
                  refine T.icmp_neN (tgt := 70) (pc' := 67) (q_d dX5_shut_0 35 rfl) rfl (by decide) (by first | omega | decide) (by first | omega | decide) (fun h64 => ?_) (fun h64 => ?_)
                  · exact absurd (show _ ∧ _ from ⟨by omega, by omega⟩) a2
                  · refine T.ldc (pc' := 69) (v := nI 4293967294) (q_d dX5_shut_0 36 rfl) rfl wN_X5_87 ?_
                    refine T.iret (q_d dX5_shut_0 37 rfl) rfl rfl rfl ?_
                    rw [er]
                    exact ⟨rfl, pa, sw, hX⟩
          · exact absurd h15 (by rw [if_pos e1]; decide)
    · have e1 : ¬ inS w 0 1 = true := fun q => a1 (e.mp q).2
      have er : oShut s k was n t u v w = (4293967295, (s, k, was, n, t)) := by unfold oShut; rw [if_neg (fun q => a1 q.2)]
      refine T.aload_n (pc' := 1) (q_d dX5_shut_0 0 rfl) rfl rfl rfl ?_
      refine T.iload_n (pc' := 2) (q_d dX5_shut_0 1 rfl) rfl rfl rfl ?_
      refine T.iload_n (pc' := 3) (q_d dX5_shut_0 2 rfl) rfl rfl rfl ?_
      refine T.callV (pc' := 6) (ci := 5) (q_d dX5_shut_0 3 rfl) rfl uX5_arePlaces wM_X5_80 (c_arePlaces hX.1 hX.2.2.1 hX.2.2.2.1 hu hv) rfl rfl (by decide) rfl rfl (by decide) (Nat.le_of_ble_eq_true rfl) rfl rfl (fun _ => rfl) ?_
      rintro _ _ ⟨rfl, rfl⟩
      dsimp only [Option.toList, List.cons_append, List.nil_append, List.append_nil]
      refine T.if_eqN (tgt := 18) (pc' := 9) (q_d dX5_shut_0 4 rfl) rfl (by decide) (by split <;> decide) (fun h6 => ?_) (fun h6 => ?_)
      · exact absurd h6 (by rw [if_pos a0]; decide)
      · refine T.iload_n (pc' := 10) (q_d dX5_shut_0 5 rfl) rfl rfl rfl ?_
        refine T.iconst (pc' := 11) (v := nI 0) (q_d dX5_shut_0 6 rfl) rfl (by decide) ?_
        refine T.iconst (pc' := 12) (v := nI 1) (q_d dX5_shut_0 7 rfl) rfl (by decide) ?_
        refine T.callS (pc' := 15) (q_d dX5_shut_0 8 rfl) rfl uX5_isWithin wM_X5_60 (c_isWithin hw9 (by decide) (hi := 1) (by decide)) rfl rfl (by decide) (Nat.le_of_ble_eq_true rfl) rfl rfl (fun _ => rfl) ?_
        rintro _ _ ⟨rfl, rfl⟩
        dsimp only [Option.toList, List.cons_append, List.nil_append, List.append_nil]
        refine T.if_neN (tgt := 21) (pc' := 18) (q_d dX5_shut_0 9 rfl) rfl (by decide) (by split <;> decide) (fun h15 => ?_) (fun h15 => ?_)
        · exact absurd (if_neg e1) h15
        · refine T.ldc (pc' := 20) (v := nI 4293967295) (q_d dX5_shut_0 10 rfl) rfl wN_X5_64 ?_
          refine T.iret (q_d dX5_shut_0 11 rfl) rfl rfl rfl ?_
          rw [er]
          exact ⟨rfl, pa, sw, hX⟩
  · have er : oShut s k was n t u v w = (4293967295, (s, k, was, n, t)) := by unfold oShut; rw [if_neg (fun q => a0 q.1)]
    refine T.aload_n (pc' := 1) (q_d dX5_shut_0 0 rfl) rfl rfl rfl ?_
    refine T.iload_n (pc' := 2) (q_d dX5_shut_0 1 rfl) rfl rfl rfl ?_
    refine T.iload_n (pc' := 3) (q_d dX5_shut_0 2 rfl) rfl rfl rfl ?_
    refine T.callV (pc' := 6) (ci := 5) (q_d dX5_shut_0 3 rfl) rfl uX5_arePlaces wM_X5_80 (c_arePlaces hX.1 hX.2.2.1 hX.2.2.2.1 hu hv) rfl rfl (by decide) rfl rfl (by decide) (Nat.le_of_ble_eq_true rfl) rfl rfl (fun _ => rfl) ?_
    rintro _ _ ⟨rfl, rfl⟩
    dsimp only [Option.toList, List.cons_append, List.nil_append, List.append_nil]
    refine T.if_eqN (tgt := 18) (pc' := 9) (q_d dX5_shut_0 4 rfl) rfl (by decide) (by split <;> decide) (fun h6 => ?_) (fun h6 => ?_)
    · refine T.ldc (pc' := 20) (v := nI 4293967295) (q_d dX5_shut_0 10 rfl) rfl wN_X5_64 ?_
      refine T.iret (q_d dX5_shut_0 11 rfl) rfl rfl rfl ?_
      rw [er]
      exact ⟨rfl, pa, sw, hX⟩
    · exact absurd (if_neg a0) h6
theorem ite_le1 {p : Prop} [Decidable p] : (if p then (1 : Nat) else 0) ≤ 1 := by split <;> decide
theorem c_set (hX : RX M b s k was n t pa sw) {u v : Nat} (hu : u < 4294967296) (hv : v < 4294967296) : Ct l hdX kX mX5_set [.ref 0, .int (nI u), .int (nI v)] M (OX b (oSet s k was n t u v)) := by
  refine Ct.of [some (.ref 0), some (.int (nI u)), some (.int (nI v)), none] (by decide +kernel) (fun h => absurd h (by decide)) (Nat.le_of_ble_eq_true rfl) rfl ?_
  by_cases a1 : u ≤ 2 ∧ (if u = 2 then 1 ≤ v ∧ v ≤ 2 else v ≤ 3)
  · have er : oSet s k was n t u v = (s (4 + u), act s k was n t (up s (4 + u) v)) := by unfold oSet; rw [if_pos a1]
    refine T.iload_n (pc' := 1) (q_d dX5_set_0 0 rfl) rfl rfl rfl ?_
    refine T.iload_n (pc' := 2) (q_d dX5_set_0 1 rfl) rfl rfl rfl ?_
    refine T.callS (pc' := 5) (q_d dX5_set_0 2 rfl) rfl uX5_isSetting wM_X5_108 (c_isSetting hu hv) rfl rfl (by decide) (Nat.le_of_ble_eq_true rfl) rfl rfl (fun _ => rfl) ?_
    rintro _ _ ⟨rfl, rfl⟩
    dsimp only [Option.toList, List.cons_append, List.nil_append, List.append_nil]
    refine T.if_neN (tgt := 11) (pc' := 8) (q_d dX5_set_0 3 rfl) rfl (by decide) (Nat.lt_of_le_of_lt ite_le1 (by decide)) (fun h5 => ?_) (fun h5 => ?_)
    · refine T.aload_n (pc' := 12) (q_d dX5_set_0 6 rfl) rfl rfl rfl ?_
      refine T.callV (pc' := 15) (ci := 5) (q_d dX5_set_0 7 rfl) rfl uX5_record wM_X5_70 (c_record hX) rfl rfl (by decide) rfl rfl (by decide) (Nat.le_of_ble_eq_true rfl) rfl rfl (fun _ => rfl) ?_
      rintro _ M2 ⟨rfl, ⟨pa2, r1⟩, r2, r3, r4⟩
      dsimp only [Option.toList, List.cons_append, List.nil_append, List.append_nil]
      refine T.aload_n (pc' := 16) (q_d dX5_set_0 8 rfl) rfl rfl rfl ?_
      refine T.callV (pc' := 19) (ci := 5) (q_d dX5_set_0 9 rfl) rfl uX5_forgetTables wM_X5_73 c_forgetTables rfl rfl (by decide) rfl rfl (by decide) (Nat.le_of_ble_eq_true rfl) rfl rfl (fun _ => rfl) ?_
      rintro _ _ ⟨rfl, e8⟩
      subst e8
      obtain ⟨hF, hT⟩ := r1.forget
      dsimp only [Option.toList, List.cons_append, List.nil_append, List.append_nil]
      refine T.aload_n (pc' := 20) (q_d dX5_set_0 10 rfl) rfl rfl rfl ?_
      refine T.getR (pc' := 23) (ci := 5) (k0 := 0) (q_d dX5_set_0 11 rfl) rfl rfl (by decide) rfl inX5 (by decide) rfl wF_X5_10 (rP (P := pX _ sw) (by first | exact hF.1 | exact r1.1 | exact hX.1) rfl) ?_
      refine T.getR (pc' := 26) (ci := 3) (k0 := 4) (q_d dX5_set_0 12 rfl) rfl rfl (by decide) rfl inX3 (by decide) rfl wF_X5_111 (rP (P := pX _ sw) (by first | exact hF.1 | exact r1.1 | exact hX.1) rfl) ?_
      refine T.iload_n (pc' := 27) (q_d dX5_set_0 13 rfl) rfl rfl rfl ?_
      refine T.iald (pc' := 28) (q_d dX5_set_0 14 rfl) rfl rfl (by decide) rfl (by omega) (by decide) (hF.2.2.1.2.2.2.2.2.2.1 u (by omega)) ?_
      refine T.istore_n (pc' := 29) (q_d dX5_set_0 15 rfl) rfl rfl (by decide) rfl rfl ?_
      refine T.aload_n (pc' := 30) (q_d dX5_set_0 16 rfl) rfl rfl rfl ?_
      refine T.getR (pc' := 33) (ci := 5) (k0 := 0) (q_d dX5_set_0 17 rfl) rfl rfl (by decide) rfl inX5 (by decide) rfl wF_X5_10 (rP (P := pX _ sw) (by first | exact hF.1 | exact r1.1 | exact hX.1) rfl) ?_
      refine T.getR (pc' := 36) (ci := 3) (k0 := 4) (q_d dX5_set_0 18 rfl) rfl rfl (by decide) rfl inX3 (by decide) rfl wF_X5_111 (rP (P := pX _ sw) (by first | exact hF.1 | exact r1.1 | exact hX.1) rfl) ?_
      refine T.iload_n (pc' := 37) (q_d dX5_set_0 19 rfl) rfl rfl rfl ?_
      refine T.iload_n (pc' := 38) (q_d dX5_set_0 20 rfl) rfl rfl rfl ?_
      refine T.iast (pc' := 39) (q_d dX5_set_0 21 rfl) rfl rfl (by decide) rfl (by omega) (by decide) ?_
      refine T.iload_n (pc' := 40) (q_d dX5_set_0 22 rfl) rfl rfl rfl ?_
      refine T.iret (q_d dX5_set_0 23 rfl) rfl rfl rfl ?_
      rw [er]
      exact ⟨rfl, pa2, sw, hF.now (RS_set hF.2.2.1 a1.1) (hF.2.2.2.1.set a1.1 a1.2) (Nat.le_refl _) ⟨rfl, fun a h9 => by funext j; rw [qI_ne (Or.inl (by omega))]⟩ (hT _)⟩
    · exact absurd h5 (by rw [if_pos a1]; decide)
  · have er : oSet s k was n t u v = (4293967295, (s, k, was, n, t)) := by unfold oSet; rw [if_neg a1]
    refine T.iload_n (pc' := 1) (q_d dX5_set_0 0 rfl) rfl rfl rfl ?_
    refine T.iload_n (pc' := 2) (q_d dX5_set_0 1 rfl) rfl rfl rfl ?_
    refine T.callS (pc' := 5) (q_d dX5_set_0 2 rfl) rfl uX5_isSetting wM_X5_108 (c_isSetting hu hv) rfl rfl (by decide) (Nat.le_of_ble_eq_true rfl) rfl rfl (fun _ => rfl) ?_
    rintro _ _ ⟨rfl, rfl⟩
    dsimp only [Option.toList, List.cons_append, List.nil_append, List.append_nil]
    refine T.if_neN (tgt := 11) (pc' := 8) (q_d dX5_set_0 3 rfl) rfl (by decide) (Nat.lt_of_le_of_lt ite_le1 (by decide)) (fun h5 => ?_) (fun h5 => ?_)
    · exact absurd (if_neg a1) h5
    · refine T.ldc (pc' := 10) (v := nI 4293967295) (q_d dX5_set_0 4 rfl) rfl wN_X5_64 ?_
      refine T.iret (q_d dX5_set_0 5 rfl) rfl rfl rfl ?_
      rw [er]
      exact ⟨rfl, pa, sw, hX⟩
theorem c_believe (hX : RX M b s k was n t pa sw) {u : Nat} (hu : u < 4294967296) : Ct l hdX kX mX5_believe [.ref 0, .int (nI u)] M (OX b (oBelieve s k was n t u)) := by
  refine Ct.of [some (.ref 0), some (.int (nI u))] (by decide +kernel) (fun h => absurd h (by decide)) (Nat.le_of_ble_eq_true rfl) rfl ?_
  have w0 := p2_le hX.2.2.2.1.1
  by_cases a1 : u < 2 ^ s 0
  · have er : oBelieve s k was n t u = (ones u, act s k was n t (sBelieve s u)) := by unfold oBelieve; rw [if_pos a1]
    refine T.aload_n (pc' := 1) (q_d dX5_believe_0 0 rfl) rfl rfl rfl ?_
    refine T.iload_n (pc' := 2) (q_d dX5_believe_0 1 rfl) rfl rfl rfl ?_
    refine T.callV (pc' := 5) (ci := 5) (q_d dX5_believe_0 2 rfl) rfl uX5_isSet wM_X5_114 (c_isSet hX.1 hX.2.2.1 hX.2.2.2.1 hu) rfl rfl (by decide) rfl rfl (by decide) (Nat.le_of_ble_eq_true rfl) rfl rfl (fun _ => rfl) ?_
    rintro _ _ ⟨rfl, rfl⟩
    dsimp only [Option.toList, List.cons_append, List.nil_append, List.append_nil]
    refine T.if_neN (tgt := 11) (pc' := 8) (q_d dX5_believe_0 3 rfl) rfl (by decide) (by split <;> decide) (fun h5 => ?_) (fun h5 => ?_)
    · refine T.aload_n (pc' := 12) (q_d dX5_believe_0 6 rfl) rfl rfl rfl ?_
      refine T.callV (pc' := 15) (ci := 5) (q_d dX5_believe_0 7 rfl) rfl uX5_record wM_X5_70 (c_record hX) rfl rfl (by decide) rfl rfl (by decide) (Nat.le_of_ble_eq_true rfl) rfl rfl (fun _ => rfl) ?_
      rintro _ M2 ⟨rfl, ⟨pa2, r1⟩, r2, r3, r4⟩
      dsimp only [Option.toList, List.cons_append, List.nil_append, List.append_nil]
      refine T.aload_n (pc' := 16) (q_d dX5_believe_0 8 rfl) rfl rfl rfl ?_
      refine T.getR (pc' := 19) (ci := 5) (k0 := 0) (q_d dX5_believe_0 9 rfl) rfl rfl (by decide) rfl inX5 (by decide) rfl wF_X5_10 (rP (P := pX _ sw) (by first | exact r1.1 | exact hX.1) rfl) ?_
      refine T.iload_n (pc' := 20) (q_d dX5_believe_0 10 rfl) rfl rfl rfl ?_
      refine T.putI (pc' := 23) (ci := 3) (k0 := 5) (q_d dX5_believe_0 11 rfl) rfl rfl (by decide) rfl inX3 tyX3 tyX3_ok nmX3 (by decide) rfl wF_X5_118 rfl rfl rfl ?_
      refine T.aload_n (pc' := 24) (q_d dX5_believe_0 12 rfl) rfl rfl rfl ?_
      refine T.getR (pc' := 27) (ci := 5) (k0 := 0) (q_d dX5_believe_0 13 rfl) rfl rfl (by decide) rfl inX5 (by decide) rfl wF_X5_10 (rP (P := pX _ sw) (by first | exact r1.1 | exact hX.1) rfl) ?_
      refine T.iconst (pc' := 28) (v := nI 0) (q_d dX5_believe_0 14 rfl) rfl (by decide) ?_
      refine T.putI (pc' := 31) (ci := 3) (k0 := 6) (q_d dX5_believe_0 15 rfl) rfl rfl (by decide) rfl inX3 tyX3 tyX3_ok nmX3 (by decide) rfl wF_X5_121 rfl rfl rfl ?_
      refine T.iload_n (pc' := 32) (q_d dX5_believe_0 16 rfl) rfl rfl rfl ?_
      refine T.callS (pc' := 35) (q_d dX5_believe_0 17 rfl) rfl uJ6_bitCount_0f7a4 wM_X5_124 (c_bitCount (show u < 128 by omega)) rfl rfl (by decide) (Nat.le_of_ble_eq_true rfl) rfl rfl (fun _ => rfl) ?_
      rintro _ _ ⟨rfl, rfl⟩
      dsimp only [Option.toList, List.cons_append, List.nil_append, List.append_nil]
      refine T.iret (q_d dX5_believe_0 18 rfl) rfl rfl rfl ?_
      rw [er]
      exact ⟨rfl, pa2, sw, r1.now (RS_believe r1.2.2.1) (r1.2.2.2.1.believe a1) (Nat.le_refl _) ⟨rfl, fun a h9 => by funext j; rw [qI_ne (Or.inl (by omega)), qI_ne (Or.inl (by omega))]⟩ ((Cy.lbelieve s u).lTb r1.2.2.2.1.1 r1.2.2.2.2.2.2.2.2.2)⟩
    · exact absurd h5 (by rw [if_pos a1]; decide)
  · have er : oBelieve s k was n t u = (4293967295, (s, k, was, n, t)) := by unfold oBelieve; rw [if_neg a1]
    refine T.aload_n (pc' := 1) (q_d dX5_believe_0 0 rfl) rfl rfl rfl ?_
    refine T.iload_n (pc' := 2) (q_d dX5_believe_0 1 rfl) rfl rfl rfl ?_
    refine T.callV (pc' := 5) (ci := 5) (q_d dX5_believe_0 2 rfl) rfl uX5_isSet wM_X5_114 (c_isSet hX.1 hX.2.2.1 hX.2.2.2.1 hu) rfl rfl (by decide) rfl rfl (by decide) (Nat.le_of_ble_eq_true rfl) rfl rfl (fun _ => rfl) ?_
    rintro _ _ ⟨rfl, rfl⟩
    dsimp only [Option.toList, List.cons_append, List.nil_append, List.append_nil]
    refine T.if_neN (tgt := 11) (pc' := 8) (q_d dX5_believe_0 3 rfl) rfl (by decide) (by split <;> decide) (fun h5 => ?_) (fun h5 => ?_)
    · exact absurd (if_neg a1) h5
    · refine T.ldc (pc' := 10) (v := nI 4293967295) (q_d dX5_believe_0 4 rfl) rfl wN_X5_64 ?_
      refine T.iret (q_d dX5_believe_0 5 rfl) rfl rfl rfl ?_
      rw [er]
      exact ⟨rfl, pa, sw, hX⟩
theorem c_check (hX : RX M b s k was n t pa sw) {u v : Nat} (hu : u < 4294967296) (hv : v < 4294967296) : Ct l hdX kX mX5_check [.ref 0, .int (nI u), .int (nI v)] M (OX (b + 1) (oCheck s k was n t u v)) := by
  refine Ct.of [some (.ref 0), some (.int (nI u)), some (.int (nI v)), none] (by decide +kernel) (fun h => absurd h (by decide)) (Nat.le_of_ble_eq_true rfl) rfl ?_
  have w0 := p2_le hX.2.2.2.1.1
  have w6 := hX.2.2.2.1.2.2.2.2.2.1
  have ho : SO 1 := Or.inl rfl
  have o1 := ones_le u
  have e := inS_iff (lo := 0) (hi := 3) hv (by decide) (by decide)
  have h6 : M.1 (1 + 4) 2 = s 6 := hX.2.2.1.2.2.2.2.2.2.1 2 (by decide)
  by_cases a1 : u < 2 ^ s 0 ∧ v ≤ 3 ∧ ones u ≤ s 6
  · have e1 : inS v 0 3 = true := e.mpr ⟨Nat.zero_le _, a1.2.1⟩
    have o2 := ones_le (thn s (s 1) u v)
    have t2 := thn_lt (s := s) (b := s 1) (c := u) (g := v) hX.2.2.2.1.1
    refine T.aload_n (pc' := 1) (q_d dX5_check_0 0 rfl) rfl rfl rfl ?_
    refine T.iload_n (pc' := 2) (q_d dX5_check_0 1 rfl) rfl rfl rfl ?_
    refine T.callV (pc' := 5) (ci := 5) (q_d dX5_check_0 2 rfl) rfl uX5_isSet wM_X5_114 (c_isSet hX.1 hX.2.2.1 hX.2.2.2.1 hu) rfl rfl (by decide) rfl rfl (by decide) (Nat.le_of_ble_eq_true rfl) rfl rfl (fun _ => rfl) ?_
    rintro _ _ ⟨rfl, rfl⟩
    dsimp only [Option.toList, List.cons_append, List.nil_append, List.append_nil]
    refine T.if_eqN (tgt := 17) (pc' := 8) (q_d dX5_check_0 3 rfl) rfl (by decide) (by split <;> decide) (fun h5 => ?_) (fun h5 => ?_)
    · exact absurd h5 (by rw [if_pos a1.1]; decide)
    · refine T.iload_n (pc' := 9) (q_d dX5_check_0 4 rfl) rfl rfl rfl ?_
      refine T.iconst (pc' := 10) (v := nI 0) (q_d dX5_check_0 5 rfl) rfl (by decide) ?_
      refine T.iconst (pc' := 11) (v := nI 3) (q_d dX5_check_0 6 rfl) rfl (by decide) ?_
      refine T.callS (pc' := 14) (q_d dX5_check_0 7 rfl) rfl uX5_isWithin wM_X5_60 (c_isWithin hv (by decide) (hi := 3) (by decide)) rfl rfl (by decide) (Nat.le_of_ble_eq_true rfl) rfl rfl (fun _ => rfl) ?_
      rintro _ _ ⟨rfl, rfl⟩
      dsimp only [Option.toList, List.cons_append, List.nil_append, List.append_nil]
      refine T.if_neN (tgt := 20) (pc' := 17) (q_d dX5_check_0 8 rfl) rfl (by decide) (by split <;> decide) (fun h14 => ?_) (fun h14 => ?_)
      · refine T.iload_n (pc' := 21) (q_d dX5_check_0 11 rfl) rfl rfl rfl ?_
        refine T.callS (pc' := 24) (q_d dX5_check_0 12 rfl) rfl uJ6_bitCount_0f7a4 wM_X5_124 (c_bitCount (show u < 128 by omega)) rfl rfl (by decide) (Nat.le_of_ble_eq_true rfl) rfl rfl (fun _ => rfl) ?_
        rintro _ _ ⟨rfl, rfl⟩
        dsimp only [Option.toList, List.cons_append, List.nil_append, List.append_nil]
        refine T.aload_n (pc' := 25) (q_d dX5_check_0 13 rfl) rfl rfl rfl ?_
        refine T.getR (pc' := 28) (ci := 5) (k0 := 0) (q_d dX5_check_0 14 rfl) rfl rfl (by decide) rfl inX5 (by decide) rfl wF_X5_10 (rP (P := pX _ sw) (by first | exact hG.1 | exact r1.1 | exact hXb.1 | exact hX.1) rfl) ?_
        refine T.getR (pc' := 31) (ci := 3) (k0 := 4) (q_d dX5_check_0 15 rfl) rfl rfl (by decide) rfl inX3 (by decide) rfl wF_X5_111 (rP (P := pX _ sw) (by first | exact hG.1 | exact r1.1 | exact hXb.1 | exact hX.1) rfl) ?_
        refine T.iconst (pc' := 32) (v := nI 2) (q_d dX5_check_0 16 rfl) rfl (by decide) ?_
        refine T.iald (pc' := 33) (q_d dX5_check_0 17 rfl) rfl rfl (by decide) rfl (by omega) (by decide) h6 ?_
        refine T.icmp_leN (tgt := 39) (pc' := 36) (q_d dX5_check_0 18 rfl) rfl (by decide) (by omega) (by omega) (fun h33 => ?_) (fun h33 => ?_)
        · refine T.aload_n (pc' := 40) (q_d dX5_check_0 21 rfl) rfl rfl rfl ?_
          refine T.callV (pc' := 43) (ci := 5) (q_d dX5_check_0 22 rfl) rfl uX5_standingMoves wM_X5_129 (c_standingMoves hX) rfl rfl (by decide) rfl rfl (by decide) (Nat.le_of_ble_eq_true rfl) rfl rfl (fun _ => rfl) ?_
          rintro _ M2 ⟨rfl, e8, e9, e10, f28, fT, hTb⟩
          have hXb := hX.tb fT hTb
          dsimp only [Option.toList, List.cons_append, List.nil_append, List.append_nil]
          refine T.astore_n (pc' := 44) (q_d dX5_check_0 23 rfl) rfl rfl (by decide) rfl rfl ?_
          refine T.aload_n (pc' := 45) (q_d dX5_check_0 24 rfl) rfl rfl rfl ?_
          refine T.getR (pc' := 48) (ci := 5) (k0 := 0) (q_d dX5_check_0 25 rfl) rfl rfl (by decide) rfl inX5 (by decide) rfl wF_X5_10 (rP (P := pX _ sw) (by first | exact hG.1 | exact r1.1 | exact hXb.1 | exact hX.1) rfl) ?_
          refine T.aload_n (pc' := 49) (q_d dX5_check_0 26 rfl) rfl rfl rfl ?_
          refine T.iload_n (pc' := 50) (q_d dX5_check_0 27 rfl) rfl rfl rfl ?_
          refine T.iload_n (pc' := 51) (q_d dX5_check_0 28 rfl) rfl rfl rfl ?_
          refine T.callV (pc' := 54) (ci := 3) (q_d dX5_check_0 29 rfl) rfl uX3_canBeRound wM_X5_133 (c_canBeRound ho hXb.1 hXb.2.2.1 hXb.2.2.2.1 (hTb.2.2.2.1 e8) (show v < 4 by omega)) rfl rfl (by decide) rfl rfl (by decide) (Nat.le_of_ble_eq_true rfl) rfl rfl (fun _ => rfl) ?_
          rintro v51 _ ⟨rfl, hc⟩
          obtain ⟨cv, rfl, cl, hc⟩ := or_num hc
          dsimp only [Option.toList, List.cons_append, List.nil_append, List.append_nil]
          refine T.if_neN (tgt := 60) (pc' := 57) (q_d dX5_check_0 30 rfl) rfl (by decide) (by omega) (fun h54 => ?_) (fun h54 => ?_)
          · have hcd : canR s u v := by
              rcases hc with ⟨-, q⟩ | ⟨q, -⟩
              · exact q
              · exact absurd q h54
            refine T.aload_n (pc' := 61) (q_d dX5_check_0 33 rfl) rfl rfl rfl ?_
            refine T.callV (pc' := 64) (ci := 5) (q_d dX5_check_0 34 rfl) rfl uX5_record wM_X5_70 (c_record hXb) rfl rfl (by decide) rfl rfl (by decide) (Nat.le_of_ble_eq_true rfl) rfl rfl (fun _ => rfl) ?_
            rintro _ M3 ⟨rfl, ⟨pa2, r1⟩, r2, r3, r4⟩
            dsimp only [Option.toList, List.cons_append, List.nil_append, List.append_nil]
            have hT3 : RT M3 s := (hTb.2.2.2.1 e8).mono (fun a a1 a2 => r3 a (by omega) (by omega))
            refine T.aload_n (pc' := 65) (q_d dX5_check_0 35 rfl) rfl rfl rfl ?_
            refine T.getR (pc' := 68) (ci := 5) (k0 := 0) (q_d dX5_check_0 36 rfl) rfl rfl (by decide) rfl inX5 (by decide) rfl wF_X5_10 (rP (P := pX _ sw) (by first | exact hG.1 | exact r1.1 | exact hXb.1 | exact hX.1) rfl) ?_
            refine T.aload_n (pc' := 69) (q_d dX5_check_0 37 rfl) rfl rfl rfl ?_
            refine T.iload_n (pc' := 70) (q_d dX5_check_0 38 rfl) rfl rfl rfl ?_
            refine T.iload_n (pc' := 71) (q_d dX5_check_0 39 rfl) rfl rfl rfl ?_
            refine T.callV (pc' := 74) (ci := 3) (q_d dX5_check_1 0 rfl) rfl uX3_addRound wM_X5_137 (c_addRound ho r1.1 r1.2.2.1 r1.2.2.2.1 (hT3) (show v < 4 by omega)) rfl rfl (by decide) rfl rfl (by decide) (Nat.le_of_ble_eq_true rfl) rfl rfl (fun _ => rfl) ?_
            rintro _ M4 ⟨rfl, e9⟩
            have hG : RX M4 (b + 1) (sRound s u v) (pushK k) (pushW k was s) n t pa2 sw := by rw [e9]; exact r1.now (RS_round r1.2.2.1 r1.2.2.2.1) (r1.2.2.2.1.round hcd) (by omega) ⟨rfl, fun a h9 => by funext j; rw [qI_ne (Or.inl (by omega)), qI_ne (Or.inl (by omega)), qI_ne (Or.inl (by omega)), qI_ne (Or.inl (by omega)), qI_ne (Or.inl (by omega))]⟩ ((Cy.lround s u v).lTb r1.2.2.2.1.1 r1.2.2.2.2.2.2.2.2.2)
            dsimp only [Option.toList, List.cons_append, List.nil_append, List.append_nil]
            refine T.aload_n (pc' := 75) (q_d dX5_check_1 1 rfl) rfl rfl rfl ?_
            refine T.getR (pc' := 78) (ci := 5) (k0 := 0) (q_d dX5_check_1 2 rfl) rfl rfl (by decide) rfl inX5 (by decide) rfl wF_X5_10 (rP (P := pX _ sw) (by first | exact hG.1 | exact r1.1 | exact hXb.1 | exact hX.1) rfl) ?_
            refine T.getI (pc' := 81) (ci := 3) (k0 := 5) (q_d dX5_check_1 3 rfl) rfl rfl (by decide) rfl inX3 (by decide) rfl wF_X5_118 (show M4.1 1 5 = thn s (s 1) u v from hG.2.2.1.2.1) ?_
            refine T.callS (pc' := 84) (q_d dX5_check_1 4 rfl) rfl uJ6_bitCount_0f7a4 wM_X5_124 (c_bitCount (show thn s (s 1) u v < 128 by omega)) rfl rfl (by decide) (Nat.le_of_ble_eq_true rfl) rfl rfl (fun _ => rfl) ?_
            rintro _ _ ⟨rfl, rfl⟩
            dsimp only [Option.toList, List.cons_append, List.nil_append, List.append_nil]
            refine T.iret (q_d dX5_check_1 5 rfl) rfl rfl rfl ?_
            have er : oCheck s k was n t u v = (ones (thn s (s 1) u v), act s k was n t (sRound s u v)) := by unfold oCheck; rw [if_pos a1, if_pos hcd]
            rw [er]
            exact ⟨rfl, pa2, sw, hG⟩
          · refine T.ldc (pc' := 59) (v := nI 4293967294) (q_d dX5_check_0 31 rfl) rfl wN_X5_87 ?_
            refine T.iret (q_d dX5_check_0 32 rfl) rfl rfl rfl ?_
            have hcd : ¬ canR s u v := by
              rcases hc with ⟨q, -⟩ | ⟨-, q⟩
              · exact absurd h54 (by omega)
              · exact q
            have er : oCheck s k was n t u v = (4293967294, (s, k, was, n, t)) := by unfold oCheck; rw [if_pos a1, if_neg hcd]
            rw [er]
            exact ⟨rfl, pa, sw, hXb.le (Nat.le_succ _)⟩
        · exact absurd a1.2.2 (by omega)
      · exact absurd h14 (by rw [if_pos e1]; decide)
  · have er : oCheck s k was n t u v = (4293967295, (s, k, was, n, t)) := by unfold oCheck; rw [if_neg a1]
    have fin : OX (b + 1) (oCheck s k was n t u v) (some (.int (nI 4293967295))) M := by rw [er]; exact ⟨rfl, pa, sw, hX.le (Nat.le_succ _)⟩
    by_cases a2 : u < 2 ^ s 0
    · by_cases a3 : v ≤ 3
      · have e1 : inS v 0 3 = true := e.mpr ⟨Nat.zero_le _, a3⟩
        refine T.aload_n (pc' := 1) (q_d dX5_check_0 0 rfl) rfl rfl rfl ?_
        refine T.iload_n (pc' := 2) (q_d dX5_check_0 1 rfl) rfl rfl rfl ?_
        refine T.callV (pc' := 5) (ci := 5) (q_d dX5_check_0 2 rfl) rfl uX5_isSet wM_X5_114 (c_isSet hX.1 hX.2.2.1 hX.2.2.2.1 hu) rfl rfl (by decide) rfl rfl (by decide) (Nat.le_of_ble_eq_true rfl) rfl rfl (fun _ => rfl) ?_
        rintro _ _ ⟨rfl, rfl⟩
        dsimp only [Option.toList, List.cons_append, List.nil_append, List.append_nil]
        refine T.if_eqN (tgt := 17) (pc' := 8) (q_d dX5_check_0 3 rfl) rfl (by decide) (by split <;> decide) (fun h5 => ?_) (fun h5 => ?_)
        · exact absurd h5 (by rw [if_pos a2]; decide)
        · refine T.iload_n (pc' := 9) (q_d dX5_check_0 4 rfl) rfl rfl rfl ?_
          refine T.iconst (pc' := 10) (v := nI 0) (q_d dX5_check_0 5 rfl) rfl (by decide) ?_
          refine T.iconst (pc' := 11) (v := nI 3) (q_d dX5_check_0 6 rfl) rfl (by decide) ?_
          refine T.callS (pc' := 14) (q_d dX5_check_0 7 rfl) rfl uX5_isWithin wM_X5_60 (c_isWithin hv (by decide) (hi := 3) (by decide)) rfl rfl (by decide) (Nat.le_of_ble_eq_true rfl) rfl rfl (fun _ => rfl) ?_
          rintro _ _ ⟨rfl, rfl⟩
          dsimp only [Option.toList, List.cons_append, List.nil_append, List.append_nil]
          refine T.if_neN (tgt := 20) (pc' := 17) (q_d dX5_check_0 8 rfl) rfl (by decide) (by split <;> decide) (fun h14 => ?_) (fun h14 => ?_)
          · refine T.iload_n (pc' := 21) (q_d dX5_check_0 11 rfl) rfl rfl rfl ?_
            refine T.callS (pc' := 24) (q_d dX5_check_0 12 rfl) rfl uJ6_bitCount_0f7a4 wM_X5_124 (c_bitCount (show u < 128 by omega)) rfl rfl (by decide) (Nat.le_of_ble_eq_true rfl) rfl rfl (fun _ => rfl) ?_
            rintro _ _ ⟨rfl, rfl⟩
            dsimp only [Option.toList, List.cons_append, List.nil_append, List.append_nil]
            refine T.aload_n (pc' := 25) (q_d dX5_check_0 13 rfl) rfl rfl rfl ?_
            refine T.getR (pc' := 28) (ci := 5) (k0 := 0) (q_d dX5_check_0 14 rfl) rfl rfl (by decide) rfl inX5 (by decide) rfl wF_X5_10 (rP hX.1 rfl) ?_
            refine T.getR (pc' := 31) (ci := 3) (k0 := 4) (q_d dX5_check_0 15 rfl) rfl rfl (by decide) rfl inX3 (by decide) rfl wF_X5_111 (rP hX.1 rfl) ?_
            refine T.iconst (pc' := 32) (v := nI 2) (q_d dX5_check_0 16 rfl) rfl (by decide) ?_
            refine T.iald (pc' := 33) (q_d dX5_check_0 17 rfl) rfl rfl (by decide) rfl (by omega) (by decide) h6 ?_
            refine T.icmp_leN (tgt := 39) (pc' := 36) (q_d dX5_check_0 18 rfl) rfl (by decide) (by omega) (by omega) (fun h33 => ?_) (fun h33 => ?_)
            · exact absurd ⟨a2, a3, by omega⟩ a1
            · refine T.ldc (pc' := 38) (v := nI 4293967295) (q_d dX5_check_0 19 rfl) rfl wN_X5_64 ?_
              refine T.iret (q_d dX5_check_0 20 rfl) rfl rfl rfl ?_
              exact fin
          · exact absurd h14 (by rw [if_pos e1]; decide)
      · have e1 : ¬ inS v 0 3 = true := fun q => a3 (e.mp q).2
        refine T.aload_n (pc' := 1) (q_d dX5_check_0 0 rfl) rfl rfl rfl ?_
        refine T.iload_n (pc' := 2) (q_d dX5_check_0 1 rfl) rfl rfl rfl ?_
        refine T.callV (pc' := 5) (ci := 5) (q_d dX5_check_0 2 rfl) rfl uX5_isSet wM_X5_114 (c_isSet hX.1 hX.2.2.1 hX.2.2.2.1 hu) rfl rfl (by decide) rfl rfl (by decide) (Nat.le_of_ble_eq_true rfl) rfl rfl (fun _ => rfl) ?_
        rintro _ _ ⟨rfl, rfl⟩
        dsimp only [Option.toList, List.cons_append, List.nil_append, List.append_nil]
        refine T.if_eqN (tgt := 17) (pc' := 8) (q_d dX5_check_0 3 rfl) rfl (by decide) (by split <;> decide) (fun h5 => ?_) (fun h5 => ?_)
        · exact absurd h5 (by rw [if_pos a2]; decide)
        · refine T.iload_n (pc' := 9) (q_d dX5_check_0 4 rfl) rfl rfl rfl ?_
          refine T.iconst (pc' := 10) (v := nI 0) (q_d dX5_check_0 5 rfl) rfl (by decide) ?_
          refine T.iconst (pc' := 11) (v := nI 3) (q_d dX5_check_0 6 rfl) rfl (by decide) ?_
          refine T.callS (pc' := 14) (q_d dX5_check_0 7 rfl) rfl uX5_isWithin wM_X5_60 (c_isWithin hv (by decide) (hi := 3) (by decide)) rfl rfl (by decide) (Nat.le_of_ble_eq_true rfl) rfl rfl (fun _ => rfl) ?_
          rintro _ _ ⟨rfl, rfl⟩
          dsimp only [Option.toList, List.cons_append, List.nil_append, List.append_nil]
          refine T.if_neN (tgt := 20) (pc' := 17) (q_d dX5_check_0 8 rfl) rfl (by decide) (by split <;> decide) (fun h14 => ?_) (fun h14 => ?_)
          · exact absurd (if_neg e1) h14
          · refine T.ldc (pc' := 19) (v := nI 4293967295) (q_d dX5_check_0 9 rfl) rfl wN_X5_64 ?_
            refine T.iret (q_d dX5_check_0 10 rfl) rfl rfl rfl ?_
            exact fin
    · refine T.aload_n (pc' := 1) (q_d dX5_check_0 0 rfl) rfl rfl rfl ?_
      refine T.iload_n (pc' := 2) (q_d dX5_check_0 1 rfl) rfl rfl rfl ?_
      refine T.callV (pc' := 5) (ci := 5) (q_d dX5_check_0 2 rfl) rfl uX5_isSet wM_X5_114 (c_isSet hX.1 hX.2.2.1 hX.2.2.2.1 hu) rfl rfl (by decide) rfl rfl (by decide) (Nat.le_of_ble_eq_true rfl) rfl rfl (fun _ => rfl) ?_
      rintro _ _ ⟨rfl, rfl⟩
      dsimp only [Option.toList, List.cons_append, List.nil_append, List.append_nil]
      refine T.if_eqN (tgt := 17) (pc' := 8) (q_d dX5_check_0 3 rfl) rfl (by decide) (by split <;> decide) (fun h5 => ?_) (fun h5 => ?_)
      · refine T.ldc (pc' := 19) (v := nI 4293967295) (q_d dX5_check_0 9 rfl) rfl wN_X5_64 ?_
        refine T.iret (q_d dX5_check_0 10 rfl) rfl rfl rfl ?_
        exact fin
      · exact absurd (if_neg a2) h5
end CX5C
end
section
/-! BlindHunts: what is told -/
def qPlaceOf (s : Nat → Nat) (u v : Nat) : Nat := if u < s 0 then (if v = 0 then s (7 + u) else if v = 1 then s (14 + u) else if v = 2 then s (21 + u) else if v = 3 then goes s u 0 else if v = 4 then s 1 >>> u &&& 1 else 4293967295) else 4293967295
def qBehind (s : Nat → Nat) (u v w : Nat) : Nat := if (u < 2 ^ s 0 ∧ v < 2 ^ s 0) ∧ (w = 4294967295 ∨ w ≤ 3) then thn s u v (if w = 4294967295 then 4 else w) else 4293967295
def qSure (s : Nat → Nat) (u v : Nat) : Nat := if u < 2 ^ s 0 ∧ v ≤ 1 then (if (solN s 0 3 127).1 u = 1000 then 4293967292 else if v = 0 then (solN s 0 3 127).1 u else (solN s 0 3 127).2 u) else 4293967295
def qDeaf (s : Nat → Nat) (u : Nat) : Nat := if u < 2 ^ s 0 then (if (solN s 4 4 127).1 u = 1000 then 4293967292 else (solN s 4 4 127).1 u) else 4293967295
def qMemory (s : Nat → Nat) (u : Nat) : Nat := if u < 2 ^ s 0 then (if (solN s 0 3 127).1 u = 1000 then 4293967292 else comingN s (solN s 0 3 127).1 (solN s 0 3 127).2 u) else 4293967295
def qBeliefs (s : Nat → Nat) (u : Nat) : Nat := if u = 0 then 2 ^ s 0 - 1 else if u = 1 then nset (solN s 0 3 127).1 (2 ^ s 0 - 1) else if u = 2 then mostTo (solN s 0 3 127).1 (2 ^ s 0 - 1) else if u = 3 then (hardN (solN s 0 3 127).1 (mostTo (solN s 0 3 127).1 (2 ^ s 0 - 1)) (2 ^ s 0)).getD 4293967292 else if u = 4 then nset (solN s 4 4 127).1 (2 ^ s 0 - 1) else 4293967295
theorem sw_out {v hi : Nat} (hv : v < 4294967296) (h : hi < v) (hh : hi < 2147483648) : (nI v).toInt < 0 ∨ (hi : Int) < (nI v).toInt := by
  rw [nN_sI hv]; unfold sI; split <;> omega
theorem w_neg : ¬ (0 : Int32) ≤ nI 4294967295 := by decide
theorem w_pos {w : Nat} (h : w ≤ 3) : (0 : Int32) ≤ nI w := by
  have := (nN_le (a := 0) (b := w) (by decide) (by omega)).mpr (Nat.zero_le _)
  exact this
section CX5D
variable {l : Launch} {M M' : qM} {b b' : Nat} {s s' : Nat → Nat} {k : Nat} {was : Nat → Nat → Nat} {n : Nat} {t pa : Nat → Nat} {sw : Bool}
theorem RX.c38 (q : RX M b s k was n t pa sw) (h2 : M'.2 = M.2) (ha : ∀ a, a ≠ 38 → M'.1 a = M.1 a) : RX M' b s k was n t pa sw := by
  obtain ⟨q1, q2, q3, q4, q5, q6, q7, q8, q9, q10⟩ := q
  refine ⟨by rw [h2]; exact q1, q2, q3.mono (fun a a1 a2 => ha a (by omega)), q4, by rw [ha 0 (by decide)]; exact q5, q6, fun i hi => ⟨(q7 i hi).1.mono (fun a a1 a2 => by have := q2.ge (show i < 4 by omega); exact ha a (by omega)), (q7 i hi).2⟩, ⟨by rw [ha 18 (by decide)]; exact q8.1, fun i hi => by rw [ha 19 (by decide)]; exact q8.2 i hi⟩, q9, q10.mono (by rw [ha 0 (by decide)]; exact ⟨rfl, rfl, rfl⟩) (fun a a1 a2 => ha a (by omega))⟩
theorem c_placeOf (hX : RX M b s k was n t pa sw) {u v : Nat} (hu : u < 4294967296) (hv : v < 4294967296) : Ct l hdX kX mX5_placeOf [.ref 0, .int (nI u), .int (nI v)] M (OX b (qPlaceOf s u v, (s, k, was, n, t))) := by
  refine Ct.of [some (.ref 0), some (.int (nI u)), some (.int (nI v))] (by decide +kernel) (fun h => absurd h (by decide)) (Nat.le_of_ble_eq_true rfl) rfl ?_
  have w7 := hX.2.2.2.1.1
  have w0 := p2_le w7
  have w1 := hX.2.2.2.1.2.1
  have ho : SO 1 := Or.inl rfl
  obtain ⟨e0, e1, e2, e3, e4, e5, e6, e7⟩ := hX.2.2.1
  by_cases a1 : u < s 0
  · refine T.aload_n (pc' := 1) (q_d dX5_placeOf_0 0 rfl) rfl rfl rfl ?_
    refine T.iload_n (pc' := 2) (q_d dX5_placeOf_0 1 rfl) rfl rfl rfl ?_
    refine T.callV (pc' := 5) (ci := 5) (q_d dX5_placeOf_0 2 rfl) rfl uX5_isPlace wM_X5_141 (c_isPlace hX.1 hX.2.2.1 hX.2.2.2.1 hu) rfl rfl (by decide) rfl rfl (by decide) (Nat.le_of_ble_eq_true rfl) rfl rfl (fun _ => rfl) ?_
    rintro _ _ ⟨rfl, rfl⟩
    dsimp only [Option.toList, List.cons_append, List.nil_append, List.append_nil]
    refine T.if_neN (tgt := 11) (pc' := 8) (q_d dX5_placeOf_0 3 rfl) rfl (by decide) (by split <;> decide) (fun h5 => ?_) (fun h5 => ?_)
    · refine T.iload_n (pc' := 12) (q_d dX5_placeOf_0 6 rfl) rfl rfl rfl ?_
      rcases (by omega : v = 0 ∨ v = 1 ∨ v = 2 ∨ v = 3 ∨ v = 4 ∨ 4 < v) with rfl | rfl | rfl | rfl | rfl | h12
      · refine T.tableIn (tgt := 48) (q_d dX5_placeOf_0 7 rfl) (by decide +kernel) (by decide +kernel) (off := 36) (by decide +kernel) (by decide) ?_
        refine T.aload_n (pc' := 49) (q_d dX5_placeOf_0 8 rfl) rfl rfl rfl ?_
        refine T.getR (pc' := 52) (ci := 5) (k0 := 0) (q_d dX5_placeOf_0 9 rfl) rfl rfl (by decide) rfl inX5 (by decide) rfl wF_X5_10 (rP hX.1 rfl) ?_
        refine T.getR (pc' := 55) (ci := 3) (k0 := 1) (q_d dX5_placeOf_0 10 rfl) rfl rfl (by decide) rfl inX3 (by decide) rfl wF_X5_144 (rP hX.1 rfl) ?_
        refine T.iload_n (pc' := 56) (q_d dX5_placeOf_0 11 rfl) rfl rfl rfl ?_
        refine T.iald (pc' := 57) (q_d dX5_placeOf_0 12 rfl) rfl rfl (by decide) rfl (by omega) (by decide) (e3 u (by omega)) ?_
        refine T.iret (q_d dX5_placeOf_0 13 rfl) rfl rfl rfl ?_
        exact ⟨by simp [qPlaceOf, a1], pa, sw, hX⟩
      · refine T.tableIn (tgt := 58) (q_d dX5_placeOf_0 7 rfl) (by decide +kernel) (by decide +kernel) (off := 46) (by decide +kernel) (by decide) ?_
        refine T.aload_n (pc' := 59) (q_d dX5_placeOf_0 14 rfl) rfl rfl rfl ?_
        refine T.getR (pc' := 62) (ci := 5) (k0 := 0) (q_d dX5_placeOf_0 15 rfl) rfl rfl (by decide) rfl inX5 (by decide) rfl wF_X5_10 (rP hX.1 rfl) ?_
        refine T.getR (pc' := 65) (ci := 3) (k0 := 2) (q_d dX5_placeOf_0 16 rfl) rfl rfl (by decide) rfl inX3 (by decide) rfl wF_X5_91 (rP hX.1 rfl) ?_
        refine T.iload_n (pc' := 66) (q_d dX5_placeOf_0 17 rfl) rfl rfl rfl ?_
        refine T.iald (pc' := 67) (q_d dX5_placeOf_0 18 rfl) rfl rfl (by decide) rfl (by omega) (by decide) (e4 u (by omega)) ?_
        refine T.iret (q_d dX5_placeOf_0 19 rfl) rfl rfl rfl ?_
        exact ⟨by simp [qPlaceOf, a1], pa, sw, hX⟩
      · refine T.tableIn (tgt := 68) (q_d dX5_placeOf_0 7 rfl) (by decide +kernel) (by decide +kernel) (off := 56) (by decide +kernel) (by decide) ?_
        refine T.aload_n (pc' := 69) (q_d dX5_placeOf_0 20 rfl) rfl rfl rfl ?_
        refine T.getR (pc' := 72) (ci := 5) (k0 := 0) (q_d dX5_placeOf_0 21 rfl) rfl rfl (by decide) rfl inX5 (by decide) rfl wF_X5_10 (rP hX.1 rfl) ?_
        refine T.getR (pc' := 75) (ci := 3) (k0 := 3) (q_d dX5_placeOf_0 22 rfl) rfl rfl (by decide) rfl inX3 (by decide) rfl wF_X5_105 (rP hX.1 rfl) ?_
        refine T.iload_n (pc' := 76) (q_d dX5_placeOf_0 23 rfl) rfl rfl rfl ?_
        refine T.iald (pc' := 77) (q_d dX5_placeOf_0 24 rfl) rfl rfl (by decide) rfl (by omega) (by decide) (e5 u (by omega)) ?_
        refine T.iret (q_d dX5_placeOf_0 25 rfl) rfl rfl rfl ?_
        exact ⟨by simp [qPlaceOf, a1], pa, sw, hX⟩
      · refine T.tableIn (tgt := 78) (q_d dX5_placeOf_0 7 rfl) (by decide +kernel) (by decide +kernel) (off := 66) (by decide +kernel) (by decide) ?_
        refine T.aload_n (pc' := 79) (q_d dX5_placeOf_0 26 rfl) rfl rfl rfl ?_
        refine T.getR (pc' := 82) (ci := 5) (k0 := 0) (q_d dX5_placeOf_0 27 rfl) rfl rfl (by decide) rfl inX5 (by decide) rfl wF_X5_10 (rP hX.1 rfl) ?_
        refine T.iload_n (pc' := 83) (q_d dX5_placeOf_0 28 rfl) rfl rfl rfl ?_
        refine T.callV (pc' := 86) (ci := 3) (q_d dX5_placeOf_0 29 rfl) rfl uX3_reach wM_X5_147 (c_reach ho hX.1 hX.2.2.1 hX.2.2.2.1 a1) rfl rfl (by decide) rfl rfl (by decide) (Nat.le_of_ble_eq_true rfl) rfl rfl (fun _ => rfl) ?_
        rintro _ _ ⟨rfl, rfl⟩
        dsimp only [Option.toList, List.cons_append, List.nil_append, List.append_nil]
        refine T.iret (q_d dX5_placeOf_0 30 rfl) rfl rfl rfl ?_
        exact ⟨by simp [qPlaceOf, a1], pa, sw, hX⟩
      · refine T.tableIn (tgt := 87) (q_d dX5_placeOf_0 7 rfl) (by decide +kernel) (by decide +kernel) (off := 75) (by decide +kernel) (by decide) ?_
        refine T.aload_n (pc' := 88) (q_d dX5_placeOf_0 31 rfl) rfl rfl rfl ?_
        refine T.getR (pc' := 91) (ci := 5) (k0 := 0) (q_d dX5_placeOf_0 32 rfl) rfl rfl (by decide) rfl inX5 (by decide) rfl wF_X5_10 (rP hX.1 rfl) ?_
        refine T.getI (pc' := 94) (ci := 3) (k0 := 5) (q_d dX5_placeOf_0 33 rfl) rfl rfl (by decide) rfl inX3 (by decide) rfl wF_X5_118 e1 ?_
        refine T.iload_n (pc' := 95) (q_d dX5_placeOf_0 34 rfl) rfl rfl rfl ?_
        refine T.ishr (pc' := 96) (q_d dX5_placeOf_0 35 rfl) rfl (nN_shr (by omega) (by omega)) ?_
        refine T.iconst (pc' := 97) (v := nI 1) (q_d dX5_placeOf_0 36 rfl) rfl (by decide) ?_
        refine T.iand (pc' := 98) (q_d dX5_placeOf_0 37 rfl) rfl (nN_and _ _) ?_
        refine T.iret (q_d dX5_placeOf_0 38 rfl) rfl rfl rfl ?_
        exact ⟨by simp [qPlaceOf, a1], pa, sw, hX⟩
      · refine T.tableOut (tgt := 99) (q_d dX5_placeOf_0 7 rfl) (sw_out hv h12 (by decide)) (by decide) ?_
        refine T.ldc (pc' := 101) (v := nI 4293967295) (q_d dX5_placeOf_0 39 rfl) rfl wN_X5_64 ?_
        refine T.iret (q_d dX5_placeOf_1 0 rfl) rfl rfl rfl ?_
        exact ⟨by unfold qPlaceOf; rw [if_pos a1, if_neg (by omega), if_neg (by omega), if_neg (by omega), if_neg (by omega), if_neg (by omega)], pa, sw, hX⟩
    · exact absurd h5 (by rw [if_pos a1]; decide)
  · refine T.aload_n (pc' := 1) (q_d dX5_placeOf_0 0 rfl) rfl rfl rfl ?_
    refine T.iload_n (pc' := 2) (q_d dX5_placeOf_0 1 rfl) rfl rfl rfl ?_
    refine T.callV (pc' := 5) (ci := 5) (q_d dX5_placeOf_0 2 rfl) rfl uX5_isPlace wM_X5_141 (c_isPlace hX.1 hX.2.2.1 hX.2.2.2.1 hu) rfl rfl (by decide) rfl rfl (by decide) (Nat.le_of_ble_eq_true rfl) rfl rfl (fun _ => rfl) ?_
    rintro _ _ ⟨rfl, rfl⟩
    dsimp only [Option.toList, List.cons_append, List.nil_append, List.append_nil]
    refine T.if_neN (tgt := 11) (pc' := 8) (q_d dX5_placeOf_0 3 rfl) rfl (by decide) (by split <;> decide) (fun h5 => ?_) (fun h5 => ?_)
    · exact absurd (if_neg a1) h5
    · refine T.ldc (pc' := 10) (v := nI 4293967295) (q_d dX5_placeOf_0 4 rfl) rfl wN_X5_64 ?_
      refine T.iret (q_d dX5_placeOf_0 5 rfl) rfl rfl rfl ?_
      exact ⟨by unfold qPlaceOf; rw [if_neg a1], pa, sw, hX⟩
theorem c_behind (hX : RX M b s k was n t pa sw) {u v w : Nat} (hu : u < 4294967296) (hv : v < 4294967296) (hw9 : w < 4294967296) : Ct l hdX kX mX5_behind [.ref 0, .int (nI u), .int (nI v), .int (nI w)] M (OX b (qBehind s u v w, (s, k, was, n, t))) := by
  refine Ct.of [some (.ref 0), some (.int (nI u)), some (.int (nI v)), some (.int (nI w))] (by decide +kernel) (fun h => absurd h (by decide)) (Nat.le_of_ble_eq_true rfl) rfl ?_
  have e := inS_m1 hw9
  by_cases a1 : u < 2 ^ s 0
  · by_cases a2 : v < 2 ^ s 0
    · by_cases a3 : w = 4294967295 ∨ w ≤ 3
      · have z3 := e.mpr a3
        refine T.aload_n (pc' := 1) (q_d dX5_behind_0 0 rfl) rfl rfl rfl ?_
        refine T.iload_n (pc' := 2) (q_d dX5_behind_0 1 rfl) rfl rfl rfl ?_
        refine T.callV (pc' := 5) (ci := 5) (q_d dX5_behind_0 2 rfl) rfl uX5_isSet wM_X5_114 (c_isSet hX.1 hX.2.2.1 hX.2.2.2.1 hu) rfl rfl (by decide) rfl rfl (by decide) (Nat.le_of_ble_eq_true rfl) rfl rfl (fun _ => rfl) ?_
        rintro _ _ ⟨rfl, rfl⟩
        dsimp only [Option.toList, List.cons_append, List.nil_append, List.append_nil]
        refine T.if_eqN (tgt := 25) (pc' := 8) (q_d dX5_behind_0 3 rfl) rfl (by decide) (by split <;> decide) (fun h5 => ?_) (fun h5 => ?_)
        · exact absurd h5 (by rw [if_pos a1]; decide)
        · refine T.aload_n (pc' := 9) (q_d dX5_behind_0 4 rfl) rfl rfl rfl ?_
          refine T.iload_n (pc' := 10) (q_d dX5_behind_0 5 rfl) rfl rfl rfl ?_
          refine T.callV (pc' := 13) (ci := 5) (q_d dX5_behind_0 6 rfl) rfl uX5_isSet wM_X5_114 (c_isSet hX.1 hX.2.2.1 hX.2.2.2.1 hv) rfl rfl (by decide) rfl rfl (by decide) (Nat.le_of_ble_eq_true rfl) rfl rfl (fun _ => rfl) ?_
          rintro _ _ ⟨rfl, rfl⟩
          dsimp only [Option.toList, List.cons_append, List.nil_append, List.append_nil]
          refine T.if_eqN (tgt := 25) (pc' := 16) (q_d dX5_behind_0 7 rfl) rfl (by decide) (by split <;> decide) (fun h13 => ?_) (fun h13 => ?_)
          · exact absurd h13 (by rw [if_pos a2]; decide)
          · refine T.iload_n (pc' := 17) (q_d dX5_behind_0 8 rfl) rfl rfl rfl ?_
            refine T.iconst (pc' := 18) (v := nI 4294967295) (q_d dX5_behind_0 9 rfl) rfl (by decide) ?_
            refine T.iconst (pc' := 19) (v := nI 3) (q_d dX5_behind_0 10 rfl) rfl (by decide) ?_
            refine T.callS (pc' := 22) (q_d dX5_behind_0 11 rfl) rfl uX5_isWithin wM_X5_60 (c_isWithin hw9 (lo := 4294967295) (by decide) (hi := 3) (by decide)) rfl rfl (by decide) (Nat.le_of_ble_eq_true rfl) rfl rfl (fun _ => rfl) ?_
            rintro _ _ ⟨rfl, rfl⟩
            dsimp only [Option.toList, List.cons_append, List.nil_append, List.append_nil]
            refine T.if_neN (tgt := 28) (pc' := 25) (q_d dX5_behind_0 12 rfl) rfl (by decide) (by split <;> decide) (fun h22 => ?_) (fun h22 => ?_)
            · refine T.aload_n (pc' := 29) (q_d dX5_behind_0 15 rfl) rfl rfl rfl ?_
              refine T.callV (pc' := 32) (ci := 5) (q_d dX5_behind_0 16 rfl) rfl uX5_standingMoves wM_X5_129 (c_standingMoves hX) rfl rfl (by decide) rfl rfl (by decide) (Nat.le_of_ble_eq_true rfl) rfl rfl (fun _ => rfl) ?_
              rintro _ M2 ⟨rfl, e8, e9, e10, f28, fT, hTb⟩
              have hXb := hX.tb fT hTb
              dsimp only [Option.toList, List.cons_append, List.nil_append, List.append_nil]
              refine T.iload_n (pc' := 33) (q_d dX5_behind_0 17 rfl) rfl rfl rfl ?_
              refine T.iload_n (pc' := 34) (q_d dX5_behind_0 18 rfl) rfl rfl rfl ?_
              refine T.iload_n (pc' := 35) (q_d dX5_behind_0 19 rfl) rfl rfl rfl ?_
              refine T.if_ge (tgt := 42) (pc' := 38) (q_d dX5_behind_0 20 rfl) rfl (by decide)  (fun h35 => ?_) (fun h35 => ?_)
              · refine T.iload_n (pc' := 43) (q_d dX5_behind_0 23 rfl) rfl rfl rfl ?_
                refine T.callV (pc' := 46) (ci := 1) (q_d dX5_behind_0 24 rfl) rfl uX1_after wM_X5_163 (c_after hXb.1 hXb.2.2.2.1 (hTb.2.2.2.1 e8) a1 (by first | decide | (rcases a3 with a3 | a3; (rw [a3] at h35; exact absurd h35 w_neg); omega))) rfl rfl (by decide) rfl rfl (by decide) (Nat.le_of_ble_eq_true rfl) rfl rfl (fun _ => rfl) ?_
                rintro _ _ ⟨rfl, rfl⟩
                dsimp only [Option.toList, List.cons_append, List.nil_append, List.append_nil]
                refine T.iret (q_d dX5_behind_0 25 rfl) rfl rfl rfl ?_
                refine ⟨?_, pa, sw, hXb⟩
                unfold qBehind
                rw [if_pos ⟨⟨a1, a2⟩, a3⟩]
                rcases a3 with a3 | a3
                · first
                  | (rw [if_pos a3]; done)
                  | (rw [a3] at h35; exact absurd h35 w_neg)
                · first
                  | (rw [if_neg (by omega)]; done)
                  | exact absurd (w_pos a3) h35
              · refine T.iconst (pc' := 39) (v := nI 4) (q_d dX5_behind_0 21 rfl) rfl (by decide) ?_
                refine T.goto (tgt := 43) (q_d dX5_behind_0 22 rfl) (by decide) ?_
                refine T.callV (pc' := 46) (ci := 1) (q_d dX5_behind_0 24 rfl) rfl uX1_after wM_X5_163 (c_after hXb.1 hXb.2.2.2.1 (hTb.2.2.2.1 e8) a1 (by first | decide | (rcases a3 with a3 | a3; (rw [a3] at h35; exact absurd h35 w_neg); omega))) rfl rfl (by decide) rfl rfl (by decide) (Nat.le_of_ble_eq_true rfl) rfl rfl (fun _ => rfl) ?_
                rintro _ _ ⟨rfl, rfl⟩
                dsimp only [Option.toList, List.cons_append, List.nil_append, List.append_nil]
                refine T.iret (q_d dX5_behind_0 25 rfl) rfl rfl rfl ?_
                refine ⟨?_, pa, sw, hXb⟩
                unfold qBehind
                rw [if_pos ⟨⟨a1, a2⟩, a3⟩]
                rcases a3 with a3 | a3
                · first
                  | (rw [if_pos a3]; done)
                  | (rw [a3] at h35; exact absurd h35 w_neg)
                · first
                  | (rw [if_neg (by omega)]; done)
                  | exact absurd (w_pos a3) h35
            · exact absurd h22 (by rw [if_pos z3]; decide)
      · have z3 : ¬ inS w 4294967295 3 = true := fun q => a3 (e.mp q)
        refine T.aload_n (pc' := 1) (q_d dX5_behind_0 0 rfl) rfl rfl rfl ?_
        refine T.iload_n (pc' := 2) (q_d dX5_behind_0 1 rfl) rfl rfl rfl ?_
        refine T.callV (pc' := 5) (ci := 5) (q_d dX5_behind_0 2 rfl) rfl uX5_isSet wM_X5_114 (c_isSet hX.1 hX.2.2.1 hX.2.2.2.1 hu) rfl rfl (by decide) rfl rfl (by decide) (Nat.le_of_ble_eq_true rfl) rfl rfl (fun _ => rfl) ?_
        rintro _ _ ⟨rfl, rfl⟩
        dsimp only [Option.toList, List.cons_append, List.nil_append, List.append_nil]
        refine T.if_eqN (tgt := 25) (pc' := 8) (q_d dX5_behind_0 3 rfl) rfl (by decide) (by split <;> decide) (fun h5 => ?_) (fun h5 => ?_)
        · exact absurd h5 (by rw [if_pos a1]; decide)
        · refine T.aload_n (pc' := 9) (q_d dX5_behind_0 4 rfl) rfl rfl rfl ?_
          refine T.iload_n (pc' := 10) (q_d dX5_behind_0 5 rfl) rfl rfl rfl ?_
          refine T.callV (pc' := 13) (ci := 5) (q_d dX5_behind_0 6 rfl) rfl uX5_isSet wM_X5_114 (c_isSet hX.1 hX.2.2.1 hX.2.2.2.1 hv) rfl rfl (by decide) rfl rfl (by decide) (Nat.le_of_ble_eq_true rfl) rfl rfl (fun _ => rfl) ?_
          rintro _ _ ⟨rfl, rfl⟩
          dsimp only [Option.toList, List.cons_append, List.nil_append, List.append_nil]
          refine T.if_eqN (tgt := 25) (pc' := 16) (q_d dX5_behind_0 7 rfl) rfl (by decide) (by split <;> decide) (fun h13 => ?_) (fun h13 => ?_)
          · exact absurd h13 (by rw [if_pos a2]; decide)
          · refine T.iload_n (pc' := 17) (q_d dX5_behind_0 8 rfl) rfl rfl rfl ?_
            refine T.iconst (pc' := 18) (v := nI 4294967295) (q_d dX5_behind_0 9 rfl) rfl (by decide) ?_
            refine T.iconst (pc' := 19) (v := nI 3) (q_d dX5_behind_0 10 rfl) rfl (by decide) ?_
            refine T.callS (pc' := 22) (q_d dX5_behind_0 11 rfl) rfl uX5_isWithin wM_X5_60 (c_isWithin hw9 (lo := 4294967295) (by decide) (hi := 3) (by decide)) rfl rfl (by decide) (Nat.le_of_ble_eq_true rfl) rfl rfl (fun _ => rfl) ?_
            rintro _ _ ⟨rfl, rfl⟩
            dsimp only [Option.toList, List.cons_append, List.nil_append, List.append_nil]
            refine T.if_neN (tgt := 28) (pc' := 25) (q_d dX5_behind_0 12 rfl) rfl (by decide) (by split <;> decide) (fun h22 => ?_) (fun h22 => ?_)
            · exact absurd (if_neg z3) h22
            · refine T.ldc (pc' := 27) (v := nI 4293967295) (q_d dX5_behind_0 13 rfl) rfl wN_X5_64 ?_
              refine T.iret (q_d dX5_behind_0 14 rfl) rfl rfl rfl ?_
              exact ⟨by unfold qBehind; rw [if_neg (fun q => a3 q.2)], pa, sw, hX⟩
    · refine T.aload_n (pc' := 1) (q_d dX5_behind_0 0 rfl) rfl rfl rfl ?_
      refine T.iload_n (pc' := 2) (q_d dX5_behind_0 1 rfl) rfl rfl rfl ?_
      refine T.callV (pc' := 5) (ci := 5) (q_d dX5_behind_0 2 rfl) rfl uX5_isSet wM_X5_114 (c_isSet hX.1 hX.2.2.1 hX.2.2.2.1 hu) rfl rfl (by decide) rfl rfl (by decide) (Nat.le_of_ble_eq_true rfl) rfl rfl (fun _ => rfl) ?_
      rintro _ _ ⟨rfl, rfl⟩
      dsimp only [Option.toList, List.cons_append, List.nil_append, List.append_nil]
      refine T.if_eqN (tgt := 25) (pc' := 8) (q_d dX5_behind_0 3 rfl) rfl (by decide) (by split <;> decide) (fun h5 => ?_) (fun h5 => ?_)
      · exact absurd h5 (by rw [if_pos a1]; decide)
      · refine T.aload_n (pc' := 9) (q_d dX5_behind_0 4 rfl) rfl rfl rfl ?_
        refine T.iload_n (pc' := 10) (q_d dX5_behind_0 5 rfl) rfl rfl rfl ?_
        refine T.callV (pc' := 13) (ci := 5) (q_d dX5_behind_0 6 rfl) rfl uX5_isSet wM_X5_114 (c_isSet hX.1 hX.2.2.1 hX.2.2.2.1 hv) rfl rfl (by decide) rfl rfl (by decide) (Nat.le_of_ble_eq_true rfl) rfl rfl (fun _ => rfl) ?_
        rintro _ _ ⟨rfl, rfl⟩
        dsimp only [Option.toList, List.cons_append, List.nil_append, List.append_nil]
        refine T.if_eqN (tgt := 25) (pc' := 16) (q_d dX5_behind_0 7 rfl) rfl (by decide) (by split <;> decide) (fun h13 => ?_) (fun h13 => ?_)
        · refine T.ldc (pc' := 27) (v := nI 4293967295) (q_d dX5_behind_0 13 rfl) rfl wN_X5_64 ?_
          refine T.iret (q_d dX5_behind_0 14 rfl) rfl rfl rfl ?_
          exact ⟨by unfold qBehind; rw [if_neg (fun q => a2 q.1.2)], pa, sw, hX⟩
        · exact absurd (if_neg a2) h13
  · refine T.aload_n (pc' := 1) (q_d dX5_behind_0 0 rfl) rfl rfl rfl ?_
    refine T.iload_n (pc' := 2) (q_d dX5_behind_0 1 rfl) rfl rfl rfl ?_
    refine T.callV (pc' := 5) (ci := 5) (q_d dX5_behind_0 2 rfl) rfl uX5_isSet wM_X5_114 (c_isSet hX.1 hX.2.2.1 hX.2.2.2.1 hu) rfl rfl (by decide) rfl rfl (by decide) (Nat.le_of_ble_eq_true rfl) rfl rfl (fun _ => rfl) ?_
    rintro _ _ ⟨rfl, rfl⟩
    dsimp only [Option.toList, List.cons_append, List.nil_append, List.append_nil]
    refine T.if_eqN (tgt := 25) (pc' := 8) (q_d dX5_behind_0 3 rfl) rfl (by decide) (by split <;> decide) (fun h5 => ?_) (fun h5 => ?_)
    · refine T.ldc (pc' := 27) (v := nI 4293967295) (q_d dX5_behind_0 13 rfl) rfl wN_X5_64 ?_
      refine T.iret (q_d dX5_behind_0 14 rfl) rfl rfl rfl ?_
      exact ⟨by unfold qBehind; rw [if_neg (fun q => a1 q.1.1)], pa, sw, hX⟩
    · exact absurd (if_neg a1) h5
theorem c_sure (hX : RX M b s k was n t pa sw) {u v : Nat} (hu : u < 4294967296) (hv : v < 4294967296) : Ct l hdX kX mX5_sure [.ref 0, .int (nI u), .int (nI v)] M (OX b (qSure s u v, (s, k, was, n, t))) := by
  refine Ct.of [some (.ref 0), some (.int (nI u)), some (.int (nI v)), none] (by decide +kernel) (fun h => absurd h (by decide)) (Nat.le_of_ble_eq_true rfl) rfl ?_
  have e := inS_iff (lo := 0) (hi := 1) hv (by decide) (by decide)
  have w0 := p2_le hX.2.2.2.1.1
  have nv := sol_vals (s := s) (g0 := 0) (g1 := 3) u
  have nl := nc_lt nv
  have nm := nc_m1 nv
  by_cases a1 : u < 2 ^ s 0
  · by_cases a2 : v ≤ 1
    · have z2 : inS v 0 1 = true := e.mpr ⟨Nat.zero_le _, a2⟩
      refine T.aload_n (pc' := 1) (q_d dX5_sure_0 0 rfl) rfl rfl rfl ?_
      refine T.iload_n (pc' := 2) (q_d dX5_sure_0 1 rfl) rfl rfl rfl ?_
      refine T.callV (pc' := 5) (ci := 5) (q_d dX5_sure_0 2 rfl) rfl uX5_isSet wM_X5_114 (c_isSet hX.1 hX.2.2.1 hX.2.2.2.1 hu) rfl rfl (by decide) rfl rfl (by decide) (Nat.le_of_ble_eq_true rfl) rfl rfl (fun _ => rfl) ?_
      rintro _ _ ⟨rfl, rfl⟩
      dsimp only [Option.toList, List.cons_append, List.nil_append, List.append_nil]
      refine T.if_eqN (tgt := 17) (pc' := 8) (q_d dX5_sure_0 3 rfl) rfl (by decide) (by split <;> decide) (fun h5 => ?_) (fun h5 => ?_)
      · exact absurd h5 (by rw [if_pos a1]; decide)
      · refine T.iload_n (pc' := 9) (q_d dX5_sure_0 4 rfl) rfl rfl rfl ?_
        refine T.iconst (pc' := 10) (v := nI 0) (q_d dX5_sure_0 5 rfl) rfl (by decide) ?_
        refine T.iconst (pc' := 11) (v := nI 1) (q_d dX5_sure_0 6 rfl) rfl (by decide) ?_
        refine T.callS (pc' := 14) (q_d dX5_sure_0 7 rfl) rfl uX5_isWithin wM_X5_60 (c_isWithin hv (by decide) (hi := 1) (by decide)) rfl rfl (by decide) (Nat.le_of_ble_eq_true rfl) rfl rfl (fun _ => rfl) ?_
        rintro _ _ ⟨rfl, rfl⟩
        dsimp only [Option.toList, List.cons_append, List.nil_append, List.append_nil]
        refine T.if_neN (tgt := 20) (pc' := 17) (q_d dX5_sure_0 8 rfl) rfl (by decide) (by split <;> decide) (fun h14 => ?_) (fun h14 => ?_)
        · refine T.aload_n (pc' := 21) (q_d dX5_sure_0 11 rfl) rfl rfl rfl ?_
          refine T.callV (pc' := 24) (ci := 5) (q_d dX5_sure_0 12 rfl) rfl uX5_standingHearing wM_X5_167 (c_standingHearing hX) rfl rfl (by decide) rfl rfl (by decide) (Nat.le_of_ble_eq_true rfl) rfl rfl (fun _ => rfl) ?_
          rintro _ M2 ⟨rfl, e8, e9, fT, hTb⟩
          have hXb := hX.tb fT hTb
          have hn := (hTb.2.2.2.2.1 e9).2 u (by omega)
          dsimp only [Option.toList, List.cons_append, List.nil_append, List.append_nil]
          refine T.astore_n (pc' := 25) (q_d dX5_sure_0 13 rfl) rfl rfl (by decide) rfl rfl ?_
          refine T.aload_n (pc' := 26) (q_d dX5_sure_0 14 rfl) rfl rfl rfl ?_
          refine T.getR (pc' := 29) (ci := 0) (k0 := 0) (q_d dX5_sure_0 15 rfl) rfl rfl (by decide) rfl inX0 (by decide) rfl wF_X5_171 (rP (P := pX _ sw) (by first | exact hXb.1 | exact hX.1) rfl) ?_
          refine T.iload_n (pc' := 30) (q_d dX5_sure_0 16 rfl) rfl rfl rfl ?_
          refine T.iald (pc' := 31) (q_d dX5_sure_0 17 rfl) rfl rfl (by decide) rfl (by omega) (by decide) hn.1 ?_
          refine T.iconst (pc' := 32) (v := nI 4294967295) (q_d dX5_sure_0 18 rfl) rfl (by decide) ?_
          refine T.icmp_neN (tgt := 38) (pc' := 35) (q_d dX5_sure_0 19 rfl) rfl (by decide) (by omega) (by omega) (fun h32 => ?_) (fun h32 => ?_)
          · refine T.iload_n (pc' := 39) (q_d dX5_sure_0 22 rfl) rfl rfl rfl ?_
            refine T.if_neN (tgt := 51) (pc' := 42) (q_d dX5_sure_0 23 rfl) rfl (by decide) (by omega) (fun h39 => ?_) (fun h39 => ?_)
            · refine T.aload_n (pc' := 52) (q_d dX5_sure_0 29 rfl) rfl rfl rfl ?_
              refine T.getR (pc' := 55) (ci := 0) (k0 := 1) (q_d dX5_sure_0 30 rfl) rfl rfl (by decide) rfl inX0 (by decide) rfl wF_X5_174 (rP (P := pX _ sw) (by first | exact hXb.1 | exact hX.1) rfl) ?_
              refine T.iload_n (pc' := 56) (q_d dX5_sure_0 31 rfl) rfl rfl rfl ?_
              refine T.iald (pc' := 57) (q_d dX5_sure_0 32 rfl) rfl rfl (by decide) rfl (by omega) (by decide) hn.2 ?_
              refine T.iret (q_d dX5_sure_0 33 rfl) rfl rfl rfl ?_
              have hne : (solN s 0 3 127).1 u ≠ 1000 := by omega
              refine ⟨?_, pa, sw, hXb⟩
              unfold qSure
              rw [if_pos ⟨a1, a2⟩, if_neg hne]
              first
                | (rw [if_pos h39, nc_id hne]; done)
                | (rw [if_neg h39]; done)
            · refine T.aload_n (pc' := 43) (q_d dX5_sure_0 24 rfl) rfl rfl rfl ?_
              refine T.getR (pc' := 46) (ci := 0) (k0 := 0) (q_d dX5_sure_0 25 rfl) rfl rfl (by decide) rfl inX0 (by decide) rfl wF_X5_171 (rP (P := pX _ sw) (by first | exact hXb.1 | exact hX.1) rfl) ?_
              refine T.iload_n (pc' := 47) (q_d dX5_sure_0 26 rfl) rfl rfl rfl ?_
              refine T.iald (pc' := 48) (q_d dX5_sure_0 27 rfl) rfl rfl (by decide) rfl (by omega) (by decide) hn.1 ?_
              refine T.goto (tgt := 57) (q_d dX5_sure_0 28 rfl) (by decide) ?_
              refine T.iret (q_d dX5_sure_0 33 rfl) rfl rfl rfl ?_
              have hne : (solN s 0 3 127).1 u ≠ 1000 := by omega
              refine ⟨?_, pa, sw, hXb⟩
              unfold qSure
              rw [if_pos ⟨a1, a2⟩, if_neg hne]
              first
                | (rw [if_pos h39, nc_id hne]; done)
                | (rw [if_neg h39]; done)
          · refine T.ldc (pc' := 37) (v := nI 4293967292) (q_d dX5_sure_0 20 rfl) rfl wN_X5_150 ?_
            refine T.iret (q_d dX5_sure_0 21 rfl) rfl rfl rfl ?_
            exact ⟨by unfold qSure; rw [if_pos ⟨a1, a2⟩, if_pos (by omega)], pa, sw, hXb⟩
        · exact absurd h14 (by rw [if_pos z2]; decide)
    · have z2 : ¬ inS v 0 1 = true := fun q => a2 (e.mp q).2
      refine T.aload_n (pc' := 1) (q_d dX5_sure_0 0 rfl) rfl rfl rfl ?_
      refine T.iload_n (pc' := 2) (q_d dX5_sure_0 1 rfl) rfl rfl rfl ?_
      refine T.callV (pc' := 5) (ci := 5) (q_d dX5_sure_0 2 rfl) rfl uX5_isSet wM_X5_114 (c_isSet hX.1 hX.2.2.1 hX.2.2.2.1 hu) rfl rfl (by decide) rfl rfl (by decide) (Nat.le_of_ble_eq_true rfl) rfl rfl (fun _ => rfl) ?_
      rintro _ _ ⟨rfl, rfl⟩
      dsimp only [Option.toList, List.cons_append, List.nil_append, List.append_nil]
      refine T.if_eqN (tgt := 17) (pc' := 8) (q_d dX5_sure_0 3 rfl) rfl (by decide) (by split <;> decide) (fun h5 => ?_) (fun h5 => ?_)
      · exact absurd h5 (by rw [if_pos a1]; decide)
      · refine T.iload_n (pc' := 9) (q_d dX5_sure_0 4 rfl) rfl rfl rfl ?_
        refine T.iconst (pc' := 10) (v := nI 0) (q_d dX5_sure_0 5 rfl) rfl (by decide) ?_
        refine T.iconst (pc' := 11) (v := nI 1) (q_d dX5_sure_0 6 rfl) rfl (by decide) ?_
        refine T.callS (pc' := 14) (q_d dX5_sure_0 7 rfl) rfl uX5_isWithin wM_X5_60 (c_isWithin hv (by decide) (hi := 1) (by decide)) rfl rfl (by decide) (Nat.le_of_ble_eq_true rfl) rfl rfl (fun _ => rfl) ?_
        rintro _ _ ⟨rfl, rfl⟩
        dsimp only [Option.toList, List.cons_append, List.nil_append, List.append_nil]
        refine T.if_neN (tgt := 20) (pc' := 17) (q_d dX5_sure_0 8 rfl) rfl (by decide) (by split <;> decide) (fun h14 => ?_) (fun h14 => ?_)
        · exact absurd (if_neg z2) h14
        · refine T.ldc (pc' := 19) (v := nI 4293967295) (q_d dX5_sure_0 9 rfl) rfl wN_X5_64 ?_
          refine T.iret (q_d dX5_sure_0 10 rfl) rfl rfl rfl ?_
          exact ⟨by unfold qSure; rw [if_neg (fun q => a2 q.2)], pa, sw, hX⟩
  · refine T.aload_n (pc' := 1) (q_d dX5_sure_0 0 rfl) rfl rfl rfl ?_
    refine T.iload_n (pc' := 2) (q_d dX5_sure_0 1 rfl) rfl rfl rfl ?_
    refine T.callV (pc' := 5) (ci := 5) (q_d dX5_sure_0 2 rfl) rfl uX5_isSet wM_X5_114 (c_isSet hX.1 hX.2.2.1 hX.2.2.2.1 hu) rfl rfl (by decide) rfl rfl (by decide) (Nat.le_of_ble_eq_true rfl) rfl rfl (fun _ => rfl) ?_
    rintro _ _ ⟨rfl, rfl⟩
    dsimp only [Option.toList, List.cons_append, List.nil_append, List.append_nil]
    refine T.if_eqN (tgt := 17) (pc' := 8) (q_d dX5_sure_0 3 rfl) rfl (by decide) (by split <;> decide) (fun h5 => ?_) (fun h5 => ?_)
    · refine T.ldc (pc' := 19) (v := nI 4293967295) (q_d dX5_sure_0 9 rfl) rfl wN_X5_64 ?_
      refine T.iret (q_d dX5_sure_0 10 rfl) rfl rfl rfl ?_
      exact ⟨by unfold qSure; rw [if_neg (fun q => a1 q.1)], pa, sw, hX⟩
    · exact absurd (if_neg a1) h5
theorem c_deaf (hX : RX M b s k was n t pa sw) {u : Nat} (hu : u < 4294967296) : Ct l hdX kX mX5_deaf [.ref 0, .int (nI u)] M (OX b (qDeaf s u, (s, k, was, n, t))) := by
  refine Ct.of [some (.ref 0), some (.int (nI u)), none] (by decide +kernel) (fun h => absurd h (by decide)) (Nat.le_of_ble_eq_true rfl) rfl ?_
  have w0 := p2_le hX.2.2.2.1.1
  have nv := sol_vals (s := s) (g0 := 4) (g1 := 4) u
  have nl := nc_lt nv
  have nm := nc_m1 nv
  by_cases a1 : u < 2 ^ s 0
  · refine T.aload_n (pc' := 1) (q_d dX5_deaf_0 0 rfl) rfl rfl rfl ?_
    refine T.iload_n (pc' := 2) (q_d dX5_deaf_0 1 rfl) rfl rfl rfl ?_
    refine T.callV (pc' := 5) (ci := 5) (q_d dX5_deaf_0 2 rfl) rfl uX5_isSet wM_X5_114 (c_isSet hX.1 hX.2.2.1 hX.2.2.2.1 hu) rfl rfl (by decide) rfl rfl (by decide) (Nat.le_of_ble_eq_true rfl) rfl rfl (fun _ => rfl) ?_
    rintro _ _ ⟨rfl, rfl⟩
    dsimp only [Option.toList, List.cons_append, List.nil_append, List.append_nil]
    refine T.if_neN (tgt := 11) (pc' := 8) (q_d dX5_deaf_0 3 rfl) rfl (by decide) (by split <;> decide) (fun h5 => ?_) (fun h5 => ?_)
    · refine T.aload_n (pc' := 12) (q_d dX5_deaf_0 6 rfl) rfl rfl rfl ?_
      refine T.callV (pc' := 15) (ci := 5) (q_d dX5_deaf_0 7 rfl) rfl uX5_standingUnhearing wM_X5_177 (c_standingUnhearing hX) rfl rfl (by decide) rfl rfl (by decide) (Nat.le_of_ble_eq_true rfl) rfl rfl (fun _ => rfl) ?_
      rintro _ M2 ⟨rfl, e8, e9, fT, hTb⟩
      have hXb := hX.tb fT hTb
      have hn := (hTb.2.2.2.2.2.1 e9).2 u (by omega)
      dsimp only [Option.toList, List.cons_append, List.nil_append, List.append_nil]
      refine T.getR (pc' := 18) (ci := 0) (k0 := 0) (q_d dX5_deaf_0 8 rfl) rfl rfl (by decide) rfl inX0 (by decide) rfl wF_X5_171 (rP (P := pX _ sw) (by first | exact hXb.1 | exact hX.1) rfl) ?_
      refine T.iload_n (pc' := 19) (q_d dX5_deaf_0 9 rfl) rfl rfl rfl ?_
      refine T.iald (pc' := 20) (q_d dX5_deaf_0 10 rfl) rfl rfl (by decide) rfl (by omega) (by decide) hn.1 ?_
      refine T.istore_n (pc' := 21) (q_d dX5_deaf_0 11 rfl) rfl rfl (by decide) rfl rfl ?_
      refine T.iload_n (pc' := 22) (q_d dX5_deaf_0 12 rfl) rfl rfl rfl ?_
      refine T.iconst (pc' := 23) (v := nI 4294967295) (q_d dX5_deaf_0 13 rfl) rfl (by decide) ?_
      refine T.icmp_neN (tgt := 31) (pc' := 26) (q_d dX5_deaf_0 14 rfl) rfl (by decide) (by omega) (by omega) (fun h23 => ?_) (fun h23 => ?_)
      · refine T.iload_n (pc' := 32) (q_d dX5_deaf_0 17 rfl) rfl rfl rfl ?_
        refine T.iret (q_d dX5_deaf_0 18 rfl) rfl rfl rfl ?_
        refine ⟨?_, pa, sw, hXb⟩
        unfold qDeaf
        rw [if_pos a1]
        first
          | (rw [if_pos (by omega)]; done)
          | (have hne : (solN s 4 4 127).1 u ≠ 1000 := by omega
             rw [if_neg hne, nc_id hne])
      · refine T.ldc (pc' := 28) (v := nI 4293967292) (q_d dX5_deaf_0 15 rfl) rfl wN_X5_150 ?_
        refine T.goto (tgt := 32) (q_d dX5_deaf_0 16 rfl) (by decide) ?_
        refine T.iret (q_d dX5_deaf_0 18 rfl) rfl rfl rfl ?_
        refine ⟨?_, pa, sw, hXb⟩
        unfold qDeaf
        rw [if_pos a1]
        first
          | (rw [if_pos (by omega)]; done)
          | (have hne : (solN s 4 4 127).1 u ≠ 1000 := by omega
             rw [if_neg hne, nc_id hne])
    · exact absurd h5 (by rw [if_pos a1]; decide)
  · refine T.aload_n (pc' := 1) (q_d dX5_deaf_0 0 rfl) rfl rfl rfl ?_
    refine T.iload_n (pc' := 2) (q_d dX5_deaf_0 1 rfl) rfl rfl rfl ?_
    refine T.callV (pc' := 5) (ci := 5) (q_d dX5_deaf_0 2 rfl) rfl uX5_isSet wM_X5_114 (c_isSet hX.1 hX.2.2.1 hX.2.2.2.1 hu) rfl rfl (by decide) rfl rfl (by decide) (Nat.le_of_ble_eq_true rfl) rfl rfl (fun _ => rfl) ?_
    rintro _ _ ⟨rfl, rfl⟩
    dsimp only [Option.toList, List.cons_append, List.nil_append, List.append_nil]
    refine T.if_neN (tgt := 11) (pc' := 8) (q_d dX5_deaf_0 3 rfl) rfl (by decide) (by split <;> decide) (fun h5 => ?_) (fun h5 => ?_)
    · exact absurd (if_neg a1) h5
    · refine T.ldc (pc' := 10) (v := nI 4293967295) (q_d dX5_deaf_0 4 rfl) rfl wN_X5_64 ?_
      refine T.iret (q_d dX5_deaf_0 5 rfl) rfl rfl rfl ?_
      exact ⟨by unfold qDeaf; rw [if_neg a1], pa, sw, hX⟩
theorem c_memory (hX : RX M b s k was n t pa sw) {u : Nat} (hu : u < 4294967296) : Ct l hdX kX mX5_memory [.ref 0, .int (nI u)] M (OX b (qMemory s u, (s, k, was, n, t))) := by
  refine Ct.of [some (.ref 0), some (.int (nI u)), none] (by decide +kernel) (fun h => absurd h (by decide)) (Nat.le_of_ble_eq_true rfl) rfl ?_
  have w0 := p2_le hX.2.2.2.1.1
  have nv := sol_vals (s := s) (g0 := 0) (g1 := 3) u
  have nl := nc_lt nv
  have nm := nc_m1 nv
  by_cases a1 : u < 2 ^ s 0
  · refine T.aload_n (pc' := 1) (q_d dX5_memory_0 0 rfl) rfl rfl rfl ?_
    refine T.iload_n (pc' := 2) (q_d dX5_memory_0 1 rfl) rfl rfl rfl ?_
    refine T.callV (pc' := 5) (ci := 5) (q_d dX5_memory_0 2 rfl) rfl uX5_isSet wM_X5_114 (c_isSet hX.1 hX.2.2.1 hX.2.2.2.1 hu) rfl rfl (by decide) rfl rfl (by decide) (Nat.le_of_ble_eq_true rfl) rfl rfl (fun _ => rfl) ?_
    rintro _ _ ⟨rfl, rfl⟩
    dsimp only [Option.toList, List.cons_append, List.nil_append, List.append_nil]
    refine T.if_neN (tgt := 11) (pc' := 8) (q_d dX5_memory_0 3 rfl) rfl (by decide) (by split <;> decide) (fun h5 => ?_) (fun h5 => ?_)
    · refine T.aload_n (pc' := 12) (q_d dX5_memory_0 6 rfl) rfl rfl rfl ?_
      refine T.callV (pc' := 15) (ci := 5) (q_d dX5_memory_0 7 rfl) rfl uX5_standingHearing wM_X5_167 (c_standingHearing hX) rfl rfl (by decide) rfl rfl (by decide) (Nat.le_of_ble_eq_true rfl) rfl rfl (fun _ => rfl) ?_
      rintro _ M2 ⟨rfl, e8, e9, fT, hTb⟩
      have hXb := hX.tb fT hTb
      have hn := (hTb.2.2.2.2.1 e9).2 u (by omega)
      dsimp only [Option.toList, List.cons_append, List.nil_append, List.append_nil]
      refine T.astore_n (pc' := 16) (q_d dX5_memory_0 8 rfl) rfl rfl (by decide) rfl rfl ?_
      refine T.aload_n (pc' := 17) (q_d dX5_memory_0 9 rfl) rfl rfl rfl ?_
      refine T.getR (pc' := 20) (ci := 0) (k0 := 0) (q_d dX5_memory_0 10 rfl) rfl rfl (by decide) rfl inX0 (by decide) rfl wF_X5_171 (rP (P := pX _ sw) (by first | exact hXb.1 | exact hX.1) rfl) ?_
      refine T.iload_n (pc' := 21) (q_d dX5_memory_0 11 rfl) rfl rfl rfl ?_
      refine T.iald (pc' := 22) (q_d dX5_memory_0 12 rfl) rfl rfl (by decide) rfl (by omega) (by decide) hn.1 ?_
      refine T.iconst (pc' := 23) (v := nI 4294967295) (q_d dX5_memory_0 13 rfl) rfl (by decide) ?_
      refine T.icmp_neN (tgt := 29) (pc' := 26) (q_d dX5_memory_0 14 rfl) rfl (by decide) (by omega) (by omega) (fun h23 => ?_) (fun h23 => ?_)
      · refine T.aload_n (pc' := 30) (q_d dX5_memory_0 17 rfl) rfl rfl rfl ?_
        refine T.aload_n (pc' := 31) (q_d dX5_memory_0 18 rfl) rfl rfl rfl ?_
        refine T.iload_n (pc' := 32) (q_d dX5_memory_0 19 rfl) rfl rfl rfl ?_
        refine T.callV (pc' := 35) (ci := 5) (q_d dX5_memory_0 20 rfl) rfl uX5_countComing wM_X5_180 (c_countComing hXb.1 hXb.2.2.1 hXb.2.2.2.1 (hTb.2.2.2.1 e8) (hTb.2.2.2.2.1 e9).2 a1 (by omega)) rfl rfl (by decide) rfl rfl (by decide) (Nat.le_of_ble_eq_true rfl) rfl rfl (fun _ => rfl) ?_
        rintro _ M3 ⟨rfl, m2, m3⟩
        dsimp only [Option.toList, List.cons_append, List.nil_append, List.append_nil]
        refine T.iret (q_d dX5_memory_0 21 rfl) rfl rfl rfl ?_
        refine ⟨by unfold qMemory; rw [if_pos a1, if_neg (by omega)], pa, sw, ?_⟩
        exact hXb.c38 m2 m3
      · refine T.ldc (pc' := 28) (v := nI 4293967292) (q_d dX5_memory_0 15 rfl) rfl wN_X5_150 ?_
        refine T.iret (q_d dX5_memory_0 16 rfl) rfl rfl rfl ?_
        exact ⟨by unfold qMemory; rw [if_pos a1, if_pos (by omega)], pa, sw, hXb⟩
    · exact absurd h5 (by rw [if_pos a1]; decide)
  · refine T.aload_n (pc' := 1) (q_d dX5_memory_0 0 rfl) rfl rfl rfl ?_
    refine T.iload_n (pc' := 2) (q_d dX5_memory_0 1 rfl) rfl rfl rfl ?_
    refine T.callV (pc' := 5) (ci := 5) (q_d dX5_memory_0 2 rfl) rfl uX5_isSet wM_X5_114 (c_isSet hX.1 hX.2.2.1 hX.2.2.2.1 hu) rfl rfl (by decide) rfl rfl (by decide) (Nat.le_of_ble_eq_true rfl) rfl rfl (fun _ => rfl) ?_
    rintro _ _ ⟨rfl, rfl⟩
    dsimp only [Option.toList, List.cons_append, List.nil_append, List.append_nil]
    refine T.if_neN (tgt := 11) (pc' := 8) (q_d dX5_memory_0 3 rfl) rfl (by decide) (by split <;> decide) (fun h5 => ?_) (fun h5 => ?_)
    · exact absurd (if_neg a1) h5
    · refine T.ldc (pc' := 10) (v := nI 4293967295) (q_d dX5_memory_0 4 rfl) rfl wN_X5_64 ?_
      refine T.iret (q_d dX5_memory_0 5 rfl) rfl rfl rfl ?_
      exact ⟨by unfold qMemory; rw [if_neg a1], pa, sw, hX⟩
theorem c_beliefs (hX : RX M b s k was n t pa sw) {u : Nat} (hu : u < 4294967296) : Ct l hdX kX mX5_beliefs [.ref 0, .int (nI u)] M (OX b (qBeliefs s u, (s, k, was, n, t))) := by
  refine Ct.of [some (.ref 0), some (.int (nI u))] (by decide +kernel) (fun h => absurd h (by decide)) (Nat.le_of_ble_eq_true rfl) rfl ?_
  have w0 := p2_le hX.2.2.2.1.1
  have ho : SO 1 := Or.inl rfl
  have hpos : 1 ≤ 2 ^ s 0 := Nat.two_pow_pos _
  have hH : HO 29 0 3 := Or.inl ⟨rfl, rfl, rfl⟩
  have hU : HO 32 4 4 := Or.inr ⟨rfl, rfl, rfl⟩
  refine T.iload_n (pc' := 1) (q_d dX5_beliefs_0 0 rfl) rfl rfl rfl ?_
  rcases (by omega : u = 0 ∨ u = 1 ∨ u = 2 ∨ u = 3 ∨ u = 4 ∨ 4 < u) with rfl | rfl | rfl | rfl | rfl | h12
  · refine T.tableIn (tgt := 36) (q_d dX5_beliefs_0 1 rfl) (by decide +kernel) (by decide +kernel) (off := 35) (by decide +kernel) (by decide) ?_
    refine T.aload_n (pc' := 37) (q_d dX5_beliefs_0 2 rfl) rfl rfl rfl ?_
    refine T.getR (pc' := 40) (ci := 5) (k0 := 0) (q_d dX5_beliefs_0 3 rfl) rfl rfl (by decide) rfl inX5 (by decide) rfl wF_X5_10 (rP (P := pX _ sw) (by first | exact hXb.1 | exact hX.1) rfl) ?_
    refine T.callV (pc' := 43) (ci := 3) (q_d dX5_beliefs_0 4 rfl) rfl uX3_sets wM_X5_184 (c_sets2 ho hX.1 hX.2.2.1 hX.2.2.2.1) rfl rfl (by decide) rfl rfl (by decide) (Nat.le_of_ble_eq_true rfl) rfl rfl (fun _ => rfl) ?_
    rintro _ _ ⟨rfl, rfl⟩
    dsimp only [Option.toList, List.cons_append, List.nil_append, List.append_nil]
    refine T.iconst (pc' := 44) (v := nI 1) (q_d dX5_beliefs_0 5 rfl) rfl (by decide) ?_
    refine T.isub (pc' := 45) (q_d dX5_beliefs_0 6 rfl) rfl (nN_sub (by omega)) ?_
    refine T.iret (q_d dX5_beliefs_0 7 rfl) rfl rfl rfl ?_
    exact ⟨by simp [qBeliefs], pa, sw, hX⟩
  · refine T.tableIn (tgt := 46) (q_d dX5_beliefs_0 1 rfl) (by decide +kernel) (by decide +kernel) (off := 45) (by decide +kernel) (by decide) ?_
    refine T.aload_n (pc' := 47) (q_d dX5_beliefs_0 8 rfl) rfl rfl rfl ?_
    refine T.callV (pc' := 50) (ci := 5) (q_d dX5_beliefs_0 9 rfl) rfl uX5_standingHearing wM_X5_167 (c_standingHearing hX) rfl rfl (by decide) rfl rfl (by decide) (Nat.le_of_ble_eq_true rfl) rfl rfl (fun _ => rfl) ?_
    rintro _ M2 ⟨rfl, e8, e9, fT, hTb⟩
    have hXb := hX.tb fT hTb
    have hR := (hTb.2.2.2.2.1 e9).2
    dsimp only [Option.toList, List.cons_append, List.nil_append, List.append_nil]
    refine T.aload_n (pc' := 51) (q_d dX5_beliefs_0 10 rfl) rfl rfl rfl ?_
    refine T.getR (pc' := 54) (ci := 5) (k0 := 0) (q_d dX5_beliefs_0 11 rfl) rfl rfl (by decide) rfl inX5 (by decide) rfl wF_X5_10 (rP (P := pX _ sw) (by first | exact hXb.1 | exact hX.1) rfl) ?_
    refine T.callV (pc' := 57) (ci := 3) (q_d dX5_beliefs_0 12 rfl) rfl uX3_sets wM_X5_184 (c_sets2 ho hXb.1 hXb.2.2.1 hXb.2.2.2.1) rfl rfl (by decide) rfl rfl (by decide) (Nat.le_of_ble_eq_true rfl) rfl rfl (fun _ => rfl) ?_
    rintro _ _ ⟨rfl, rfl⟩
    dsimp only [Option.toList, List.cons_append, List.nil_append, List.append_nil]
    refine T.callV (pc' := 60) (ci := 0) (q_d dX5_beliefs_0 13 rfl) rfl uX0_countSure wM_X5_188 (c_countSure hH hXb.1 (fun y hy => (hR y hy).1) sol_vals hpos w0) rfl rfl (by decide) rfl rfl (by decide) (Nat.le_of_ble_eq_true rfl) rfl rfl (fun _ => rfl) ?_
    rintro _ _ ⟨rfl, rfl⟩
    dsimp only [Option.toList, List.cons_append, List.nil_append, List.append_nil]
    refine T.iret (q_d dX5_beliefs_0 14 rfl) rfl rfl rfl ?_
    exact ⟨by simp [qBeliefs], pa, sw, hXb⟩
  · refine T.tableIn (tgt := 61) (q_d dX5_beliefs_0 1 rfl) (by decide +kernel) (by decide +kernel) (off := 60) (by decide +kernel) (by decide) ?_
    refine T.aload_n (pc' := 62) (q_d dX5_beliefs_0 15 rfl) rfl rfl rfl ?_
    refine T.callV (pc' := 65) (ci := 5) (q_d dX5_beliefs_0 16 rfl) rfl uX5_standingHearing wM_X5_167 (c_standingHearing hX) rfl rfl (by decide) rfl rfl (by decide) (Nat.le_of_ble_eq_true rfl) rfl rfl (fun _ => rfl) ?_
    rintro _ M2 ⟨rfl, e8, e9, fT, hTb⟩
    have hXb := hX.tb fT hTb
    have hR := (hTb.2.2.2.2.1 e9).2
    dsimp only [Option.toList, List.cons_append, List.nil_append, List.append_nil]
    refine T.aload_n (pc' := 66) (q_d dX5_beliefs_0 17 rfl) rfl rfl rfl ?_
    refine T.getR (pc' := 69) (ci := 5) (k0 := 0) (q_d dX5_beliefs_0 18 rfl) rfl rfl (by decide) rfl inX5 (by decide) rfl wF_X5_10 (rP (P := pX _ sw) (by first | exact hXb.1 | exact hX.1) rfl) ?_
    refine T.callV (pc' := 72) (ci := 3) (q_d dX5_beliefs_0 19 rfl) rfl uX3_sets wM_X5_184 (c_sets2 ho hXb.1 hXb.2.2.1 hXb.2.2.2.1) rfl rfl (by decide) rfl rfl (by decide) (Nat.le_of_ble_eq_true rfl) rfl rfl (fun _ => rfl) ?_
    rintro _ _ ⟨rfl, rfl⟩
    dsimp only [Option.toList, List.cons_append, List.nil_append, List.append_nil]
    refine T.callV (pc' := 75) (ci := 0) (q_d dX5_beliefs_0 20 rfl) rfl uX0_mostNeeded wM_X5_191 (c_mostNeeded hH hXb.1 (fun y hy => (hR y hy).1) sol_vals hpos w0) rfl rfl (by decide) rfl rfl (by decide) (Nat.le_of_ble_eq_true rfl) rfl rfl (fun _ => rfl) ?_
    rintro _ _ ⟨rfl, rfl⟩
    dsimp only [Option.toList, List.cons_append, List.nil_append, List.append_nil]
    refine T.iret (q_d dX5_beliefs_0 21 rfl) rfl rfl rfl ?_
    exact ⟨by simp [qBeliefs], pa, sw, hXb⟩
  · refine T.tableIn (tgt := 76) (q_d dX5_beliefs_0 1 rfl) (by decide +kernel) (by decide +kernel) (off := 75) (by decide +kernel) (by decide) ?_
    refine T.aload_n (pc' := 77) (q_d dX5_beliefs_0 22 rfl) rfl rfl rfl ?_
    refine T.callV (pc' := 80) (ci := 5) (q_d dX5_beliefs_0 23 rfl) rfl uX5_standingHearing wM_X5_167 (c_standingHearing hX) rfl rfl (by decide) rfl rfl (by decide) (Nat.le_of_ble_eq_true rfl) rfl rfl (fun _ => rfl) ?_
    rintro _ M2 ⟨rfl, e8, e9, fT, hTb⟩
    have hXb := hX.tb fT hTb
    have hR := (hTb.2.2.2.2.1 e9).2
    dsimp only [Option.toList, List.cons_append, List.nil_append, List.append_nil]
    refine T.aload_n (pc' := 81) (q_d dX5_beliefs_0 24 rfl) rfl rfl rfl ?_
    refine T.getR (pc' := 84) (ci := 5) (k0 := 0) (q_d dX5_beliefs_0 25 rfl) rfl rfl (by decide) rfl inX5 (by decide) rfl wF_X5_10 (rP (P := pX _ sw) (by first | exact hXb.1 | exact hX.1) rfl) ?_
    refine T.callV (pc' := 87) (ci := 3) (q_d dX5_beliefs_0 26 rfl) rfl uX3_sets wM_X5_184 (c_sets2 ho hXb.1 hXb.2.2.1 hXb.2.2.2.1) rfl rfl (by decide) rfl rfl (by decide) (Nat.le_of_ble_eq_true rfl) rfl rfl (fun _ => rfl) ?_
    rintro _ _ ⟨rfl, rfl⟩
    dsimp only [Option.toList, List.cons_append, List.nil_append, List.append_nil]
    refine T.callV (pc' := 90) (ci := 0) (q_d dX5_beliefs_0 27 rfl) rfl uX0_hardestBelief wM_X5_194 (c_hardestBelief hH hXb.1 (fun y hy => (hR y hy).1) sol_vals hpos w0) rfl rfl (by decide) rfl rfl (by decide) (Nat.le_of_ble_eq_true rfl) rfl rfl (fun _ => rfl) ?_
    rintro _ _ ⟨rfl, rfl⟩
    dsimp only [Option.toList, List.cons_append, List.nil_append, List.append_nil]
    refine T.iret (q_d dX5_beliefs_0 28 rfl) rfl rfl rfl ?_
    exact ⟨by simp [qBeliefs], pa, sw, hXb⟩
  · refine T.tableIn (tgt := 91) (q_d dX5_beliefs_0 1 rfl) (by decide +kernel) (by decide +kernel) (off := 90) (by decide +kernel) (by decide) ?_
    refine T.aload_n (pc' := 92) (q_d dX5_beliefs_0 29 rfl) rfl rfl rfl ?_
    refine T.callV (pc' := 95) (ci := 5) (q_d dX5_beliefs_0 30 rfl) rfl uX5_standingUnhearing wM_X5_177 (c_standingUnhearing hX) rfl rfl (by decide) rfl rfl (by decide) (Nat.le_of_ble_eq_true rfl) rfl rfl (fun _ => rfl) ?_
    rintro _ M2 ⟨rfl, e8, e9, fT, hTb⟩
    have hXb := hX.tb fT hTb
    have hR := (hTb.2.2.2.2.2.1 e9).2
    dsimp only [Option.toList, List.cons_append, List.nil_append, List.append_nil]
    refine T.aload_n (pc' := 96) (q_d dX5_beliefs_0 31 rfl) rfl rfl rfl ?_
    refine T.getR (pc' := 99) (ci := 5) (k0 := 0) (q_d dX5_beliefs_0 32 rfl) rfl rfl (by decide) rfl inX5 (by decide) rfl wF_X5_10 (rP (P := pX _ sw) (by first | exact hXb.1 | exact hX.1) rfl) ?_
    refine T.callV (pc' := 102) (ci := 3) (q_d dX5_beliefs_0 33 rfl) rfl uX3_sets wM_X5_184 (c_sets2 ho hXb.1 hXb.2.2.1 hXb.2.2.2.1) rfl rfl (by decide) rfl rfl (by decide) (Nat.le_of_ble_eq_true rfl) rfl rfl (fun _ => rfl) ?_
    rintro _ _ ⟨rfl, rfl⟩
    dsimp only [Option.toList, List.cons_append, List.nil_append, List.append_nil]
    refine T.callV (pc' := 105) (ci := 0) (q_d dX5_beliefs_0 34 rfl) rfl uX0_countSure wM_X5_188 (c_countSure hU hXb.1 (fun y hy => (hR y hy).1) sol_vals hpos w0) rfl rfl (by decide) rfl rfl (by decide) (Nat.le_of_ble_eq_true rfl) rfl rfl (fun _ => rfl) ?_
    rintro _ _ ⟨rfl, rfl⟩
    dsimp only [Option.toList, List.cons_append, List.nil_append, List.append_nil]
    refine T.iret (q_d dX5_beliefs_0 35 rfl) rfl rfl rfl ?_
    exact ⟨by simp [qBeliefs], pa, sw, hXb⟩
  · refine T.tableOut (tgt := 106) (q_d dX5_beliefs_0 1 rfl) (sw_out hu h12 (by decide)) (by decide) ?_
    refine T.ldc (pc' := 108) (v := nI 4293967295) (q_d dX5_beliefs_0 36 rfl) rfl wN_X5_64 ?_
    refine T.iret (q_d dX5_beliefs_0 37 rfl) rfl rfl rfl ?_
    exact ⟨by unfold qBeliefs; rw [if_neg (by omega), if_neg (by omega), if_neg (by omega), if_neg (by omega), if_neg (by omega)], pa, sw, hX⟩
end CX5D
end
section
/-! BlindHunts: ways, counts, undo, texts -/
def qCount (s : Nat → Nat) (k n u : Nat) : Nat := if u = 0 then s 0 else if u = 1 then rdN s 14 else if u = 2 then rdN s 21 else if u = 3 then s 1 else if u = 4 then s 2 else if u = 5 then s 3 else if u = 6 then k else if u = 7 then n else if 20 ≤ u ∧ u ≤ 22 then s (4 + (u - 20)) else 4293967295
def oUndo (s : Nat → Nat) (k : Nat) (was : Nat → Nat → Nat) (n : Nat) (t : Nat → Nat) : Nat × St := if k = 0 then (4293967294, (s, k, was, n, t)) else (k - 1, (was (k - 1), k - 1, was, n, t))
section CX5E
variable {l : Launch} {M M' : qM} {b b' : Nat} {s s' : Nat → Nat} {k : Nat} {was : Nat → Nat → Nat} {n : Nat} {t pa : Nat → Nat} {sw sw' : Bool}
theorem RX.swp (q : RX M b s k was n t pa sw) (h1 : M'.1 = M.1) (h2 : M'.2.2 = pX pa sw') : RX M' b s k was n t pa sw' := by
  obtain ⟨q1, q2, q3, q4, q5, q6, q7, q8, q9, q10⟩ := q
  exact ⟨h2, q2, q3.mono (fun a _ _ => by rw [h1]), q4, by rw [h1]; exact q5, q6, fun i hi => ⟨(q7 i hi).1.mono (fun a _ _ => by rw [h1]), (q7 i hi).2⟩, ⟨by rw [h1]; exact q8.1, fun i hi => by rw [h1]; exact q8.2 i hi⟩, q9, q10.mono (by rw [h1]; exact ⟨rfl, rfl, rfl⟩) (fun a _ _ => by rw [h1])⟩
theorem c_count (hX : RX M b s k was n t pa sw) (hb : b < 2 ^ 30) {u : Nat} (hu : u < 4294967296) : Ct l hdX kX mX5_count [.ref 0, .int (nI u)] M (OX b (qCount s k n u, (s, k, was, n, t))) := by
  refine Ct.of [some (.ref 0), some (.int (nI u))] (by decide +kernel) (fun h => absurd h (by decide)) (Nat.le_of_ble_eq_true rfl) rfl ?_
  have ho : SO 1 := Or.inl rfl
  have e := inS_iff (lo := 20) (hi := 22) hu (by decide) (by decide)
  have hX0 := hX
  obtain ⟨q1, q2, q3, q4, q5, q6, q7, q8, q9, q10⟩ := hX
  obtain ⟨e0, e1, e2, e3, e4, e5, e6, e7⟩ := q3
  have w0 := p2_le q4.1
  have h3 : s 3 ≤ 1 := by have := q4.2.2.2.2.2.2.2.2.2.2.1; split at this <;> omega
  refine T.iload_n (pc' := 1) (q_d dX5_count_0 0 rfl) rfl rfl rfl ?_
  rcases (by omega : u = 0 ∨ u = 1 ∨ u = 2 ∨ u = 3 ∨ u = 4 ∨ u = 5 ∨ u = 6 ∨ u = 7 ∨ 7 < u) with rfl | rfl | rfl | rfl | rfl | rfl | rfl | rfl | h12
  · refine T.tableIn (tgt := 48) (q_d dX5_count_0 1 rfl) (by decide +kernel) (by decide +kernel) (off := 47) (by decide +kernel) (by decide) ?_
    refine T.aload_n (pc' := 49) (q_d dX5_count_0 2 rfl) rfl rfl rfl ?_
    refine T.getR (pc' := 52) (ci := 5) (k0 := 0) (q_d dX5_count_0 3 rfl) rfl rfl (by decide) rfl inX5 (by decide) rfl wF_X5_10 (rP q1 rfl) ?_
    refine T.getI (pc' := 55) (ci := 3) (k0 := 0) (q_d dX5_count_0 4 rfl) rfl rfl (by decide) rfl inX3 (by decide) rfl wF_X5_65 e0 ?_
    refine T.iret (q_d dX5_count_0 5 rfl) rfl rfl rfl ?_
    exact ⟨by simp [qCount, rdN], pa, sw, hX0⟩
  · refine T.tableIn (tgt := 56) (q_d dX5_count_0 1 rfl) (by decide +kernel) (by decide +kernel) (off := 55) (by decide +kernel) (by decide) ?_
    refine T.aload_n (pc' := 57) (q_d dX5_count_0 6 rfl) rfl rfl rfl ?_
    refine T.getR (pc' := 60) (ci := 5) (k0 := 0) (q_d dX5_count_0 7 rfl) rfl rfl (by decide) rfl inX5 (by decide) rfl wF_X5_10 (rP q1 rfl) ?_
    refine T.aload_n (pc' := 61) (q_d dX5_count_0 8 rfl) rfl rfl rfl ?_
    refine T.getR (pc' := 64) (ci := 5) (k0 := 0) (q_d dX5_count_0 9 rfl) rfl rfl (by decide) rfl inX5 (by decide) rfl wF_X5_10 (rP q1 rfl) ?_
    refine T.getR (pc' := 67) (ci := 3) (k0 := 2) (q_d dX5_count_0 10 rfl) rfl rfl (by decide) rfl inX3 (by decide) rfl wF_X5_91 (rP q1 rfl) ?_
    refine T.callV (pc' := 70) (ci := 3) (q_d dX5_count_0 11 rfl) rfl uX3_countRoads wM_X5_95 (c_countRoads ho hX0.2.2.1 q4 (SO.a2 ho) (by decide) e4 (fun i hi => Nat.lt_of_lt_of_le (q4.2.2.2.2.2.2.2.1 i hi) w0)) rfl rfl (by decide) rfl rfl (by decide) (Nat.le_of_ble_eq_true rfl) rfl rfl (fun _ => rfl) ?_
    rintro _ _ ⟨rfl, rfl⟩
    dsimp only [Option.toList, List.cons_append, List.nil_append, List.append_nil]
    refine T.iret (q_d dX5_count_0 12 rfl) rfl rfl rfl ?_
    exact ⟨by simp [qCount, rdN], pa, sw, hX0⟩
  · refine T.tableIn (tgt := 71) (q_d dX5_count_0 1 rfl) (by decide +kernel) (by decide +kernel) (off := 70) (by decide +kernel) (by decide) ?_
    refine T.aload_n (pc' := 72) (q_d dX5_count_0 13 rfl) rfl rfl rfl ?_
    refine T.getR (pc' := 75) (ci := 5) (k0 := 0) (q_d dX5_count_0 14 rfl) rfl rfl (by decide) rfl inX5 (by decide) rfl wF_X5_10 (rP q1 rfl) ?_
    refine T.aload_n (pc' := 76) (q_d dX5_count_0 15 rfl) rfl rfl rfl ?_
    refine T.getR (pc' := 79) (ci := 5) (k0 := 0) (q_d dX5_count_0 16 rfl) rfl rfl (by decide) rfl inX5 (by decide) rfl wF_X5_10 (rP q1 rfl) ?_
    refine T.getR (pc' := 82) (ci := 3) (k0 := 3) (q_d dX5_count_0 17 rfl) rfl rfl (by decide) rfl inX3 (by decide) rfl wF_X5_105 (rP q1 rfl) ?_
    refine T.callV (pc' := 85) (ci := 3) (q_d dX5_count_0 18 rfl) rfl uX3_countRoads wM_X5_95 (c_countRoads ho hX0.2.2.1 q4 (SO.a3 ho) (by decide) e5 (fun i hi => Nat.lt_of_lt_of_le (q4.2.2.2.2.2.2.2.2.1 i hi) w0)) rfl rfl (by decide) rfl rfl (by decide) (Nat.le_of_ble_eq_true rfl) rfl rfl (fun _ => rfl) ?_
    rintro _ _ ⟨rfl, rfl⟩
    dsimp only [Option.toList, List.cons_append, List.nil_append, List.append_nil]
    refine T.iret (q_d dX5_count_0 19 rfl) rfl rfl rfl ?_
    exact ⟨by simp [qCount, rdN], pa, sw, hX0⟩
  · refine T.tableIn (tgt := 86) (q_d dX5_count_0 1 rfl) (by decide +kernel) (by decide +kernel) (off := 85) (by decide +kernel) (by decide) ?_
    refine T.aload_n (pc' := 87) (q_d dX5_count_0 20 rfl) rfl rfl rfl ?_
    refine T.getR (pc' := 90) (ci := 5) (k0 := 0) (q_d dX5_count_0 21 rfl) rfl rfl (by decide) rfl inX5 (by decide) rfl wF_X5_10 (rP q1 rfl) ?_
    refine T.getI (pc' := 93) (ci := 3) (k0 := 5) (q_d dX5_count_0 22 rfl) rfl rfl (by decide) rfl inX3 (by decide) rfl wF_X5_118 e1 ?_
    refine T.iret (q_d dX5_count_0 23 rfl) rfl rfl rfl ?_
    exact ⟨by simp [qCount, rdN], pa, sw, hX0⟩
  · refine T.tableIn (tgt := 94) (q_d dX5_count_0 1 rfl) (by decide +kernel) (by decide +kernel) (off := 93) (by decide +kernel) (by decide) ?_
    refine T.aload_n (pc' := 95) (q_d dX5_count_0 24 rfl) rfl rfl rfl ?_
    refine T.getR (pc' := 98) (ci := 5) (k0 := 0) (q_d dX5_count_0 25 rfl) rfl rfl (by decide) rfl inX5 (by decide) rfl wF_X5_10 (rP q1 rfl) ?_
    refine T.getI (pc' := 101) (ci := 3) (k0 := 6) (q_d dX5_count_0 26 rfl) rfl rfl (by decide) rfl inX3 (by decide) rfl wF_X5_121 e2 ?_
    refine T.iret (q_d dX5_count_0 27 rfl) rfl rfl rfl ?_
    exact ⟨by simp [qCount, rdN], pa, sw, hX0⟩
  · refine T.tableIn (tgt := 102) (q_d dX5_count_0 1 rfl) (by decide +kernel) (by decide +kernel) (off := 101) (by decide +kernel) (by decide) ?_
    refine T.aload_n (pc' := 103) (q_d dX5_count_0 28 rfl) rfl rfl rfl ?_
    refine T.getR (pc' := 106) (ci := 5) (k0 := 0) (q_d dX5_count_0 29 rfl) rfl rfl (by decide) rfl inX5 (by decide) rfl wF_X5_10 (rP q1 rfl) ?_
    refine T.callV (pc' := 109) (ci := 3) (q_d dX5_count_0 30 rfl) rfl uX3_isCaught wM_X5_215 (c_isCaught ho hX0.2.2.1 q4 hb) rfl rfl (by decide) rfl rfl (by decide) (Nat.le_of_ble_eq_true rfl) rfl rfl (fun _ => rfl) ?_
    rintro _ _ ⟨rfl, rfl⟩
    dsimp only [Option.toList, List.cons_append, List.nil_append, List.append_nil]
    refine T.if_eqN (tgt := 116) (pc' := 112) (q_d dX5_count_0 31 rfl) rfl (by decide) (by omega) (fun h109 => ?_) (fun h109 => ?_)
    · refine T.iconst (pc' := 117) (v := nI 0) (q_d dX5_count_0 34 rfl) rfl (by decide) ?_
      refine T.iret (q_d dX5_count_0 35 rfl) rfl rfl rfl ?_
      first
        | exact ⟨by simp [qCount]; omega, pa, sw, hX0⟩
        | exact ⟨by rw [show qCount s k n 5 = s 3 by simp [qCount], show s 3 = 1 by omega], pa, sw, hX0⟩
        | exact ⟨by rw [show qCount s k n 5 = s 3 by simp [qCount], show s 3 = 0 by omega], pa, sw, hX0⟩
    · refine T.iconst (pc' := 113) (v := nI 1) (q_d dX5_count_0 32 rfl) rfl (by decide) ?_
      refine T.goto (tgt := 117) (q_d dX5_count_0 33 rfl) (by decide) ?_
      refine T.iret (q_d dX5_count_0 35 rfl) rfl rfl rfl ?_
      first
        | exact ⟨by simp [qCount]; omega, pa, sw, hX0⟩
        | exact ⟨by rw [show qCount s k n 5 = s 3 by simp [qCount], show s 3 = 1 by omega], pa, sw, hX0⟩
        | exact ⟨by rw [show qCount s k n 5 = s 3 by simp [qCount], show s 3 = 0 by omega], pa, sw, hX0⟩
  · refine T.tableIn (tgt := 118) (q_d dX5_count_0 1 rfl) (by decide +kernel) (by decide +kernel) (off := 117) (by decide +kernel) (by decide) ?_
    refine T.aload_n (pc' := 119) (q_d dX5_count_0 36 rfl) rfl rfl rfl ?_
    refine T.getI (pc' := 122) (ci := 5) (k0 := 3) (q_d dX5_count_0 37 rfl) rfl rfl (by decide) rfl inX5 (by decide) rfl wF_X5_219 q5 ?_
    refine T.iret (q_d dX5_count_0 38 rfl) rfl rfl rfl ?_
    exact ⟨by simp [qCount, rdN], pa, sw, hX0⟩
  · refine T.tableIn (tgt := 123) (q_d dX5_count_0 1 rfl) (by decide +kernel) (by decide +kernel) (off := 122) (by decide +kernel) (by decide) ?_
    refine T.aload_n (pc' := 124) (q_d dX5_count_0 39 rfl) rfl rfl rfl ?_
    refine T.getR (pc' := 127) (ci := 5) (k0 := 4) (q_d dX5_count_1 0 rfl) rfl rfl (by decide) rfl inX5 (by decide) rfl wF_X5_26 (rP q1 rfl) ?_
    refine T.getI (pc' := 130) (ci := 2) (k0 := 1) (q_d dX5_count_1 1 rfl) rfl rfl (by decide) rfl inX2 (by decide) rfl wF_X5_222 q8.1 ?_
    refine T.iret (q_d dX5_count_1 2 rfl) rfl rfl rfl ?_
    exact ⟨by simp [qCount, rdN], pa, sw, hX0⟩
  · refine T.tableOut (tgt := 131) (q_d dX5_count_0 1 rfl) (sw_out hu h12 (by decide)) (by decide) ?_
    refine T.iload_n (pc' := 132) (q_d dX5_count_1 3 rfl) rfl rfl rfl ?_
    refine T.bipush (pc' := 134) (v := nI 20) (q_d dX5_count_1 4 rfl) rfl (by decide) ?_
    refine T.bipush (pc' := 136) (v := nI 22) (q_d dX5_count_1 5 rfl) rfl (by decide) ?_
    refine T.callS (pc' := 139) (q_d dX5_count_1 6 rfl) rfl uX5_isWithin wM_X5_60 (c_isWithin hu (by decide) (hi := 22) (by decide)) rfl rfl (by decide) (Nat.le_of_ble_eq_true rfl) rfl rfl (fun _ => rfl) ?_
    rintro _ _ ⟨rfl, rfl⟩
    dsimp only [Option.toList, List.cons_append, List.nil_append, List.append_nil]
    refine T.if_eqN (tgt := 157) (pc' := 142) (q_d dX5_count_1 7 rfl) rfl (by decide) (by split <;> decide) (fun h139 => ?_) (fun h139 => ?_)
    · refine T.ldc (pc' := 159) (v := nI 4293967295) (q_d dX5_count_1 16 rfl) rfl wN_X5_64 ?_
      refine T.iret (q_d dX5_count_1 17 rfl) rfl rfl rfl ?_
      refine ⟨?_, pa, sw, hX0⟩
      unfold qCount
      rw [if_neg (by omega), if_neg (by omega), if_neg (by omega), if_neg (by omega), if_neg (by omega), if_neg (by omega), if_neg (by omega), if_neg (by omega)]
      first
        | (rw [if_pos z9]; done)
        | (by_cases q : inS u 20 22 = true
           · rw [if_pos q] at h139; exact absurd h139 (by decide)
           · rw [if_neg (fun z => q (e.mpr z))])
    · have z9 : 20 ≤ u ∧ u ≤ 22 := by
        by_cases q : inS u 20 22 = true
        · exact e.mp q
        · exact absurd (if_neg q) h139
      refine T.aload_n (pc' := 143) (q_d dX5_count_1 8 rfl) rfl rfl rfl ?_
      refine T.getR (pc' := 146) (ci := 5) (k0 := 0) (q_d dX5_count_1 9 rfl) rfl rfl (by decide) rfl inX5 (by decide) rfl wF_X5_10 (rP q1 rfl) ?_
      refine T.getR (pc' := 149) (ci := 3) (k0 := 4) (q_d dX5_count_1 10 rfl) rfl rfl (by decide) rfl inX3 (by decide) rfl wF_X5_111 (rP q1 rfl) ?_
      refine T.iload_n (pc' := 150) (q_d dX5_count_1 11 rfl) rfl rfl rfl ?_
      refine T.bipush (pc' := 152) (v := nI 20) (q_d dX5_count_1 12 rfl) rfl (by decide) ?_
      refine T.isub (pc' := 153) (q_d dX5_count_1 13 rfl) rfl (nN_sub (by omega)) ?_
      refine T.iald (pc' := 154) (q_d dX5_count_1 14 rfl) rfl rfl (by decide) rfl (by omega) (by decide) (e6 (u - 20) (by omega)) ?_
      refine T.goto (tgt := 159) (q_d dX5_count_1 15 rfl) (by decide) ?_
      refine T.iret (q_d dX5_count_1 17 rfl) rfl rfl rfl ?_
      refine ⟨?_, pa, sw, hX0⟩
      unfold qCount
      rw [if_neg (by omega), if_neg (by omega), if_neg (by omega), if_neg (by omega), if_neg (by omega), if_neg (by omega), if_neg (by omega), if_neg (by omega)]
      first
        | (rw [if_pos z9]; done)
        | (by_cases q : inS u 20 22 = true
           · rw [if_pos q] at h139; exact absurd h139 (by decide)
           · rw [if_neg (fun z => q (e.mpr z))])
theorem c_undo (hX : RX M b s k was n t pa sw) : Ct l hdX kX mX5_undo [.ref 0] M (OX b (oUndo s k was n t)) := by
  refine Ct.of [some (.ref 0)] (by decide +kernel) (fun h => absurd h (by decide)) (Nat.le_of_ble_eq_true rfl) rfl ?_
  have hX0 := hX
  obtain ⟨q1, q2, q3, q4, q5, q6, q7, q8, q9, q10⟩ := hX
  by_cases h0 : k = 0
  · refine T.aload_n (pc' := 1) (q_d dX5_undo_0 0 rfl) rfl rfl rfl ?_
    refine T.getI (pc' := 4) (ci := 5) (k0 := 3) (q_d dX5_undo_0 1 rfl) rfl rfl (by decide) rfl inX5 (by decide) rfl wF_X5_219 q5 ?_
    refine T.if_gtN (tgt := 10) (pc' := 7) (q_d dX5_undo_0 2 rfl) rfl (by decide) (by omega) (fun h4 => ?_) (fun h4 => ?_)
    · exact absurd h4 (by omega)
    · refine T.ldc (pc' := 9) (v := nI 4293967294) (q_d dX5_undo_0 3 rfl) rfl wN_X5_87 ?_
      refine T.iret (q_d dX5_undo_0 4 rfl) rfl rfl rfl ?_
      exact ⟨by unfold oUndo; rw [if_pos h0], pa, sw, by unfold oUndo; rw [if_pos h0]; exact hX0⟩
  · have hk1 : k - 1 < k := by omega
    have hk4 : k - 1 < 4 := by omega
    have hg := q2.ge hk4
    have hr : RS (qI M 0 3 (k - 1)) (pa (k - 1)) (was (k - 1)) := (q7 (k - 1) hk1).1.mono (fun a a1 a2 => by funext j; exact qI_ne (Or.inl (by omega)))
    refine T.aload_n (pc' := 1) (q_d dX5_undo_0 0 rfl) rfl rfl rfl ?_
    refine T.getI (pc' := 4) (ci := 5) (k0 := 3) (q_d dX5_undo_0 1 rfl) rfl rfl (by decide) rfl inX5 (by decide) rfl wF_X5_219 q5 ?_
    refine T.if_gtN (tgt := 10) (pc' := 7) (q_d dX5_undo_0 2 rfl) rfl (by decide) (by omega) (fun h4 => ?_) (fun h4 => ?_)
    · refine T.aload_n (pc' := 11) (q_d dX5_undo_0 5 rfl) rfl rfl rfl ?_
      refine T.dup (pc' := 12) (q_d dX5_undo_0 6 rfl) rfl rfl ?_
      refine T.getI (pc' := 15) (ci := 5) (k0 := 3) (q_d dX5_undo_0 7 rfl) rfl rfl (by decide) rfl inX5 (by decide) rfl wF_X5_219 q5 ?_
      refine T.iconst (pc' := 16) (v := nI 1) (q_d dX5_undo_0 8 rfl) rfl (by decide) ?_
      refine T.isub (pc' := 17) (q_d dX5_undo_0 9 rfl) rfl (nN_sub (by omega)) ?_
      refine T.putI (pc' := 20) (ci := 5) (k0 := 3) (q_d dX5_undo_0 10 rfl) rfl rfl (by decide) rfl inX5 tyX5 tyX5_ok nmX5 (by decide) rfl wF_X5_219 rfl rfl rfl ?_
      refine T.aload_n (pc' := 21) (q_d dX5_undo_0 11 rfl) rfl rfl rfl ?_
      refine T.getR (pc' := 24) (ci := 5) (k0 := 0) (q_d dX5_undo_0 12 rfl) rfl rfl (by decide) rfl inX5 (by decide) rfl wF_X5_10 (rP (P := pX pa sw) (by first | exact (show M2.2.2 = _ by rw [g2.1]; exact q1) | exact q1) rfl) ?_
      refine T.aload_n (pc' := 25) (q_d dX5_undo_0 13 rfl) rfl rfl rfl ?_
      refine T.getR (pc' := 28) (ci := 5) (k0 := 2) (q_d dX5_undo_0 14 rfl) rfl rfl (by decide) rfl inX5 (by decide) rfl wF_X5_19 (rP (P := pX pa sw) (by first | exact (show M2.2.2 = _ by rw [g2.1]; exact q1) | exact q1) rfl) ?_
      refine T.aload_n (pc' := 29) (q_d dX5_undo_0 15 rfl) rfl rfl rfl ?_
      refine T.getI (pc' := 32) (ci := 5) (k0 := 3) (q_d dX5_undo_0 16 rfl) rfl rfl (by decide) rfl inX5 (by decide) rfl wF_X5_219 qI_eq ?_
      refine T.qald (pc' := 33) (q_d dX5_undo_0 17 rfl) rfl (Or.inl rfl) rfl (by decide) rfl (by omega) (by decide) (rP q1 (if_pos hk4)) ?_
      refine T.callV (pc' := 36) (ci := 3) (q_d dX5_undo_0 18 rfl) rfl uX3_takeFrom wM_X5_225 (c_takeFrom (Or.inl rfl) (q2.so hk4) (show 1 + 8 ≤ pa (k - 1) ∨ pa (k - 1) + 8 ≤ 1 from Or.inl (by omega)) q1 hr) rfl rfl (by decide) rfl rfl (by decide) (Nat.le_of_ble_eq_true rfl) rfl rfl (fun _ => rfl) ?_
      rintro _ M2 ⟨rfl, g1, g2⟩
      dsimp only [Option.toList, List.cons_append, List.nil_append, List.append_nil]
      refine T.aload_n (pc' := 37) (q_d dX5_undo_0 19 rfl) rfl rfl rfl ?_
      refine T.callV (pc' := 40) (ci := 5) (q_d dX5_undo_0 20 rfl) rfl uX5_forgetTables wM_X5_73 c_forgetTables rfl rfl (by decide) rfl rfl (by decide) (Nat.le_of_ble_eq_true rfl) rfl rfl (fun _ => rfl) ?_
      rintro _ _ ⟨rfl, e8⟩
      subst e8
      have hY : RX (qI M 0 3 (k - 1)) b s (k - 1) was n t pa sw := ⟨q1, q2, q3.mono (fun a a1 a2 => by funext j; exact qI_ne (Or.inl (by omega))), q4, qI_eq, by omega, fun i hi => ⟨(q7 i (by omega)).1.mono (fun a a1 a2 => by have := q2.ge (show i < 4 by omega); funext j; exact qI_ne (Or.inl (by omega))), (q7 i (by omega)).2⟩, ⟨by rw [qI_ne (Or.inl (by decide))]; exact q8.1, fun i hi => by rw [qI_ne (Or.inl (by decide))]; exact q8.2 i hi⟩, q9, q10.mono ⟨qI_ne (Or.inr (by decide)), qI_ne (Or.inr (by decide)), qI_ne (Or.inr (by decide))⟩ (fun a a1 a2 => by funext j; exact qI_ne (Or.inl (by omega)))⟩
      obtain ⟨hF, hT⟩ := hY.forget
      have e3 : (qI (qI (qI M2 0 8 0) 0 9 0) 0 10 0).1 0 3 = k - 1 := by rw [qI_ne (Or.inr (by decide)), qI_ne (Or.inr (by decide)), qI_ne (Or.inr (by decide)), g2.2 0 (by decide), qI_eq]
      have hG : RX (qI (qI (qI M2 0 8 0) 0 9 0) 0 10 0) b (was (k - 1)) (k - 1) was n t pa sw := by
        refine hF.now (g1.mono (fun a a1 a2 => ?_)) (q7 (k - 1) hk1).2 (Nat.le_refl _) ⟨g2.1, fun a a1 => ?_⟩ (hT _)
        · funext j; rw [qI_ne (Or.inl (by omega)), qI_ne (Or.inl (by omega)), qI_ne (Or.inl (by omega))]
        · funext j
          by_cases e : a = 0 ∧ (j = 8 ∨ j = 9 ∨ j = 10)
          · obtain ⟨rfl, e | e | e⟩ := e <;> subst e <;> simp [qI]
          · by_cases ea : a = 0
            · subst ea
              rw [qI_ne (Or.inr (by omega)), qI_ne (Or.inr (by omega)), qI_ne (Or.inr (by omega)), qI_ne (Or.inr (by omega)), qI_ne (Or.inr (by omega)), qI_ne (Or.inr (by omega)), g2.2 0 (by decide)]
            · rw [qI_ne (Or.inl ea), qI_ne (Or.inl ea), qI_ne (Or.inl ea), qI_ne (Or.inl ea), qI_ne (Or.inl ea), qI_ne (Or.inl ea), g2.2 a a1]
      dsimp only [Option.toList, List.cons_append, List.nil_append, List.append_nil]
      refine T.aload_n (pc' := 41) (q_d dX5_undo_0 21 rfl) rfl rfl rfl ?_
      refine T.getI (pc' := 44) (ci := 5) (k0 := 3) (q_d dX5_undo_0 22 rfl) rfl rfl (by decide) rfl inX5 (by decide) rfl wF_X5_219 e3 ?_
      refine T.iret (q_d dX5_undo_0 23 rfl) rfl rfl rfl ?_
      exact ⟨by unfold oUndo; rw [if_neg h0], pa, sw, by unfold oUndo; rw [if_neg h0]; exact hG⟩
    · exact absurd h4 (by omega)
end CX5E
end
section
/-! constructors: a memory of a list of writes -/
def qIW : List (Nat × Nat × Nat) → Nat → Nat → Nat
  | [] => fun _ _ => 0
  | (a, k, x) :: w => fun b j => if b = a ∧ j = k then x else qIW w b j
def qRW : List (Nat × Nat × Nat) → Nat → Nat → Option Nat
  | [] => fun _ _ => none
  | (a, k, x) :: w => fun b j => if b = a ∧ j = k then some x else qRW w b j
def MM (wi wr : List (Nat × Nat × Nat)) : qM := (qIW wi, fun _ _ => 0, qRW wr)
theorem qIW_out {b j : Nat} : ∀ {w : List (Nat × Nat × Nat)}, (∀ x ∈ w, ¬(x.1 = b ∧ x.2.1 = j)) → qIW w b j = 0
  | [], _ => rfl
  | (a, k, x) :: w, h => by
    have h1 := h (a, k, x) List.mem_cons_self
    show (if b = a ∧ j = k then x else qIW w b j) = 0
    rw [if_neg (fun q => h1 ⟨q.1.symm, q.2.symm⟩)]
    exact qIW_out (fun y hy => h y (List.mem_cons_of_mem _ hy))
theorem qRW_out {b j : Nat} : ∀ {w : List (Nat × Nat × Nat)}, (∀ x ∈ w, ¬(x.1 = b ∧ x.2.1 = j)) → qRW w b j = none
  | [], _ => rfl
  | (a, k, x) :: w, h => by
    have h1 := h (a, k, x) List.mem_cons_self
    show (if b = a ∧ j = k then some x else qRW w b j) = none
    rw [if_neg (fun q => h1 ⟨q.1.symm, q.2.symm⟩)]
    exact qRW_out (fun y hy => h y (List.mem_cons_of_mem _ hy))
theorem qIW_z {c : Nat} {w wr : List (Nat × Nat × Nat)} (h : ∀ x ∈ w, x.1 < c) : (MM w wr).1 c = fun _ => 0 :=
  funext fun _ => qIW_out (fun x hx q => Nat.lt_irrefl _ (Nat.lt_of_lt_of_eq (h x hx) q.1.symm))
theorem qRW_z {c : Nat} {w wi : List (Nat × Nat × Nat)} (h : ∀ x ∈ w, x.1 < c) : (MM wi w).2.2 c = fun _ => none :=
  funext fun _ => qRW_out (fun x hx q => Nat.lt_irrefl _ (Nat.lt_of_lt_of_eq (h x hx) q.1.symm))
section Ini
variable {l : Launch} {hd : qH} {κ : qG} {μ : qMI} {Q : Option Value → qM → Prop} {cs sl pc pc' : Nat} {loc : List (Option Value)} {st : List Value} {M : qM} {wi wr : List (Nat × Nat × Nat)} {a k0 x n0 : Nat}
theorem T.at {cs' sl' : Nat} (h1 : cs = cs') (h2 : sl = sl') (k : T l hd κ μ Q cs' sl' pc loc st M) : T l hd κ μ Q cs sl pc loc st M := by
  subst h1; subst h2; exact k
theorem T.wI (k : T l hd κ μ Q cs sl pc loc st (MM ((a, k0, x) :: wi) wr)) : T l hd κ μ Q cs sl pc loc st (qI (MM wi wr) a k0 x) := k
theorem T.wR (k : T l hd κ μ Q cs sl pc loc st (MM wi ((a, k0, x) :: wr))) : T l hd κ μ Q cs sl pc loc st (qR (MM wi wr) a k0 (some x)) := k
theorem wA_eq {c : Nat} (h : (MM wi wr).2.2 c = fun _ => none) : ((MM wi wr).1, (MM wi wr).2.1, fun b j => if b = c then (if j < 5 then some (c + 1 + j) else none) else (MM wi wr).2.2 b j) = MM wi ((c, 4, c + 5) :: (c, 3, c + 4) :: (c, 2, c + 3) :: (c, 1, c + 2) :: (c, 0, c + 1) :: wr) := by
  refine Prod.ext rfl (Prod.ext rfl (funext fun b => funext fun j => ?_))
  show (if b = c then (if j < 5 then some (c + 1 + j) else none) else (MM wi wr).2.2 b j) = (if b = c ∧ j = 4 then some (c + 5) else if b = c ∧ j = 3 then some (c + 4) else if b = c ∧ j = 2 then some (c + 3) else if b = c ∧ j = 1 then some (c + 2) else if b = c ∧ j = 0 then some (c + 1) else (MM wi wr).2.2 b j)
  by_cases hb : b = c
  · subst hb
    rw [h]
    by_cases h5 : j < 5
    · rcases (by omega : j = 0 ∨ j = 1 ∨ j = 2 ∨ j = 3 ∨ j = 4) with rfl | rfl | rfl | rfl | rfl <;> simp <;> omega
    · rw [if_pos rfl, if_neg h5, if_neg (by omega), if_neg (by omega), if_neg (by omega), if_neg (by omega), if_neg (by omega)]
  · simp [hb]
theorem T.wA {c : Nat} (h : (MM wi wr).2.2 c = fun _ => none) (k : T l hd κ μ Q cs sl pc loc st (MM wi ((c, 4, c + 5) :: (c, 3, c + 4) :: (c, 2, c + 3) :: (c, 1, c + 2) :: (c, 0, c + 1) :: wr))) : T l hd κ μ Q cs sl pc loc st ((MM wi wr).1, (MM wi wr).2.1, fun b j => if b = c then (if j < 5 then some (c + 1 + j) else none) else (MM wi wr).2.2 b j) := by
  rw [wA_eq h]; exact k
theorem i_X3 (ha : hd a = .inl 3) (ha0 : a < n0) (h0 : hd (n0 + 0) = .inr (0, 7)) (h1 : hd (n0 + 1) = .inr (0, 7)) (h2 : hd (n0 + 2) = .inr (0, 7)) (h3 : hd (n0 + 3) = .inr (0, 3)) (h4 : hd (n0 + 4) = .inr (0, 8)) (h5 : hd (n0 + 5) = .inr (0, 8)) (h6 : hd (n0 + 6) = .inr (0, 8)) (hwi : ∀ w ∈ wi, w.1 < n0) :
    Ct l hd (n0, true, 7, 48) mX3_init [.ref a] (MM wi wr) (fun v M' => v = none ∧ M' = MM ((n0 + 3, 2, 1) :: wi) ((a, 9, n0 + 6) :: (a, 8, n0 + 5) :: (a, 7, n0 + 4) :: (a, 4, n0 + 3) :: (a, 3, n0 + 2) :: (a, 2, n0 + 1) :: (a, 1, n0 + 0) :: wr)) := by
  refine Ct.of [some (.ref a)] (by decide +kernel) (fun _ => rfl) (Nat.le_of_ble_eq_true rfl) rfl ?_
  refine T.aload_n (pc' := 1) (q_d dX3_init_0 0 rfl) rfl rfl rfl ?_
  refine T.objInit (pc' := 4) (q_d dX3_init_0 1 rfl) rfl wM_X3_3 wI_obj wC_obj (by decide) (Nat.le_of_ble_eq_true rfl) ?_
  refine T.aload_n (pc' := 5) (q_d dX3_init_0 2 rfl) rfl rfl rfl ?_
  refine T.bipush (pc' := 7) (v := nI 7) (q_d dX3_init_0 3 rfl) rfl (by decide) ?_
  refine T.newI (pc' := 9) (N := 7) (q_d dX3_init_0 4 rfl) rfl rfl wA_int rfl (by decide) h0 (qIW_z (fun w h => Nat.lt_of_lt_of_le (hwi w h) (Nat.le_add_right _ _))) (by decide) (by decide) ?_
  refine T.at (cs' := 1) (sl' := 7) rfl rfl ?_
  refine T.top (v' := .ref (n0 + 0)) rfl ?_
  refine T.putRF (pc' := 12) (ci := 3) (k0 := 1) (q_d dX3_init_0 5 rfl) rfl ha (Nat.lt_of_lt_of_le ha0 (Nat.le_add_right _ _)) rfl inX3 tyX3 tyX3_ok nmX3 (by decide) rfl wF_X3_9 rfl rfl rfl (fun _ => rfl) (fun _ => rfl) ?_
  refine T.wR ?_
  refine T.aload_n (pc' := 13) (q_d dX3_init_0 6 rfl) rfl rfl rfl ?_
  refine T.bipush (pc' := 15) (v := nI 7) (q_d dX3_init_0 7 rfl) rfl (by decide) ?_
  refine T.newI (pc' := 17) (N := 7) (q_d dX3_init_0 8 rfl) rfl rfl wA_int rfl (by decide) h1 (qIW_z (fun w h => Nat.lt_of_lt_of_le (hwi w h) (Nat.le_add_right _ _))) (by decide) (by decide) ?_
  refine T.at (cs' := 2) (sl' := 14) rfl rfl ?_
  refine T.top (v' := .ref (n0 + 1)) rfl ?_
  refine T.putRF (pc' := 20) (ci := 3) (k0 := 2) (q_d dX3_init_0 9 rfl) rfl ha (Nat.lt_of_lt_of_le ha0 (Nat.le_add_right _ _)) rfl inX3 tyX3 tyX3_ok nmX3 (by decide) rfl wF_X3_15 rfl rfl rfl (fun _ => rfl) (fun _ => rfl) ?_
  refine T.wR ?_
  refine T.aload_n (pc' := 21) (q_d dX3_init_0 10 rfl) rfl rfl rfl ?_
  refine T.bipush (pc' := 23) (v := nI 7) (q_d dX3_init_0 11 rfl) rfl (by decide) ?_
  refine T.newI (pc' := 25) (N := 7) (q_d dX3_init_0 12 rfl) rfl rfl wA_int rfl (by decide) h2 (qIW_z (fun w h => Nat.lt_of_lt_of_le (hwi w h) (Nat.le_add_right _ _))) (by decide) (by decide) ?_
  refine T.at (cs' := 3) (sl' := 21) rfl rfl ?_
  refine T.top (v' := .ref (n0 + 2)) rfl ?_
  refine T.putRF (pc' := 28) (ci := 3) (k0 := 3) (q_d dX3_init_0 13 rfl) rfl ha (Nat.lt_of_lt_of_le ha0 (Nat.le_add_right _ _)) rfl inX3 tyX3 tyX3_ok nmX3 (by decide) rfl wF_X3_18 rfl rfl rfl (fun _ => rfl) (fun _ => rfl) ?_
  refine T.wR ?_
  refine T.aload_n (pc' := 29) (q_d dX3_init_0 14 rfl) rfl rfl rfl ?_
  refine T.iconst (pc' := 30) (v := nI 3) (q_d dX3_init_0 15 rfl) rfl (by decide) ?_
  refine T.newI (pc' := 32) (N := 3) (q_d dX3_init_0 16 rfl) rfl rfl wA_int rfl (by decide) h3 (qIW_z (fun w h => Nat.lt_of_lt_of_le (hwi w h) (Nat.le_add_right _ _))) (by decide) (by decide) ?_
  refine T.at (cs' := 4) (sl' := 24) rfl rfl ?_
  refine T.top (v' := .ref (n0 + 3)) rfl ?_
  refine T.putRF (pc' := 35) (ci := 3) (k0 := 4) (q_d dX3_init_0 17 rfl) rfl ha (Nat.lt_of_lt_of_le ha0 (Nat.le_add_right _ _)) rfl inX3 tyX3 tyX3_ok nmX3 (by decide) rfl wF_X3_21 rfl rfl rfl (fun _ => rfl) (fun _ => rfl) ?_
  refine T.wR ?_
  refine T.aload_n (pc' := 36) (q_d dX3_init_0 18 rfl) rfl rfl rfl ?_
  refine T.bipush (pc' := 38) (v := nI 8) (q_d dX3_init_0 19 rfl) rfl (by decide) ?_
  refine T.newI (pc' := 40) (N := 8) (q_d dX3_init_0 20 rfl) rfl rfl wA_int rfl (by decide) h4 (qIW_z (fun w h => Nat.lt_of_lt_of_le (hwi w h) (Nat.le_add_right _ _))) (by decide) (by decide) ?_
  refine T.at (cs' := 5) (sl' := 32) rfl rfl ?_
  refine T.top (v' := .ref (n0 + 4)) rfl ?_
  refine T.putRF (pc' := 43) (ci := 3) (k0 := 7) (q_d dX3_init_0 21 rfl) rfl ha (Nat.lt_of_lt_of_le ha0 (Nat.le_add_right _ _)) rfl inX3 tyX3 tyX3_ok nmX3 (by decide) rfl wF_X3_24 rfl rfl rfl (fun _ => rfl) (fun _ => rfl) ?_
  refine T.wR ?_
  refine T.aload_n (pc' := 44) (q_d dX3_init_0 22 rfl) rfl rfl rfl ?_
  refine T.bipush (pc' := 46) (v := nI 8) (q_d dX3_init_0 23 rfl) rfl (by decide) ?_
  refine T.newI (pc' := 48) (N := 8) (q_d dX3_init_0 24 rfl) rfl rfl wA_int rfl (by decide) h5 (qIW_z (fun w h => Nat.lt_of_lt_of_le (hwi w h) (Nat.le_add_right _ _))) (by decide) (by decide) ?_
  refine T.at (cs' := 6) (sl' := 40) rfl rfl ?_
  refine T.top (v' := .ref (n0 + 5)) rfl ?_
  refine T.putRF (pc' := 51) (ci := 3) (k0 := 8) (q_d dX3_init_0 25 rfl) rfl ha (Nat.lt_of_lt_of_le ha0 (Nat.le_add_right _ _)) rfl inX3 tyX3 tyX3_ok nmX3 (by decide) rfl wF_X3_27 rfl rfl rfl (fun _ => rfl) (fun _ => rfl) ?_
  refine T.wR ?_
  refine T.aload_n (pc' := 52) (q_d dX3_init_0 26 rfl) rfl rfl rfl ?_
  refine T.bipush (pc' := 54) (v := nI 8) (q_d dX3_init_0 27 rfl) rfl (by decide) ?_
  refine T.newI (pc' := 56) (N := 8) (q_d dX3_init_0 28 rfl) rfl rfl wA_int rfl (by decide) h6 (qIW_z (fun w h => Nat.lt_of_lt_of_le (hwi w h) (Nat.le_add_right _ _))) (by decide) (by decide) ?_
  refine T.at (cs' := 7) (sl' := 48) rfl rfl ?_
  refine T.top (v' := .ref (n0 + 6)) rfl ?_
  refine T.putRF (pc' := 59) (ci := 3) (k0 := 9) (q_d dX3_init_0 29 rfl) rfl ha (Nat.lt_of_lt_of_le ha0 (Nat.le_add_right _ _)) rfl inX3 tyX3 tyX3_ok nmX3 (by decide) rfl wF_X3_30 rfl rfl rfl (fun _ => rfl) (fun _ => rfl) ?_
  refine T.wR ?_
  refine T.aload_n (pc' := 60) (q_d dX3_init_0 30 rfl) rfl rfl rfl ?_
  refine T.getR (pc' := 63) (ci := 3) (k0 := 4) (q_d dX3_init_0 31 rfl) rfl ha (Nat.lt_of_lt_of_le ha0 (Nat.le_add_right _ _)) rfl inX3 (by decide) rfl wF_X3_21 (show _ = some (n0 + 3) by simp [MM, qRW]) ?_
  refine T.iconst (pc' := 64) (v := nI 2) (q_d dX3_init_0 32 rfl) rfl (by decide) ?_
  refine T.iconst (pc' := 65) (v := nI 1) (q_d dX3_init_0 33 rfl) rfl (by decide) ?_
  refine T.iast (pc' := 66) (q_d dX3_init_0 34 rfl) rfl h3 (Nat.add_lt_add_left (by decide) _) rfl (by omega) (by decide) ?_
  refine T.wI ?_
  refine T.vret (q_d dX3_init_0 35 rfl) rfl rfl rfl ?_
  exact ⟨rfl, rfl⟩
theorem i_X2 (ha : hd a = .inl 2) (ha0 : a < n0) (h0 : hd (n0 + 0) = .inr (2, 60)) (hwi : ∀ w ∈ wi, w.1 < n0) :
    Ct l hd (n0, true, 1, 60) mX2_init [.ref a] (MM wi wr) (fun v M' => v = none ∧ M' = MM wi ((a, 0, n0 + 0) :: wr)) := by
  refine Ct.of [some (.ref a)] (by decide +kernel) (fun _ => rfl) (Nat.le_of_ble_eq_true rfl) rfl ?_
  refine T.aload_n (pc' := 1) (q_d dX2_init_0 0 rfl) rfl rfl rfl ?_
  refine T.objInit (pc' := 4) (q_d dX2_init_0 1 rfl) rfl wM_X2_3 wI_obj wC_obj (by decide) (Nat.le_of_ble_eq_true rfl) ?_
  refine T.aload_n (pc' := 5) (q_d dX2_init_0 2 rfl) rfl rfl rfl ?_
  refine T.bipush (pc' := 7) (v := nI 60) (q_d dX2_init_0 3 rfl) rfl (by decide) ?_
  refine T.newC (pc' := 9) (N := 60) (q_d dX2_init_0 4 rfl) rfl rfl wA_char rfl (by decide) h0 (qIW_z (fun w h => Nat.lt_of_lt_of_le (hwi w h) (Nat.le_add_right _ _))) (by decide) (by decide) ?_
  refine T.at (cs' := 1) (sl' := 60) rfl rfl ?_
  refine T.top (v' := .ref (n0 + 0)) rfl ?_
  refine T.putRF (pc' := 12) (ci := 2) (k0 := 0) (q_d dX2_init_0 5 rfl) rfl ha (Nat.lt_of_lt_of_le ha0 (Nat.le_add_right _ _)) rfl inX2 tyX2 tyX2_ok nmX2 (by decide) rfl wF_X2_9 rfl rfl rfl (fun _ => rfl) (fun _ => rfl) ?_
  refine T.wR ?_
  refine T.vret (q_d dX2_init_0 6 rfl) rfl rfl rfl ?_
  exact ⟨rfl, rfl⟩
theorem i_X1 (ha : hd a = .inl 1) (ha0 : a < n0) (h0 : hd (n0 + 0) = .inr (5, 5)) (hr : ∀ j, j < 5 → hd (n0 + 0 + 1 + j) = .inr (0, 128)) (h6 : hd (n0 + 6) = .inr (0, 5)) (h7 : hd (n0 + 7) = .inr (0, 128)) (hwi : ∀ w ∈ wi, w.1 < n0) (hwr : ∀ w ∈ wr, w.1 < n0) :
    Ct l hd (n0, true, 8, 778) mX1_init [.ref a] (MM wi wr) (fun v M' => v = none ∧ M' = MM wi ((a, 2, n0 + 7) :: (a, 1, n0 + 6) :: (a, 0, n0 + 0) :: (n0 + 0, 4, n0 + 0 + 5) :: (n0 + 0, 3, n0 + 0 + 4) :: (n0 + 0, 2, n0 + 0 + 3) :: (n0 + 0, 1, n0 + 0 + 2) :: (n0 + 0, 0, n0 + 0 + 1) :: wr)) := by
  refine Ct.of [some (.ref a)] (by decide +kernel) (fun _ => rfl) (Nat.le_of_ble_eq_true rfl) rfl ?_
  refine T.aload_n (pc' := 1) (q_d dX1_init_0 0 rfl) rfl rfl rfl ?_
  refine T.objInit (pc' := 4) (q_d dX1_init_0 1 rfl) rfl wM_X1_3 wI_obj wC_obj (by decide) (Nat.le_of_ble_eq_true rfl) ?_
  refine T.aload_n (pc' := 5) (q_d dX1_init_0 2 rfl) rfl rfl rfl ?_
  refine T.iconst (pc' := 6) (v := nI 5) (q_d dX1_init_0 3 rfl) rfl (by decide) ?_
  refine T.sipush (pc' := 9) (v := nI 128) (q_d dX1_init_0 4 rfl) rfl (by decide) ?_
  refine T.mna (pc' := 13) (N := 5) (K := 128) (q_d dX1_init_0 5 rfl) rfl rfl wL_X1_9 wA_int rfl rfl (by decide) (by decide) h0 hr (fun j _ => qIW_z (fun w h => Nat.lt_of_lt_of_le (hwi w h) (Nat.le_trans (Nat.le_add_right _ _) (Nat.le_add_right _ _)))) (by decide) (by decide) ?_
  refine T.wA (c := n0 + 0) (qRW_z (fun w h => Nat.lt_of_lt_of_le (hwr w h) (Nat.le_add_right _ _))) ?_
  refine T.top (v' := .ref (n0 + 0)) rfl ?_
  refine T.at (cs' := 6) (sl' := 645) rfl rfl ?_
  refine T.putRF (pc' := 16) (ci := 1) (k0 := 0) (q_d dX1_init_0 6 rfl) rfl ha (Nat.lt_of_lt_of_le ha0 (Nat.le_add_right _ _)) rfl inX1 tyX1 tyX1_ok nmX1 (by decide) rfl wF_X1_11 rfl rfl rfl (fun _ => rfl) (fun _ => rfl) ?_
  refine T.wR ?_
  refine T.aload_n (pc' := 17) (q_d dX1_init_0 7 rfl) rfl rfl rfl ?_
  refine T.iconst (pc' := 18) (v := nI 5) (q_d dX1_init_0 8 rfl) rfl (by decide) ?_
  refine T.newI (pc' := 20) (N := 5) (q_d dX1_init_0 9 rfl) rfl rfl wA_int rfl (by decide) h6 (qIW_z (fun w h => Nat.lt_of_lt_of_le (hwi w h) (Nat.le_add_right _ _))) (by decide) (by decide) ?_
  refine T.at (cs' := 7) (sl' := 650) rfl rfl ?_
  refine T.top (v' := .ref (n0 + 6)) rfl ?_
  refine T.putRF (pc' := 23) (ci := 1) (k0 := 1) (q_d dX1_init_0 10 rfl) rfl ha (Nat.lt_of_lt_of_le ha0 (Nat.le_add_right _ _)) rfl inX1 tyX1 tyX1_ok nmX1 (by decide) rfl wF_X1_16 rfl rfl rfl (fun _ => rfl) (fun _ => rfl) ?_
  refine T.wR ?_
  refine T.aload_n (pc' := 24) (q_d dX1_init_0 11 rfl) rfl rfl rfl ?_
  refine T.sipush (pc' := 27) (v := nI 128) (q_d dX1_init_0 12 rfl) rfl (by decide) ?_
  refine T.newI (pc' := 29) (N := 128) (q_d dX1_init_0 13 rfl) rfl rfl wA_int rfl (by decide) h7 (qIW_z (fun w h => Nat.lt_of_lt_of_le (hwi w h) (Nat.le_add_right _ _))) (by decide) (by decide) ?_
  refine T.at (cs' := 8) (sl' := 778) rfl rfl ?_
  refine T.top (v' := .ref (n0 + 7)) rfl ?_
  refine T.putRF (pc' := 32) (ci := 1) (k0 := 2) (q_d dX1_init_0 14 rfl) rfl ha (Nat.lt_of_lt_of_le ha0 (Nat.le_add_right _ _)) rfl inX1 tyX1 tyX1_ok nmX1 (by decide) rfl wF_X1_20 rfl rfl rfl (fun _ => rfl) (fun _ => rfl) ?_
  refine T.wR ?_
  refine T.vret (q_d dX1_init_0 15 rfl) rfl rfl rfl ?_
  exact ⟨rfl, rfl⟩
theorem i_X0 {u v : Nat} (ha : hd a = .inl 0) (ha0 : a < n0) (h0 : hd (n0 + 0) = .inr (0, 128)) (h1 : hd (n0 + 1) = .inr (0, 128)) (hwi : ∀ w ∈ wi, w.1 < n0) :
    Ct l hd (n0, true, 2, 256) mX0_init [.ref a, .int (nI u), .int (nI v)] (MM wi wr) (fun r M' => r = none ∧ M' = MM ((a, 3, v) :: (a, 2, u) :: wi) ((a, 1, n0 + 1) :: (a, 0, n0 + 0) :: wr)) := by
  refine Ct.of [some (.ref a), some (.int (nI u)), some (.int (nI v))] (by decide +kernel) (fun _ => rfl) (Nat.le_of_ble_eq_true rfl) rfl ?_
  refine T.aload_n (pc' := 1) (q_d dX0_init_0 0 rfl) rfl rfl rfl ?_
  refine T.objInit (pc' := 4) (q_d dX0_init_0 1 rfl) rfl wM_X0_3 wI_obj wC_obj (by decide) (Nat.le_of_ble_eq_true rfl) ?_
  refine T.aload_n (pc' := 5) (q_d dX0_init_0 2 rfl) rfl rfl rfl ?_
  refine T.sipush (pc' := 8) (v := nI 128) (q_d dX0_init_0 3 rfl) rfl (by decide) ?_
  refine T.newI (pc' := 10) (N := 128) (q_d dX0_init_0 4 rfl) rfl rfl wA_int rfl (by decide) h0 (qIW_z (fun w h => Nat.lt_of_lt_of_le (hwi w h) (Nat.le_add_right _ _))) (by decide) (by decide) ?_
  refine T.at (cs' := 1) (sl' := 128) rfl rfl ?_
  refine T.top (v' := .ref (n0 + 0)) rfl ?_
  refine T.putRF (pc' := 13) (ci := 0) (k0 := 0) (q_d dX0_init_0 5 rfl) rfl ha (Nat.lt_of_lt_of_le ha0 (Nat.le_add_right _ _)) rfl inX0 tyX0 tyX0_ok nmX0 (by decide) rfl wF_X0_9 rfl rfl rfl (fun _ => rfl) (fun _ => rfl) ?_
  refine T.wR ?_
  refine T.aload_n (pc' := 14) (q_d dX0_init_0 6 rfl) rfl rfl rfl ?_
  refine T.sipush (pc' := 17) (v := nI 128) (q_d dX0_init_0 7 rfl) rfl (by decide) ?_
  refine T.newI (pc' := 19) (N := 128) (q_d dX0_init_0 8 rfl) rfl rfl wA_int rfl (by decide) h1 (qIW_z (fun w h => Nat.lt_of_lt_of_le (hwi w h) (Nat.le_add_right _ _))) (by decide) (by decide) ?_
  refine T.at (cs' := 2) (sl' := 256) rfl rfl ?_
  refine T.top (v' := .ref (n0 + 1)) rfl ?_
  refine T.putRF (pc' := 22) (ci := 0) (k0 := 1) (q_d dX0_init_0 9 rfl) rfl ha (Nat.lt_of_lt_of_le ha0 (Nat.le_add_right _ _)) rfl inX0 tyX0 tyX0_ok nmX0 (by decide) rfl wF_X0_15 rfl rfl rfl (fun _ => rfl) (fun _ => rfl) ?_
  refine T.wR ?_
  refine T.aload_n (pc' := 23) (q_d dX0_init_0 10 rfl) rfl rfl rfl ?_
  refine T.iload_n (pc' := 24) (q_d dX0_init_0 11 rfl) rfl rfl rfl ?_
  refine T.putIF (pc' := 27) (ci := 0) (k0 := 2) (q_d dX0_init_0 12 rfl) rfl ha (Nat.lt_of_lt_of_le ha0 (Nat.le_add_right _ _)) rfl inX0 tyX0 tyX0_ok nmX0 (by decide) rfl wF_X0_18 rfl rfl rfl rfl rfl ?_
  refine T.wI ?_
  refine T.aload_n (pc' := 28) (q_d dX0_init_0 13 rfl) rfl rfl rfl ?_
  refine T.iload_n (pc' := 29) (q_d dX0_init_0 14 rfl) rfl rfl rfl ?_
  refine T.putIF (pc' := 32) (ci := 0) (k0 := 3) (q_d dX0_init_0 15 rfl) rfl ha (Nat.lt_of_lt_of_le ha0 (Nat.le_add_right _ _)) rfl inX0 tyX0 tyX0_ok nmX0 (by decide) rfl wF_X0_22 rfl rfl rfl rfl rfl ?_
  refine T.wI ?_
  refine T.vret (q_d dX0_init_0 16 rfl) rfl rfl rfl ?_
  exact ⟨rfl, rfl⟩
theorem i_X4 (ha : hd a = .inl 4) (ha0 : a < n0) (h0 : hd (n0 + 0) = .inr (3, 7)) (h1 : hd (n0 + 1) = .inr (3, 7)) :
    Ct l hd (n0, true, 2, 14) mX4_init [.ref a] (MM wi wr) (fun v M' => v = none ∧ M' = MM wi ((a, 1, n0 + 1) :: (a, 0, n0 + 0) :: wr)) := by
  refine Ct.of [some (.ref a)] (by decide +kernel) (fun _ => rfl) (Nat.le_of_ble_eq_true rfl) rfl ?_
  refine T.aload_n (pc' := 1) (q_d dX4_init_0 0 rfl) rfl rfl rfl ?_
  refine T.objInit (pc' := 4) (q_d dX4_init_0 1 rfl) rfl wM_X4_3 wI_obj wC_obj (by decide) (Nat.le_of_ble_eq_true rfl) ?_
  refine T.aload_n (pc' := 5) (q_d dX4_init_0 2 rfl) rfl rfl rfl ?_
  refine T.bipush (pc' := 7) (v := nI 7) (q_d dX4_init_0 3 rfl) rfl (by decide) ?_
  refine T.newJ (pc' := 9) (N := 7) (q_d dX4_init_0 4 rfl) rfl rfl wA_long rfl (by decide) h0 rfl (by decide) (by decide) ?_
  refine T.at (cs' := 1) (sl' := 7) rfl rfl ?_
  refine T.top (v' := .ref (n0 + 0)) rfl ?_
  refine T.putR (pc' := 12) (ci := 4) (k0 := 0) (q_d dX4_init_0 5 rfl) rfl ha (Nat.lt_of_lt_of_le ha0 (Nat.le_add_right _ _)) rfl inX4 tyX4 tyX4_ok nmX4 (by decide) rfl wF_X4_9 rfl (fun _ => rfl) (fun _ => rfl) ?_
  refine T.wR ?_
  refine T.aload_n (pc' := 13) (q_d dX4_init_0 6 rfl) rfl rfl rfl ?_
  refine T.bipush (pc' := 15) (v := nI 7) (q_d dX4_init_0 7 rfl) rfl (by decide) ?_
  refine T.newJ (pc' := 17) (N := 7) (q_d dX4_init_0 8 rfl) rfl rfl wA_long rfl (by decide) h1 rfl (by decide) (by decide) ?_
  refine T.at (cs' := 2) (sl' := 14) rfl rfl ?_
  refine T.top (v' := .ref (n0 + 1)) rfl ?_
  refine T.putR (pc' := 20) (ci := 4) (k0 := 1) (q_d dX4_init_0 9 rfl) rfl ha (Nat.lt_of_lt_of_le ha0 (Nat.le_add_right _ _)) rfl inX4 tyX4 tyX4_ok nmX4 (by decide) rfl wF_X4_15 rfl (fun _ => rfl) (fun _ => rfl) ?_
  refine T.wR ?_
  refine T.vret (q_d dX4_init_0 10 rfl) rfl rfl rfl ?_
  exact ⟨rfl, rfl⟩
end Ini
end
section
/-! a new BlindHunts, a new BlindHuntsModel -/
def s00 (j : Nat) : Nat := if j = 6 then 1 else 0
def pa00 (i : Nat) : Nat := 39 + 8 * i
def wiX : List (Nat × Nat × Nat) := [(67, 2, 1), (59, 2, 1), (51, 2, 1), (43, 2, 1), (32, 3, 4), (32, 2, 4), (29, 3, 3), (29, 2, 0), (13, 2, 1), (5, 2, 1)]
def wrX : List (Nat × Nat × Nat) := [(17, 3, 63), (63, 9, 70), (63, 8, 69), (63, 7, 68), (63, 4, 67), (63, 3, 66), (63, 2, 65), (63, 1, 64), (17, 2, 55), (55, 9, 62), (55, 8, 61), (55, 7, 60), (55, 4, 59), (55, 3, 58), (55, 2, 57), (55, 1, 56), (17, 1, 47), (47, 9, 54), (47, 8, 53), (47, 7, 52), (47, 4, 51), (47, 3, 50), (47, 2, 49), (47, 1, 48), (17, 0, 39), (39, 9, 46), (39, 8, 45), (39, 7, 44), (39, 4, 43), (39, 3, 42), (39, 2, 41), (39, 1, 40), (0, 12, 38), (0, 11, 35), (35, 1, 37), (35, 0, 36), (0, 7, 32), (32, 1, 34), (32, 0, 33), (0, 6, 29), (29, 1, 31), (29, 0, 30), (0, 5, 20), (20, 2, 28), (20, 1, 27), (20, 0, 21), (21, 4, 26), (21, 3, 25), (21, 2, 24), (21, 1, 23), (21, 0, 22), (0, 4, 18), (18, 0, 19), (0, 2, 17), (0, 1, 9), (9, 9, 16), (9, 8, 15), (9, 7, 14), (9, 4, 13), (9, 3, 12), (9, 2, 11), (9, 1, 10), (0, 0, 1), (1, 9, 8), (1, 8, 7), (1, 7, 6), (1, 4, 5), (1, 3, 4), (1, 2, 3), (1, 1, 2)]
theorem WF_00 : WF 0 s00 := by
  refine ⟨by decide, by decide, by decide, by decide, by decide, Or.inl rfl, by decide, by decide, by decide, fun i h1 h2 => ⟨if_neg (by omega), if_neg (by omega)⟩, by decide, fun i j h1 h2 => ?_, fun i j h1 h2 => ?_⟩
  · rw [show s00 (14 + i) = 0 from if_neg (by omega), show s00 (14 + j) = 0 from if_neg (by omega), Nat.zero_testBit, Nat.zero_testBit]
  · rw [show s00 (21 + i) = 0 from if_neg (by omega), Nat.zero_testBit] at h2
    exact absurd h2 (by decide)
theorem pX_out {pa : Nat → Nat} {sw : Bool} {a k : Nat} (h : ¬(a < 71 ∧ k < 14)) : pX pa sw a k = none := by
  unfold pX
  split <;> (first | omega | (repeat' split) <;> (first | omega | (rw [List.getD_eq_getElem?_getD, List.getElem?_eq_none (by simp; omega)]; rfl) | rfl) | rfl)
theorem pX_in : ∀ a, a < 71 → ∀ k, k < 14 → qRW wrX a k = pX pa00 false a k := by decide +kernel
theorem wrX_lt : ∀ w ∈ wrX, w.1 < 71 ∧ w.2.1 < 14 := by decide +kernel
theorem pX_new : qRW wrX = pX pa00 false := by
  funext a k
  by_cases h : a < 71 ∧ k < 14
  · exact pX_in a h.1 k h.2
  · rw [pX_out h]
    exact qRW_out (fun x hx q => h ⟨q.1 ▸ (wrX_lt x hx).1, q.2 ▸ (wrX_lt x hx).2⟩)
theorem PaOk_00 : PaOk pa00 := by
  refine ⟨fun i hi => ?_, fun i j _ _ h => ?_⟩
  · unfold pa00; omega
  · unfold pa00 at h; omega
theorem RX_new (was : Nat → Nat → Nat) (t : Nat → Nat) : RX (MM wiX wrX) 0 s00 0 was 0 t pa00 false := by
  refine ⟨pX_new, PaOk_00, ⟨by decide +kernel, by decide +kernel, by decide +kernel, by decide +kernel, by decide +kernel, by decide +kernel, by decide +kernel, fun k _ h => absurd h (Nat.not_lt_zero _)⟩, WF_00, by decide +kernel, by decide, fun i hi => absurd hi (Nat.not_lt_zero _), ⟨by decide +kernel, fun i hi => absurd hi (Nat.not_lt_zero _)⟩, ⟨by decide, fun i hi => absurd hi (Nat.not_lt_zero _)⟩, by decide +kernel, by decide +kernel, by decide +kernel, fun h => absurd h (by decide +kernel), fun h => absurd h (by decide +kernel), fun h => absurd h (by decide +kernel), by decide +kernel, by decide +kernel, by decide +kernel, by decide +kernel, by decide +kernel⟩
section NewX
variable {l : Launch}
set_option maxRecDepth 20000 in
theorem i_X5 : Ct l hdX (1, true, 70, 1869) mX5_init [.ref 0] (MM [] []) (fun v M' => v = none ∧ M' = MM wiX wrX) := by
  refine Ct.of [some (.ref 0), none] (by decide +kernel) (fun _ => rfl) (Nat.le_of_ble_eq_true rfl) rfl ?_
  refine T.aload_n (pc' := 1) (q_d dX5_init_0 0 rfl) rfl rfl rfl ?_
  refine T.objInit (pc' := 4) (q_d dX5_init_0 1 rfl) rfl wM_X5_1 wI_obj wC_obj (by decide) (Nat.le_of_ble_eq_true rfl) ?_
  refine T.aload_n (pc' := 5) (q_d dX5_init_0 2 rfl) rfl rfl rfl ?_
  refine T.newo (pc' := 8) (ci := 3) (N := 10) (q_d dX5_init_0 3 rfl) rfl rfl rfl rfl inX3 tyX3 tyX3_ok wL_X5_7 wO_X3 wZ_X3 (by decide +kernel) (qIW_z (by decide)) (qRW_z (by decide)) (by decide) (by decide) ?_
  refine T.at (cs' := 1) (sl' := 10) rfl rfl ?_
  refine T.top (v' := .ref 1) rfl ?_
  refine T.dup (pc' := 9) (q_d dX5_init_0 4 rfl) rfl rfl ?_
  refine T.callI (pc' := 12) (q_d dX5_init_0 5 rfl) rfl uX3_init wM_X5_9 (i_X3 (n0 := 2) (a := 1) rfl (by decide) rfl rfl rfl rfl rfl rfl rfl (by decide)) rfl rfl (by decide) (Nat.le_of_ble_eq_true rfl) rfl rfl (fun h => absurd h (by decide)) ?_
  rintro _ _ ⟨rfl, rfl⟩
  dsimp only [Option.toList, List.cons_append, List.nil_append, List.append_nil]
  refine T.at (cs' := 8) (sl' := 58) rfl rfl ?_
  refine T.putRF (pc' := 15) (ci := 5) (k0 := 0) (q_d dX5_init_0 6 rfl) rfl rfl (by decide) rfl inX5 tyX5 tyX5_ok nmX5 (by decide) rfl wF_X5_10 rfl rfl rfl (fun _ => rfl) (fun _ => rfl) ?_
  refine T.wR ?_
  refine T.aload_n (pc' := 16) (q_d dX5_init_0 7 rfl) rfl rfl rfl ?_
  refine T.newo (pc' := 19) (ci := 3) (N := 10) (q_d dX5_init_0 8 rfl) rfl rfl rfl rfl inX3 tyX3 tyX3_ok wL_X5_7 wO_X3 wZ_X3 (by decide +kernel) (qIW_z (by decide)) (qRW_z (by decide)) (by decide) (by decide) ?_
  refine T.at (cs' := 9) (sl' := 68) rfl rfl ?_
  refine T.top (v' := .ref 9) rfl ?_
  refine T.dup (pc' := 20) (q_d dX5_init_0 9 rfl) rfl rfl ?_
  refine T.callI (pc' := 23) (q_d dX5_init_0 10 rfl) rfl uX3_init wM_X5_9 (i_X3 (n0 := 10) (a := 9) rfl (by decide) rfl rfl rfl rfl rfl rfl rfl (by decide)) rfl rfl (by decide) (Nat.le_of_ble_eq_true rfl) rfl rfl (fun h => absurd h (by decide)) ?_
  rintro _ _ ⟨rfl, rfl⟩
  dsimp only [Option.toList, List.cons_append, List.nil_append, List.append_nil]
  refine T.at (cs' := 16) (sl' := 116) rfl rfl ?_
  refine T.putRF (pc' := 26) (ci := 5) (k0 := 1) (q_d dX5_init_0 11 rfl) rfl rfl (by decide) rfl inX5 tyX5 tyX5_ok nmX5 (by decide) rfl wF_X5_16 rfl rfl rfl (fun _ => rfl) (fun _ => rfl) ?_
  refine T.wR ?_
  refine T.aload_n (pc' := 27) (q_d dX5_init_0 12 rfl) rfl rfl rfl ?_
  refine T.iconst (pc' := 28) (v := nI 4) (q_d dX5_init_0 13 rfl) rfl (by decide) ?_
  refine T.newS (pc' := 31) (N := 4) (q_d dX5_init_0 14 rfl) rfl rfl wL_X5_7 rfl (by decide) rfl (qRW_z (by decide)) (by decide) (by decide) ?_
  refine T.at (cs' := 17) (sl' := 120) rfl rfl ?_
  refine T.top (v' := .ref 17) rfl ?_
  refine T.putRF (pc' := 34) (ci := 5) (k0 := 2) (q_d dX5_init_0 15 rfl) rfl rfl (by decide) rfl inX5 tyX5 tyX5_ok nmX5 (by decide) rfl wF_X5_19 rfl rfl rfl (fun _ => rfl) (fun _ => rfl) ?_
  refine T.wR ?_
  refine T.aload_n (pc' := 35) (q_d dX5_init_0 16 rfl) rfl rfl rfl ?_
  refine T.newo (pc' := 38) (ci := 2) (N := 9) (q_d dX5_init_0 17 rfl) rfl rfl rfl rfl inX2 tyX2 tyX2_ok wL_X5_23 wO_X2 wZ_X2 (by decide +kernel) (qIW_z (by decide)) (qRW_z (by decide)) (by decide) (by decide) ?_
  refine T.at (cs' := 18) (sl' := 129) rfl rfl ?_
  refine T.top (v' := .ref 18) rfl ?_
  refine T.dup (pc' := 39) (q_d dX5_init_0 18 rfl) rfl rfl ?_
  refine T.callIN (pc' := 42) (q_d dX5_init_0 19 rfl) rfl uX2_init (fun _ h => h.2.2.1) (i_X2 (n0 := 19) (a := 18) rfl (by decide) rfl (by decide)) rfl rfl rfl (by decide) (Nat.le_of_ble_eq_true rfl) rfl rfl (fun h => absurd h (by decide)) ?_
  rintro _ _ ⟨rfl, rfl⟩
  dsimp only [Option.toList, List.cons_append, List.nil_append, List.append_nil]
  refine T.at (cs' := 19) (sl' := 189) rfl rfl ?_
  refine T.putRF (pc' := 45) (ci := 5) (k0 := 4) (q_d dX5_init_0 20 rfl) rfl rfl (by decide) rfl inX5 tyX5 tyX5_ok nmX5 (by decide) rfl wF_X5_26 rfl rfl rfl (fun _ => rfl) (fun _ => rfl) ?_
  refine T.wR ?_
  refine T.aload_n (pc' := 46) (q_d dX5_init_0 21 rfl) rfl rfl rfl ?_
  refine T.newo (pc' := 49) (ci := 1) (N := 6) (q_d dX5_init_0 22 rfl) rfl rfl rfl rfl inX1 tyX1 tyX1_ok wL_X5_30 wO_X1 wZ_X1 (by decide +kernel) (qIW_z (by decide)) (qRW_z (by decide)) (by decide) (by decide) ?_
  refine T.at (cs' := 20) (sl' := 195) rfl rfl ?_
  refine T.top (v' := .ref 20) rfl ?_
  refine T.dup (pc' := 50) (q_d dX5_init_0 23 rfl) rfl rfl ?_
  refine T.callIN (pc' := 53) (q_d dX5_init_0 24 rfl) rfl uX1_init (fun _ h => h.2.2.2.1) (i_X1 (n0 := 21) (a := 20) rfl (by decide) rfl (by decide) rfl rfl (by decide) (by decide)) rfl rfl rfl (by decide) (Nat.le_of_ble_eq_true rfl) rfl rfl (fun h => absurd h (by decide)) ?_
  rintro _ _ ⟨rfl, rfl⟩
  dsimp only [Option.toList, List.cons_append, List.nil_append, List.append_nil]
  refine T.at (cs' := 28) (sl' := 973) rfl rfl ?_
  refine T.putRF (pc' := 56) (ci := 5) (k0 := 5) (q_d dX5_init_0 25 rfl) rfl rfl (by decide) rfl inX5 tyX5 tyX5_ok nmX5 (by decide) rfl wF_X5_33 rfl rfl rfl (fun _ => rfl) (fun _ => rfl) ?_
  refine T.wR ?_
  refine T.aload_n (pc' := 57) (q_d dX5_init_0 26 rfl) rfl rfl rfl ?_
  refine T.newo (pc' := 60) (ci := 0) (N := 4) (q_d dX5_init_0 27 rfl) rfl rfl rfl rfl inX0 tyX0 tyX0_ok wL_X5_37 wO_X0 wZ_X0 (by decide +kernel) (qIW_z (by decide)) (qRW_z (by decide)) (by decide) (by decide) ?_
  refine T.at (cs' := 29) (sl' := 977) rfl rfl ?_
  refine T.top (v' := .ref 29) rfl ?_
  refine T.dup (pc' := 61) (q_d dX5_init_0 28 rfl) rfl rfl ?_
  refine T.iconst (pc' := 62) (v := nI 0) (q_d dX5_init_0 29 rfl) rfl (by decide) ?_
  refine T.iconst (pc' := 63) (v := nI 3) (q_d dX5_init_0 30 rfl) rfl (by decide) ?_
  refine T.callI (pc' := 66) (q_d dX5_init_0 31 rfl) rfl uX0_init wM_X5_39 (i_X0 (n0 := 30) (a := 29) (u := 0) (v := 3) rfl (by decide) rfl rfl (by decide)) rfl rfl (by decide) (Nat.le_of_ble_eq_true rfl) rfl rfl (fun h => absurd h (by decide)) ?_
  rintro _ _ ⟨rfl, rfl⟩
  dsimp only [Option.toList, List.cons_append, List.nil_append, List.append_nil]
  refine T.at (cs' := 31) (sl' := 1233) rfl rfl ?_
  refine T.putRF (pc' := 69) (ci := 5) (k0 := 6) (q_d dX5_init_0 32 rfl) rfl rfl (by decide) rfl inX5 tyX5 tyX5_ok nmX5 (by decide) rfl wF_X5_42 rfl rfl rfl (fun _ => rfl) (fun _ => rfl) ?_
  refine T.wR ?_
  refine T.aload_n (pc' := 70) (q_d dX5_init_0 33 rfl) rfl rfl rfl ?_
  refine T.newo (pc' := 73) (ci := 0) (N := 4) (q_d dX5_init_0 34 rfl) rfl rfl rfl rfl inX0 tyX0 tyX0_ok wL_X5_37 wO_X0 wZ_X0 (by decide +kernel) (qIW_z (by decide)) (qRW_z (by decide)) (by decide) (by decide) ?_
  refine T.at (cs' := 32) (sl' := 1237) rfl rfl ?_
  refine T.top (v' := .ref 32) rfl ?_
  refine T.dup (pc' := 74) (q_d dX5_init_0 35 rfl) rfl rfl ?_
  refine T.iconst (pc' := 75) (v := nI 4) (q_d dX5_init_0 36 rfl) rfl (by decide) ?_
  refine T.iconst (pc' := 76) (v := nI 4) (q_d dX5_init_0 37 rfl) rfl (by decide) ?_
  refine T.callI (pc' := 79) (q_d dX5_init_0 38 rfl) rfl uX0_init wM_X5_39 (i_X0 (n0 := 33) (a := 32) (u := 4) (v := 4) rfl (by decide) rfl rfl (by decide)) rfl rfl (by decide) (Nat.le_of_ble_eq_true rfl) rfl rfl (fun h => absurd h (by decide)) ?_
  rintro _ _ ⟨rfl, rfl⟩
  dsimp only [Option.toList, List.cons_append, List.nil_append, List.append_nil]
  refine T.at (cs' := 34) (sl' := 1493) rfl rfl ?_
  refine T.putRF (pc' := 82) (ci := 5) (k0 := 7) (q_d dX5_init_0 39 rfl) rfl rfl (by decide) rfl inX5 tyX5 tyX5_ok nmX5 (by decide) rfl wF_X5_46 rfl rfl rfl (fun _ => rfl) (fun _ => rfl) ?_
  refine T.wR ?_
  refine T.aload_n (pc' := 83) (q_d dX5_init_1 0 rfl) rfl rfl rfl ?_
  refine T.newo (pc' := 86) (ci := 4) (N := 2) (q_d dX5_init_1 1 rfl) rfl rfl rfl rfl inX4 tyX4 tyX4_ok wL_X5_49 wO_X4 wZ_X4 (by decide +kernel) (qIW_z (by decide)) (qRW_z (by decide)) (by decide) (by decide) ?_
  refine T.at (cs' := 35) (sl' := 1495) rfl rfl ?_
  refine T.top (v' := .ref 35) rfl ?_
  refine T.dup (pc' := 87) (q_d dX5_init_1 2 rfl) rfl rfl ?_
  refine T.callIN (pc' := 90) (q_d dX5_init_1 3 rfl) rfl uX4_init (fun _ h => h.2.2.2.2) (i_X4 (n0 := 36) (a := 35) rfl (by decide) rfl rfl) rfl rfl rfl (by decide) (Nat.le_of_ble_eq_true rfl) rfl rfl (fun h => absurd h (by decide)) ?_
  rintro _ _ ⟨rfl, rfl⟩
  dsimp only [Option.toList, List.cons_append, List.nil_append, List.append_nil]
  refine T.at (cs' := 37) (sl' := 1509) rfl rfl ?_
  refine T.putRF (pc' := 93) (ci := 5) (k0 := 11) (q_d dX5_init_1 4 rfl) rfl rfl (by decide) rfl inX5 tyX5 tyX5_ok nmX5 (by decide) rfl wF_X5_52 rfl rfl rfl (fun _ => rfl) (fun _ => rfl) ?_
  refine T.wR ?_
  refine T.aload_n (pc' := 94) (q_d dX5_init_1 5 rfl) rfl rfl rfl ?_
  refine T.sipush (pc' := 97) (v := nI 128) (q_d dX5_init_1 6 rfl) rfl (by decide) ?_
  refine T.newZ (pc' := 99) (N := 128) (q_d dX5_init_1 7 rfl) rfl rfl wA_boolean rfl (by decide) rfl (qIW_z (by decide)) (by decide) (by decide) ?_
  refine T.at (cs' := 38) (sl' := 1637) rfl rfl ?_
  refine T.top (v' := .ref 38) rfl ?_
  refine T.putRF (pc' := 102) (ci := 5) (k0 := 12) (q_d dX5_init_1 8 rfl) rfl rfl (by decide) rfl inX5 tyX5 tyX5_ok nmX5 (by decide) rfl wF_X5_56 rfl rfl rfl (fun _ => rfl) (fun _ => rfl) ?_
  refine T.wR ?_
  refine T.iconst (pc' := 103) (v := nI 0) (q_d dX5_init_1 9 rfl) rfl (by decide) ?_
  refine T.istore_n (pc' := 104) (q_d dX5_init_1 10 rfl) rfl rfl (by decide) rfl rfl ?_
  refine T.iload_n (pc' := 105) (q_d dX5_init_1 11 rfl) rfl rfl rfl ?_
  refine T.iconst (pc' := 106) (v := nI 4) (q_d dX5_init_1 12 rfl) rfl (by decide) ?_
  refine T.icmp_geN (tgt := 128) (pc' := 109) (q_d dX5_init_1 13 rfl) rfl (by decide) (by omega) (by omega) (fun h106 => ?_) (fun h106 => ?_)
  · exact absurd h106 (by decide)
  · refine T.aload_n (pc' := 110) (q_d dX5_init_1 14 rfl) rfl rfl rfl ?_
    refine T.getR (pc' := 113) (ci := 5) (k0 := 2) (q_d dX5_init_1 15 rfl) rfl rfl (by decide) rfl inX5 (by decide) rfl wF_X5_19 (show _ = some 17 from rfl) ?_
    refine T.iload_n (pc' := 114) (q_d dX5_init_1 16 rfl) rfl rfl rfl ?_
    refine T.newo (pc' := 117) (ci := 3) (N := 10) (q_d dX5_init_1 17 rfl) rfl rfl rfl rfl inX3 tyX3 tyX3_ok wL_X5_7 wO_X3 wZ_X3 (by decide +kernel) (qIW_z (by decide)) (qRW_z (by decide)) (by decide) (by decide) ?_
    refine T.at (cs' := 39) (sl' := 1647) rfl rfl ?_
    refine T.top (v' := .ref 39) rfl ?_
    refine T.dup (pc' := 118) (q_d dX5_init_1 18 rfl) rfl rfl ?_
    refine T.callI (pc' := 121) (q_d dX5_init_1 19 rfl) rfl uX3_init wM_X5_9 (i_X3 (n0 := 40) (a := 39) rfl (by decide) rfl rfl rfl rfl rfl rfl rfl (by decide)) rfl rfl (by decide) (Nat.le_of_ble_eq_true rfl) rfl rfl (fun h => absurd h (by decide)) ?_
    rintro _ _ ⟨rfl, rfl⟩
    dsimp only [Option.toList, List.cons_append, List.nil_append, List.append_nil]
    refine T.at (cs' := 46) (sl' := 1695) rfl rfl ?_
    refine T.qast (pc' := 122) (q_d dX5_init_1 20 rfl) rfl rfl (by decide) rfl (by omega) (by decide) (by decide) rfl rfl rfl ?_
    refine T.wR ?_
    refine T.iinc (pc' := 125) (q_d dX5_init_1 21 rfl) rfl rfl (nN_p _ 1) (by decide) rfl rfl ?_
    refine T.goto (tgt := 104) (q_d dX5_init_1 22 rfl) (by decide) ?_
    refine T.iload_n (pc' := 105) (q_d dX5_init_1 11 rfl) rfl rfl rfl ?_
    refine T.iconst (pc' := 106) (v := nI 4) (q_d dX5_init_1 12 rfl) rfl (by decide) ?_
    refine T.icmp_geN (tgt := 128) (pc' := 109) (q_d dX5_init_1 13 rfl) rfl (by decide) (by omega) (by omega) (fun h106 => ?_) (fun h106 => ?_)
    · exact absurd h106 (by decide)
    · refine T.aload_n (pc' := 110) (q_d dX5_init_1 14 rfl) rfl rfl rfl ?_
      refine T.getR (pc' := 113) (ci := 5) (k0 := 2) (q_d dX5_init_1 15 rfl) rfl rfl (by decide) rfl inX5 (by decide) rfl wF_X5_19 (show _ = some 17 from rfl) ?_
      refine T.iload_n (pc' := 114) (q_d dX5_init_1 16 rfl) rfl rfl rfl ?_
      refine T.newo (pc' := 117) (ci := 3) (N := 10) (q_d dX5_init_1 17 rfl) rfl rfl rfl rfl inX3 tyX3 tyX3_ok wL_X5_7 wO_X3 wZ_X3 (by decide +kernel) (qIW_z (by decide)) (qRW_z (by decide)) (by decide) (by decide) ?_
      refine T.at (cs' := 47) (sl' := 1705) rfl rfl ?_
      refine T.top (v' := .ref 47) rfl ?_
      refine T.dup (pc' := 118) (q_d dX5_init_1 18 rfl) rfl rfl ?_
      refine T.callI (pc' := 121) (q_d dX5_init_1 19 rfl) rfl uX3_init wM_X5_9 (i_X3 (n0 := 48) (a := 47) rfl (by decide) rfl rfl rfl rfl rfl rfl rfl (by decide)) rfl rfl (by decide) (Nat.le_of_ble_eq_true rfl) rfl rfl (fun h => absurd h (by decide)) ?_
      rintro _ _ ⟨rfl, rfl⟩
      dsimp only [Option.toList, List.cons_append, List.nil_append, List.append_nil]
      refine T.at (cs' := 54) (sl' := 1753) rfl rfl ?_
      refine T.qast (pc' := 122) (q_d dX5_init_1 20 rfl) rfl rfl (by decide) rfl (by omega) (by decide) (by decide) rfl rfl rfl ?_
      refine T.wR ?_
      refine T.iinc (pc' := 125) (q_d dX5_init_1 21 rfl) rfl rfl (nN_p _ 1) (by decide) rfl rfl ?_
      refine T.goto (tgt := 104) (q_d dX5_init_1 22 rfl) (by decide) ?_
      refine T.iload_n (pc' := 105) (q_d dX5_init_1 11 rfl) rfl rfl rfl ?_
      refine T.iconst (pc' := 106) (v := nI 4) (q_d dX5_init_1 12 rfl) rfl (by decide) ?_
      refine T.icmp_geN (tgt := 128) (pc' := 109) (q_d dX5_init_1 13 rfl) rfl (by decide) (by omega) (by omega) (fun h106 => ?_) (fun h106 => ?_)
      · exact absurd h106 (by decide)
      · refine T.aload_n (pc' := 110) (q_d dX5_init_1 14 rfl) rfl rfl rfl ?_
        refine T.getR (pc' := 113) (ci := 5) (k0 := 2) (q_d dX5_init_1 15 rfl) rfl rfl (by decide) rfl inX5 (by decide) rfl wF_X5_19 (show _ = some 17 from rfl) ?_
        refine T.iload_n (pc' := 114) (q_d dX5_init_1 16 rfl) rfl rfl rfl ?_
        refine T.newo (pc' := 117) (ci := 3) (N := 10) (q_d dX5_init_1 17 rfl) rfl rfl rfl rfl inX3 tyX3 tyX3_ok wL_X5_7 wO_X3 wZ_X3 (by decide +kernel) (qIW_z (by decide)) (qRW_z (by decide)) (by decide) (by decide) ?_
        refine T.at (cs' := 55) (sl' := 1763) rfl rfl ?_
        refine T.top (v' := .ref 55) rfl ?_
        refine T.dup (pc' := 118) (q_d dX5_init_1 18 rfl) rfl rfl ?_
        refine T.callI (pc' := 121) (q_d dX5_init_1 19 rfl) rfl uX3_init wM_X5_9 (i_X3 (n0 := 56) (a := 55) rfl (by decide) rfl rfl rfl rfl rfl rfl rfl (by decide)) rfl rfl (by decide) (Nat.le_of_ble_eq_true rfl) rfl rfl (fun h => absurd h (by decide)) ?_
        rintro _ _ ⟨rfl, rfl⟩
        dsimp only [Option.toList, List.cons_append, List.nil_append, List.append_nil]
        refine T.at (cs' := 62) (sl' := 1811) rfl rfl ?_
        refine T.qast (pc' := 122) (q_d dX5_init_1 20 rfl) rfl rfl (by decide) rfl (by omega) (by decide) (by decide) rfl rfl rfl ?_
        refine T.wR ?_
        refine T.iinc (pc' := 125) (q_d dX5_init_1 21 rfl) rfl rfl (nN_p _ 1) (by decide) rfl rfl ?_
        refine T.goto (tgt := 104) (q_d dX5_init_1 22 rfl) (by decide) ?_
        refine T.iload_n (pc' := 105) (q_d dX5_init_1 11 rfl) rfl rfl rfl ?_
        refine T.iconst (pc' := 106) (v := nI 4) (q_d dX5_init_1 12 rfl) rfl (by decide) ?_
        refine T.icmp_geN (tgt := 128) (pc' := 109) (q_d dX5_init_1 13 rfl) rfl (by decide) (by omega) (by omega) (fun h106 => ?_) (fun h106 => ?_)
        · exact absurd h106 (by decide)
        · refine T.aload_n (pc' := 110) (q_d dX5_init_1 14 rfl) rfl rfl rfl ?_
          refine T.getR (pc' := 113) (ci := 5) (k0 := 2) (q_d dX5_init_1 15 rfl) rfl rfl (by decide) rfl inX5 (by decide) rfl wF_X5_19 (show _ = some 17 from rfl) ?_
          refine T.iload_n (pc' := 114) (q_d dX5_init_1 16 rfl) rfl rfl rfl ?_
          refine T.newo (pc' := 117) (ci := 3) (N := 10) (q_d dX5_init_1 17 rfl) rfl rfl rfl rfl inX3 tyX3 tyX3_ok wL_X5_7 wO_X3 wZ_X3 (by decide +kernel) (qIW_z (by decide)) (qRW_z (by decide)) (by decide) (by decide) ?_
          refine T.at (cs' := 63) (sl' := 1821) rfl rfl ?_
          refine T.top (v' := .ref 63) rfl ?_
          refine T.dup (pc' := 118) (q_d dX5_init_1 18 rfl) rfl rfl ?_
          refine T.callI (pc' := 121) (q_d dX5_init_1 19 rfl) rfl uX3_init wM_X5_9 (i_X3 (n0 := 64) (a := 63) rfl (by decide) rfl rfl rfl rfl rfl rfl rfl (by decide)) rfl rfl (by decide) (Nat.le_of_ble_eq_true rfl) rfl rfl (fun h => absurd h (by decide)) ?_
          rintro _ _ ⟨rfl, rfl⟩
          dsimp only [Option.toList, List.cons_append, List.nil_append, List.append_nil]
          refine T.at (cs' := 70) (sl' := 1869) rfl rfl ?_
          refine T.qast (pc' := 122) (q_d dX5_init_1 20 rfl) rfl rfl (by decide) rfl (by omega) (by decide) (by decide) rfl rfl rfl ?_
          refine T.wR ?_
          refine T.iinc (pc' := 125) (q_d dX5_init_1 21 rfl) rfl rfl (nN_p _ 1) (by decide) rfl rfl ?_
          refine T.goto (tgt := 104) (q_d dX5_init_1 22 rfl) (by decide) ?_
          refine T.iload_n (pc' := 105) (q_d dX5_init_1 11 rfl) rfl rfl rfl ?_
          refine T.iconst (pc' := 106) (v := nI 4) (q_d dX5_init_1 12 rfl) rfl (by decide) ?_
          refine T.icmp_geN (tgt := 128) (pc' := 109) (q_d dX5_init_1 13 rfl) rfl (by decide) (by omega) (by omega) (fun h106 => ?_) (fun h106 => ?_)
          · refine T.vret (q_d dX5_init_1 23 rfl) rfl rfl rfl ?_
            exact ⟨rfl, rfl⟩
          · exact absurd h106 (by decide)
end NewX
end
section
/-! p25: what its law's words mean over the states' numbers -/
section More
variable {l : Launch} {hd : qH} {κ : qG} {μ : qMI} {Q : Option Value → qM → Prop} {cs sl pc pc' : Nat} {loc : List (Option Value)} {st : List Value} {M : qM}
theorem T.irem {x y z : Int32} (d : decode μ.1 pc = .ok (.irem, 1)) (hp : pc + 1 = pc') (hne : ¬ y = 0) (hz : x - x / y * y = z) (k : T l hd κ μ Q cs sl pc' loc (.int z :: st) M) : T l hd κ μ Q cs sl pc loc (.int y :: .int x :: st) M := by
  subst hp; subst hz
  intro p e s m args below meth c H locs ls D tc B E hK hP hS hZ hL
  exact lv_irem E.1 E.2.1 d hne (k p e s m args below meth c H locs ls D tc B E hK hP hS hZ hL)
end More
theorem ones_half : ∀ k, k < 128 → ones k = k % 2 + ones (k / 2) := by decide +kernel
theorem ones_zero : ones 0 = 0 := by decide +kernel
theorem ones_pos : ∀ x, x < 128 → x ≠ 0 → 0 < ones x := by decide +kernel
theorem ones_put : ∀ a, a < 128 → ∀ j, j < 7 → a >>> j &&& 1 = 0 → ones (a ||| 1 <<< j) = ones a + 1 := by decide +kernel
theorem ones_flip0 : ∀ a, a < 128 → ∀ j, j < 7 → a >>> j &&& 1 = 0 → ones (a ^^^ 1 <<< j) = ones a + 1 := by decide +kernel
theorem ones_flip1 : ∀ a, a < 128 → ∀ j, j < 7 → a >>> j &&& 1 = 1 → ones (a ^^^ 1 <<< j) + 1 = ones a := by decide +kernel
theorem ones_some : ∀ a, a < 128 → ∀ j, j < 7 → 1 ≤ ones (a ||| 1 <<< j) := by decide +kernel
theorem ones_sub {a b : Nat} (h : ∀ i, a.testBit i = true → b.testBit i = true) : ones a ≤ ones b := by
  refine sumTo_mono 7 (fun i _ => ?_)
  rcases and1_01 (a >>> i) with e | e
  · rw [e]; exact Nat.zero_le _
  · rw [e, (bit_iff b i).mpr (h i ((bit_iff a i).mp e))]; exact Nat.le_refl _
theorem sumTo_congr {f g : Nat → Nat} : ∀ n, (∀ i, i < n → f i = g i) → sumTo f n = sumTo g n
  | 0, _ => rfl
  | n + 1, h => by simp only [sumTo]; rw [sumTo_congr n (fun i hi => h i (by omega)), h n (by omega)]
theorem sumTo_plus {f g : Nat → Nat} : ∀ n, sumTo (fun i => f i + g i) n = sumTo f n + sumTo g n
  | 0 => rfl
  | n + 1 => by simp only [sumTo]; rw [sumTo_plus n]; omega
def dlt (u i : Nat) : Nat := if i = u then 1 else 0
theorem dlt_out {u : Nat} : ∀ n, n ≤ u → sumTo (dlt u) n = 0
  | 0, _ => rfl
  | n + 1, h => by simp only [sumTo]; rw [dlt_out n (by omega), dlt, if_neg (by omega)]
theorem dlt_sum {u : Nat} : ∀ n, u < n → sumTo (dlt u) n = 1
  | 0, h => absurd h (Nat.not_lt_zero _)
  | n + 1, h => by
    simp only [sumTo]
    by_cases e : u = n
    · subst e; rw [dlt_out u (Nat.le_refl _), dlt, if_pos rfl]
    · rw [dlt_sum n (by omega), dlt, if_neg (by omega)]
theorem sumTo_two {f g : Nat → Nat} {u v n : Nat} (hu : u < n) (hv : v < n) (h : ∀ i, i < n → g i = f i + (dlt u i + dlt v i)) : sumTo g n = sumTo f n + 2 := by
  rw [sumTo_congr n h, sumTo_plus, sumTo_plus, dlt_sum n hu, dlt_sum n hv]
/-- roads that are not shut go both ways; no road from a place to itself -/
def IN (s : Nat → Nat) : Prop := (∀ i j, i < 7 → j < 7 → (s (21 + i)).testBit j = (s (21 + j)).testBit i) ∧ ∀ i, i < 7 → (s (14 + i)).testBit i = false
theorem IN.cy {s s' : Nat → Nat} (h : IN s) (hc : ∀ x, 14 ≤ x → x < 28 → s' x = s x) : IN s' :=
  ⟨fun i j hi hj => by rw [hc (21 + i) (by omega) (by omega), hc (21 + j) (by omega) (by omega)]; exact h.1 i j hi hj, fun i hi => by rw [hc (14 + i) (by omega) (by omega)]; exact h.2 i hi⟩
theorem IN.Cy {s s' : Nat → Nat} (h : IN s) (hc : Cy s s') : IN s' := h.cy (fun x h1 h2 => hc x (by omega) (by omega) (by omega) h2)
theorem IN_00 : IN s00 := ⟨fun i j _ _ => by rw [show s00 (21 + i) = 0 from if_neg (by omega), show s00 (21 + j) = 0 from if_neg (by omega), Nat.zero_testBit, Nat.zero_testBit], fun i _ => by rw [show s00 (14 + i) = 0 from if_neg (by omega), Nat.zero_testBit]⟩
theorem IN.place {s : Nat → Nat} (h : IN s) (h7 : s 0 < 7) {c : Nat} : IN (sPlace s c) := h.cy (fun x h1 h2 => by unfold sPlace; rw [if_neg (by omega), if_neg (by omega)])
theorem IN.set {s : Nat → Nat} (h : IN s) {u v : Nat} (hu : u ≤ 2) : IN (up s (4 + u) v) := h.cy (fun x h1 h2 => up_ne (by omega))
theorem pt_sym {i j a x : Nat} (hij : i ≠ j) : (pt i j a).testBit x = (pt i j x).testBit a := by
  rw [Bool.eq_iff_iff, pt_bit hij, pt_bit hij]
  constructor <;> (rintro (⟨h1, h2⟩ | ⟨h1, h2⟩) <;> omega)
theorem pt_self {i j a : Nat} (hij : i ≠ j) : (pt i j a).testBit a = false := by
  cases e : (pt i j a).testBit a with
  | false => rfl
  | true => have := (pt_bit hij).mp e; omega
theorem IN.road {s : Nat → Nat} (h : IN s) {i j : Nat} (hij : i ≠ j) : IN (sRoad s i j) := by
  refine ⟨fun a c ha hc => ?_, fun a ha => ?_⟩
  · rw [sRoad_21 ha, sRoad_21 hc, Nat.testBit_or, Nat.testBit_or, h.1 a c ha hc, pt_sym hij]
  · rw [sRoad_14 ha, Nat.testBit_or, h.2 a ha, pt_self hij]; rfl
theorem IN.shut {s : Nat → Nat} (h : IN s) {i j : Nat} (hij : i ≠ j) : IN (sShut s i j) := by
  refine ⟨fun a c ha hc => ?_, fun a ha => ?_⟩
  · rw [sShut_21 ha, sShut_21 hc, Nat.testBit_xor, Nat.testBit_xor, h.1 a c ha hc, pt_sym hij]
  · rw [sShut_out (by omega)]; exact h.2 a ha
/-! how many roads -/
section Roads
variable {b : Nat} {s : Nat → Nat}
theorem rd_lt {o i : Nat} (hw : WF b s) (hi : i < s 0) : s (14 + i) < 128 ∧ s (21 + i) < 128 := by
  have w0 := p2_le hw.1
  have w7 := hw.1
  have h1 := hw.2.2.2.2.2.2.2.1 i (by omega)
  have h2 := hw.2.2.2.2.2.2.2.2.1 i (by omega)
  omega
theorem rd_road14 (hw : WF b s) {u v : Nat} (hu : u < s 0) (hv : v < s 0) (huv : u ≠ v) (h0 : s (14 + u) >>> v &&& 1 = 0) : rdN (sRoad s u v) 14 = rdN s 14 + 1 := by
  have w7 := hw.1
  have hs := hw.2.2.2.2.2.2.2.2.2.2.2.1 u v (by omega) (by omega)
  have h1 : s (14 + v) >>> u &&& 1 = 0 := (sh_bit _ _).mpr (by rw [← hs]; exact (sh_bit _ _).mp h0)
  have e0 : sRoad s u v 0 = s 0 := sRoad_out (by omega)
  unfold rdN
  rw [e0, sumTo_two (f := fun i => ones (s (14 + i))) hu hv (fun i hi => ?_)]
  · omega
  · have hl := rd_lt (o := 0) hw hi
    show ones (sRoad s u v (14 + i)) = _
    rw [sRoad_14 (by omega)]
    unfold dlt
    by_cases e1 : i = u
    · subst e1
      rw [pt_i, ones_put _ hl.1 v (by omega) h0, if_pos rfl, if_neg huv]
    · by_cases e2 : i = v
      · subst e2
        rw [pt_j huv, ones_put _ hl.1 u (by omega) h1, if_neg e1, if_pos rfl]
      · rw [pt_0 e1 e2, Nat.or_zero, if_neg e1, if_neg e2]; rfl
theorem rd_road21 (hw : WF b s) {u v : Nat} (hu : u < s 0) (hv : v < s 0) (huv : u ≠ v) : 1 ≤ rdN (sRoad s u v) 21 := by
  have w7 := hw.1
  have e0 : sRoad s u v 0 = s 0 := sRoad_out (by omega)
  have h2 : sumTo (fun i => dlt u i + dlt v i) (s 0) = 2 := by rw [sumTo_plus, dlt_sum _ hu, dlt_sum _ hv]
  have h3 : sumTo (fun i => dlt u i + dlt v i) (s 0) ≤ sumTo (fun i => ones (sRoad s u v (21 + i))) (s 0) := by
    refine sumTo_mono _ (fun i hi => ?_)
    have hl := rd_lt (o := 0) hw hi
    show _ ≤ ones (sRoad s u v (21 + i))
    rw [sRoad_21 (by omega)]
    unfold dlt
    by_cases e1 : i = u
    · subst e1
      rw [pt_i, if_pos rfl, if_neg huv]
      exact ones_some _ hl.2 v (by omega)
    · by_cases e2 : i = v
      · subst e2
        rw [pt_j huv, if_neg e1, if_pos rfl]
        exact ones_some _ hl.2 u (by omega)
      · rw [if_neg e1, if_neg e2]; exact Nat.zero_le _
  unfold rdN
  rw [e0]
  omega
theorem rd_shut1 (hw : WF b s) (hi : IN s) {u v : Nat} (hu : u < s 0) (hv : v < s 0) (huv : u ≠ v) (h0 : s (21 + u) >>> v &&& 1 = 1) : rdN (sShut s u v) 21 + 1 = rdN s 21 := by
  have w7 := hw.1
  have hs := hi.1 u v (by omega) (by omega)
  have h1 : s (21 + v) >>> u &&& 1 = 1 := (bit_iff _ _).mpr (by rw [← hs]; exact (bit_iff _ _).mp h0)
  have e0 : sShut s u v 0 = s 0 := sShut_out (by omega)
  unfold rdN
  rw [e0, sumTo_two (f := fun i => ones (sShut s u v (21 + i))) (g := fun i => ones (s (21 + i))) hu hv (fun i hi => ?_)]
  · omega
  · have hl := rd_lt (o := 0) hw hi
    show ones (s (21 + i)) = ones (sShut s u v (21 + i)) + _
    rw [sShut_21 (by omega)]
    unfold dlt
    by_cases e1 : i = u
    · subst e1
      rw [pt_i, ← ones_flip1 _ hl.2 v (by omega) h0, if_pos rfl, if_neg huv]
    · by_cases e2 : i = v
      · subst e2
        rw [pt_j huv, ← ones_flip1 _ hl.2 u (by omega) h1, if_neg e1, if_pos rfl]
      · rw [pt_0 e1 e2, Nat.xor_zero, if_neg e1, if_neg e2]; rfl
theorem rd_shut0 (hw : WF b s) (hi : IN s) {u v : Nat} (hu : u < s 0) (hv : v < s 0) (huv : u ≠ v) (h0 : s (21 + u) >>> v &&& 1 = 0) : rdN (sShut s u v) 21 = rdN s 21 + 1 := by
  have w7 := hw.1
  have hs := hi.1 u v (by omega) (by omega)
  have h1 : s (21 + v) >>> u &&& 1 = 0 := (sh_bit _ _).mpr (by rw [← hs]; exact (sh_bit _ _).mp h0)
  have e0 : sShut s u v 0 = s 0 := sShut_out (by omega)
  unfold rdN
  rw [e0, sumTo_two (f := fun i => ones (s (21 + i))) hu hv (fun i hi => ?_)]
  · omega
  · have hl := rd_lt (o := 0) hw hi
    show ones (sShut s u v (21 + i)) = _
    rw [sShut_21 (by omega)]
    unfold dlt
    by_cases e1 : i = u
    · subst e1
      rw [pt_i, ones_flip0 _ hl.2 v (by omega) h0, if_pos rfl, if_neg huv]
    · by_cases e2 : i = v
      · subst e2
        rw [pt_j huv, ones_flip0 _ hl.2 u (by omega) h1, if_neg e1, if_pos rfl]
      · rw [pt_0 e1 e2, Nat.xor_zero, if_neg e1, if_neg e2]; rfl
theorem rd_le (hw : WF b s) : rdN s 21 ≤ rdN s 14 := by
  have w7 := hw.1
  refine Nat.div_le_div_right (sumTo_mono _ (fun i hi => ones_sub (fun j hj => ?_)))
  exact hw.2.2.2.2.2.2.2.2.2.2.2.2 i j (by omega) hj
end Roads
/-! beliefs -/
section Bel
variable {b : Nat} {s : Nat → Nat}
theorem goes_ne {p c : Nat} : goes s p c ≠ 0 := by
  have h1 : (1 : Nat) <<< p ≠ 0 := fun e => by
    have : (1 <<< p).testBit p = true := one_bit.mpr rfl
    rw [e, Nat.zero_testBit] at this
    exact absurd this (by decide)
  have h2 : ∀ a : Nat, a ||| 1 <<< p ≠ 0 := fun a e => by
    have : (a ||| 1 <<< p).testBit p = true := by rw [Nat.testBit_or, one_bit.mpr rfl, Bool.or_true]
    rw [e, Nat.zero_testBit] at this
    exact absurd this (by decide)
  have h3 : ∀ a d : Nat, a ≠ 0 → a ||| d ≠ 0 := fun a d h e => by
    refine h (Nat.eq_of_testBit_eq fun i => ?_)
    have : (a ||| d).testBit i = false := by rw [e, Nat.zero_testBit]
    rw [Nat.testBit_or, Bool.or_eq_false_iff] at this
    rw [this.1, Nat.zero_testBit]
  unfold goes
  split
  · split
    · exact h1
    · next h => exact h
  · split
    · exact h2 _
    · split
      · split
        · exact h1
        · next h => exact h3 _ _ h
      · exact h2 _
theorem goes_open (hw : WF b s) {p i : Nat} (hp : p < 7) (h : (s (21 + p)).testBit i = true) : (goes s p 0).testBit i = true := by
  have h7 := hw.1
  have hi : i < s 0 := lt_bit (hw.2.2.2.2.2.2.2.2.1 p hp) h
  have hne : s (21 + p) ≠ 0 := fun e => by rw [e, Nat.zero_testBit] at h; exact absurd h (by decide)
  unfold goes
  rw [if_neg hne, if_neg hne]
  split
  · exact h
  · split
    · rw [Nat.testBit_or, h, Bool.true_or]
    · split
      · rw [Nat.testBit_or, h, Bool.true_or]
      · rw [Nat.testBit_or, (dif_bit (by omega)).mpr ⟨h, Nat.zero_testBit _⟩, Bool.true_or]
theorem goes_and (hw : WF b s) {p : Nat} (hp : p < 7) : goes s p 0 &&& s (21 + p) = s (21 + p) := by
  refine bit_ext fun i => ?_
  rw [Nat.testBit_and, Bool.and_eq_true]
  exact ⟨fun h => h.2, fun h => ⟨goes_open hw hp h, h⟩⟩
theorem thn_one (hw : WF b s) {p c : Nat} (hp : p < s 0) (hc : c.testBit p = false) : thn s (1 <<< p) c 4 = goes s p c := by
  refine bit_ext fun i => ?_
  rw [thn_bit hw.1]
  constructor
  · rintro ⟨h1, q, h2, h3, h4, h5, h6⟩
    rw [one_bit.mp h3] at h5
    exact h5
  · intro h
    exact ⟨lt_bit (goes_lt hw hp) h, p, hp, one_bit.mpr rfl, hc, h, Or.inl rfl⟩
theorem dif_self {a : Nat} (h : a < 128) : dif a a = 0 := by
  have key : ∀ x, x < 128 → dif x x = 0 := by decide +kernel
  exact key a h
theorem thn_self (hw : WF b s) {p : Nat} (hp : p < s 0) : thn s (1 <<< p) (1 <<< p) 4 = 0 := by
  have h7 := hw.1
  refine thn_none h7 (dif_self ?_)
  rw [Nat.one_shiftLeft]
  exact Nat.lt_of_lt_of_le (Nat.pow_lt_pow_right (by decide) (show p < 7 by omega)) (by decide)
theorem dif_all {a : Nat} (h : a < 2 ^ s 0) (h7 : s 0 ≤ 7) : dif a (2 ^ s 0 - 1) = 0 := by
  refine Nat.eq_of_testBit_eq fun i => ?_
  rw [Nat.zero_testBit]
  cases e : (dif a (2 ^ s 0 - 1)).testBit i with
  | false => rfl
  | true =>
    have hi : i < s 0 := lt_bit (dif_lt h) e
    have := ((dif_bit (by omega)).mp e).2
    rw [Nat.testBit_two_pow_sub_one, decide_eq_false_iff_not] at this
    exact absurd hi this
theorem dif_sub {a c : Nat} (h7 : a < 128) (h : ∀ i, a.testBit i = true → c.testBit i = true) : dif a c = 0 := by
  refine Nat.eq_of_testBit_eq fun i => ?_
  rw [Nat.zero_testBit]
  cases e : (dif a c).testBit i with
  | false => rfl
  | true =>
    have hi : i < 7 := lt_bit (n := 7) (dif_lt h7) e
    have h2 := (dif_bit (by omega)).mp e
    rw [h i h2.1] at h2
    exact absurd h2.2 (by decide)
/-- the signals together -/
theorem thn_parts (hw : WF b s) {x c : Nat} : orTo (fun g => thn s x c g) 4 = thn s x c 4 := by
  have h7 := hw.1
  refine bit_ext fun i => ?_
  rw [orTo_bit]
  constructor
  · rintro ⟨g, hg, h⟩
    obtain ⟨h1, p, h2, h3, h4, h5, -⟩ := (thn_bit h7).mp h
    exact (thn_bit h7).mpr ⟨h1, p, h2, h3, h4, h5, Or.inl rfl⟩
  · intro h
    obtain ⟨h1, p, h2, h3, h4, h5, -⟩ := (thn_bit h7).mp h
    exact ⟨hears s p i, hears_lt hw (by omega), (thn_bit h7).mpr ⟨h1, p, h2, h3, h4, h5, Or.inr rfl⟩⟩
theorem thn_le4 (h7 : s 0 ≤ 7) {x c g i : Nat} (h : (thn s x c g).testBit i = true) : (thn s x c 4).testBit i = true := by
  obtain ⟨h1, p, h2, h3, h4, h5, -⟩ := (thn_bit h7).mp h
  exact (thn_bit h7).mpr ⟨h1, p, h2, h3, h4, h5, Or.inl rfl⟩
/-- hearing never makes more rounds necessary -/
theorem sol_deaf (h7 : s 0 ≤ 7) : ∀ k x, k < 1000 → x < 2 ^ s 0 → (solN s 0 3 k).1 x ≤ (solN s 4 4 k).1 x
  | 0, x, _, _ => by simp only [solN]; exact Nat.le_refl _
  | k + 1, x, hk, hx => by
    have ih := sol_deaf h7 k x (by omega) hx
    have v1 := sol_val (s := s) (g0 := 0) (g1 := 3) k x
    simp only [solN]
    by_cases n1 : newly s (solN s 4 4 k).1 4 4 (k + 1) x = true
    · rw [if_pos n1]
      obtain ⟨p1, p2, p3, p4⟩ := newly_pos n1
      by_cases e1 : (solN s 0 3 k).1 x = 1000
      · obtain ⟨c, hc⟩ := Option.isSome_iff_exists.mp p4
        have hc1 := List.mem_of_find?_eq_some hc
        have hc2 := List.find?_some hc
        have hgood : goodC s (solN s 0 3 k).1 0 3 (k + 1) x c = true := by
          simp only [goodC, Bool.and_eq_true] at hc2 ⊢
          refine ⟨hc2.1, (enough_iff (by decide)).mpr fun g g2 g3 => ?_⟩
          have h4 := (enough_iff (by decide)).mp hc2.2 4 (by decide) (by decide)
          have h5 := sol_deaf h7 k (thn s x c 4) (by omega) (thn_lt h7)
          have h6 := sol_sub (g0 := 0) (g1 := 3) h7 (by decide) k (thn s x c 4) (thn s x c g) (by omega) (thn_lt h7) (fun i hi => thn_le4 h7 hi)
          omega
        have hsome : (fstC s (solN s 0 3 k).1 0 3 (k + 1) x).isSome = true := by
          unfold fstC
          rw [List.find?_isSome]
          exact ⟨c, hc1, hgood⟩
        have n2 : newly s (solN s 0 3 k).1 0 3 (k + 1) x = true := by
          simp only [newly, Bool.and_eq_true, decide_eq_true_eq]
          exact ⟨⟨⟨p1, p2⟩, e1⟩, hsome⟩
        rw [if_pos n2]; exact Nat.le_refl _
      · split
        · exact Nat.le_refl _
        · omega
    · rw [if_neg n1]
      split
      · next n2 =>
        have := (newly_pos n2).2.2.1
        omega
      · exact ih
/-- behind the best check each signal's belief needs less -/
theorem sol_best (h7 : s 0 ≤ 7) : ∀ k x, k < 1000 → 0 < x → (solN s 0 3 k).1 x ≠ 1000 → x < 2 ^ s 0 ∧ (solN s 0 3 k).2 x < 2 ^ s 0 ∧ ones ((solN s 0 3 k).2 x) ≤ s 6 ∧ ∀ g, g ≤ 3 → (solN s 0 3 k).1 (thn s x ((solN s 0 3 k).2 x) g) < (solN s 0 3 k).1 x
  | 0, x, _, hx, h => by simp only [solN] at h; rw [if_neg (by omega)] at h; exact absurd rfl h
  | k + 1, x, hk, hx, h => by
    have stay : ∀ y, (solN s 0 3 k).1 y ≠ 1000 → (if newly s (solN s 0 3 k).1 0 3 (k + 1) y = true then k + 1 else (solN s 0 3 k).1 y) = (solN s 0 3 k).1 y := fun y hy => if_neg (fun q => hy (newly_pos q).2.2.1)
    simp only [solN] at h ⊢
    by_cases n1 : newly s (solN s 0 3 k).1 0 3 (k + 1) x = true
    · rw [if_pos n1, if_pos n1]
      obtain ⟨p1, p2, p3, p4⟩ := newly_pos n1
      obtain ⟨c, hc⟩ := Option.isSome_iff_exists.mp p4
      have hc1 := List.mem_of_find?_eq_some hc
      have hc2 := List.find?_some hc
      rw [hc]
      simp only [goodC, Bool.and_eq_true, decide_eq_true_eq] at hc2
      refine ⟨p2, List.mem_range.mp hc1, hc2.1, fun g hg => ?_⟩
      have h4 := (enough_iff (by decide)).mp hc2.2 g (Nat.zero_le _) hg
      show (if newly s (solN s 0 3 k).1 0 3 (k + 1) (thn s x c g) = true then k + 1 else (solN s 0 3 k).1 (thn s x c g)) < _
      rw [stay _ (by omega)]
      exact h4
    · rw [if_neg n1] at h
      rw [if_neg n1, if_neg n1]
      obtain ⟨q1, q2, q3, q4⟩ := sol_best h7 k x (by omega) hx h
      have v1 := sol_val (s := s) (g0 := 0) (g1 := 3) k x
      refine ⟨q1, q2, q3, fun g hg => ?_⟩
      have h4 := q4 g hg
      rw [stay _ (by omega)]
      exact h4
theorem nset_deaf (h7 : s 0 ≤ 7) {n : Nat} (hn : n < 2 ^ s 0) : nset (solN s 4 4 127).1 n ≤ nset (solN s 0 3 127).1 n := by
  refine sumTo_mono n (fun i hi => ?_)
  have h := sol_deaf h7 127 (i + 1) (by decide) (by omega)
  have v1 := sol_val (s := s) (g0 := 0) (g1 := 3) 127 (i + 1)
  by_cases e : (solN s 4 4 127).1 (i + 1) = 1000
  · rw [if_pos e]; exact Nat.zero_le _
  · have v2 := sol_val (s := s) (g0 := 4) (g1 := 4) 127 (i + 1)
    rw [if_neg e, if_neg (by omega)]; exact Nat.le_refl _
/-- this belief is one of those that come -/
theorem mark_keep {x c : Nat} {sn : Nat → Bool} {y : Nat} (h : sn y = true) : ∀ g, markN s x c sn g y = true
  | 0 => h
  | g + 1 => by
    show (markN s x c sn g y || decide (y = thn s x c g)) = true
    rw [mark_keep h g, Bool.true_or]
theorem cmB_keep {nd bs : Nat → Nat} {L : Nat} {st : (Nat → Bool) × Nat} {y : Nat} (h : st.1 y = true) : ∀ k, (cmB s nd bs L k st).1 y = true
  | 0 => h
  | k + 1 => by
    have ih := cmB_keep (nd := nd) (bs := bs) (L := L) h k
    rw [cmB]
    split
    · exact mark_keep ih 4
    · exact ih
theorem cmB_grow {nd bs : Nat → Nat} {L : Nat} {st : (Nat → Bool) × Nat} : ∀ k, st.2 ≤ (cmB s nd bs L k st).2
  | 0 => Nat.le_refl _
  | k + 1 => by
    have ih := cmB_grow (nd := nd) (bs := bs) (L := L) (st := st) k
    rw [cmB]
    split
    · exact Nat.le_succ_of_le ih
    · exact ih
theorem cmB_one {nd bs : Nat → Nat} {L : Nat} {st : (Nat → Bool) × Nat} {y : Nat} (h : st.1 y = true) (hy : 0 < y) (hL : nd y = L) : ∀ k, y ≤ k → 1 ≤ (cmB s nd bs L k st).2
  | 0, hk => by omega
  | k + 1, hk => by
    by_cases e : y = k + 1
    · subst e
      rw [cmB, if_pos ⟨cmB_keep h k, hL⟩]
      exact Nat.le_add_left _ _
    · have ih := cmB_one (nd := nd) (bs := bs) (L := L) h hy hL k (by omega)
      rw [cmB]
      split
      · exact Nat.le_succ_of_le ih
      · exact ih
theorem cmL_grow {nd bs : Nat → Nat} : ∀ L (st : (Nat → Bool) × Nat), st.2 ≤ (cmL s nd bs L st).2
  | 0, st => Nat.le_refl _
  | L + 1, st => by
    rw [cmL]
    exact Nat.le_trans (cmB_grow _) (cmL_grow L _)
theorem coming_pos {nd bs : Nat → Nat} {y : Nat} (hy : 0 < y) (hlt : y < 2 ^ s 0) (h : 0 < nd y) : 1 ≤ comingN s nd bs y := by
  unfold comingN
  obtain ⟨L, hL⟩ : ∃ L, nd y = L + 1 := ⟨nd y - 1, by omega⟩
  rw [hL, cmL]
  exact Nat.le_trans (cmB_one (y := y) (by simp) hy hL _ (by omega)) (cmL_grow L _)
end Bel
end
section
/-! the law's small methods, and the class's calls as the law takes them -/
section Small
variable {l : Launch} {M : qM} {b : Nat} {s : Nat → Nat} {k : Nat} {was : Nat → Nat → Nat} {n : Nat} {t pa : Nat → Nat} {sw : Bool}
theorem c_bits {x : Nat} (hx : x < 128) : Ct l hdX kX mL_bits [.int (nI x)] M (RI M (ones x)) := by
  refine Ct.of [some (.int (nI x)), none, none] (by decide +kernel) (fun h => absurd h (by decide)) (Nat.le_of_ble_eq_true rfl) rfl ?_
  have loop : ∀ d y m, d ≤ 7 → y < 2 ^ d → m + ones y = ones x → T l hdX kX mL_bits (RI M (ones x)) 0 0 4 [some (.int (nI x)), some (.int (nI m)), some (.int (nI y))] [] M := by
    intro d
    induction d with
    | zero =>
      intro y m hd hy hm
      have e : y = 0 := by omega
      subst e
      rw [ones_zero, Nat.add_zero] at hm
      refine T.iload_n (pc' := 5) (q_d dL_bits_0 4 rfl) rfl rfl rfl ?_
      refine T.if_leN (tgt := 21) (pc' := 8) (q_d dL_bits_0 5 rfl) rfl (by decide) (by decide) (fun h5 => ?_) (fun h5 => ?_)
      · refine T.iload_n (pc' := 22) (q_d dL_bits_0 17 rfl) rfl rfl rfl ?_
        refine T.iret (q_d dL_bits_0 18 rfl) rfl rfl rfl ?_
        exact ⟨rfl, by rw [hm]⟩
      · exact absurd h5 (by omega)
    | succ d ih =>
      intro y m hd hy hm
      have hy7 : y < 128 := Nat.lt_of_lt_of_le hy (Nat.pow_le_pow_right (by decide) hd)
      have hh := ones_half y hy7
      rw [Nat.pow_succ] at hy
      refine T.iload_n (pc' := 5) (q_d dL_bits_0 4 rfl) rfl rfl rfl ?_
      refine T.if_leN (tgt := 21) (pc' := 8) (q_d dL_bits_0 5 rfl) rfl (by decide) (by omega) (fun h5 => ?_) (fun h5 => ?_)
      · subst h5
        refine T.iload_n (pc' := 22) (q_d dL_bits_0 17 rfl) rfl rfl rfl ?_
        refine T.iret (q_d dL_bits_0 18 rfl) rfl rfl rfl ?_
        exact ⟨rfl, by rw [ones_zero, Nat.add_zero] at hm; rw [hm]⟩
      · refine T.iload_n (pc' := 9) (q_d dL_bits_0 6 rfl) rfl rfl rfl ?_
        refine T.iload_n (pc' := 10) (q_d dL_bits_0 7 rfl) rfl rfl rfl ?_
        refine T.iconst (pc' := 11) (v := nI 2) (q_d dL_bits_0 8 rfl) rfl (by decide) ?_
        refine T.irem (pc' := 12) (q_d dL_bits_0 9 rfl) rfl (by decide) (pk_rem (by omega) (by omega) (by omega)) ?_
        refine T.iadd (pc' := 13) (q_d dL_bits_0 10 rfl) rfl (nI_add _ _) ?_
        refine T.istore_n (pc' := 14) (q_d dL_bits_0 11 rfl) rfl rfl (by decide) rfl rfl ?_
        refine T.iload_n (pc' := 15) (q_d dL_bits_0 12 rfl) rfl rfl rfl ?_
        refine T.iconst (pc' := 16) (v := nI 2) (q_d dL_bits_0 13 rfl) rfl (by decide) ?_
        refine T.idiv (pc' := 17) (q_d dL_bits_0 14 rfl) rfl (by decide) (pk_div (by omega) (by omega) (by omega)) ?_
        refine T.istore_n (pc' := 18) (q_d dL_bits_0 15 rfl) rfl rfl (by decide) rfl rfl ?_
        refine T.goto (tgt := 4) (q_d dL_bits_0 16 rfl) (by decide) ?_
        exact ih (y / 2) (m + y % 2) (by omega) (by omega) (by omega)
  refine T.iconst (pc' := 1) (v := nI 0) (q_d dL_bits_0 0 rfl) rfl (by decide) ?_
  refine T.istore_n (pc' := 2) (q_d dL_bits_0 1 rfl) rfl rfl (by decide) rfl rfl ?_
  refine T.iload_n (pc' := 3) (q_d dL_bits_0 2 rfl) rfl rfl rfl ?_
  refine T.istore_n (pc' := 4) (q_d dL_bits_0 3 rfl) rfl rfl (by decide) rfl rfl ?_
  exact loop 7 x 0 (by decide) (by omega) (Nat.zero_add _)
theorem c_nth {u m : Nat} (hu : u < 128) (hm : m < ones u) : Ct l hdX kX mL_nth [.int (nI u), .int (nI m)] M (fun v M' => M = M' ∧ ∃ p, v = some (.int (nI p)) ∧ p < 7 ∧ u.testBit p = true) := by
  refine Ct.of [some (.int (nI u)), some (.int (nI m)), none, none] (by decide +kernel) (fun h => absurd h (by decide)) (Nat.le_of_ble_eq_true rfl) rfl ?_
  have ho := ones_le u
  have loop : ∀ d p y, p + d = 7 → y + sumTo (fun k => u >>> k &&& 1) p = m → T l hdX kX mL_nth (fun v M' => M = M' ∧ ∃ p, v = some (.int (nI p)) ∧ p < 7 ∧ u.testBit p = true) 0 0 4 [some (.int (nI u)), some (.int (nI m)), some (.int (nI y)), some (.int (nI p))] [] M := by
    intro d
    induction d with
    | zero =>
      intro p y hp hy
      have e : p = 7 := by omega
      subst e
      have : sumTo (fun k => u >>> k &&& 1) 7 = ones u := rfl
      exact absurd hm (by omega)
    | succ d ih =>
      intro p y hp hy
      have hn : sumTo (fun k => u >>> k &&& 1) (p + 1) = sumTo (fun k => u >>> k &&& 1) p + (u >>> p &&& 1) := rfl
      have g1 := and1_01 (u >>> p)
      refine T.iload_n (pc' := 5) (q_d dL_nth_0 4 rfl) rfl rfl rfl ?_
      refine T.bipush (pc' := 7) (v := nI 7) (q_d dL_nth_0 5 rfl) rfl (by decide) ?_
      refine T.icmp_geN (tgt := 34) (pc' := 10) (q_d dL_nth_0 6 rfl) rfl (by decide) (by omega) (by omega) (fun h7 => ?_) (fun h7 => ?_)
      · exact absurd h7 (by omega)
      · refine T.iload_n (pc' := 11) (q_d dL_nth_0 7 rfl) rfl rfl rfl ?_
        refine T.iload_n (pc' := 12) (q_d dL_nth_0 8 rfl) rfl rfl rfl ?_
        refine T.ishr (pc' := 13) (q_d dL_nth_0 9 rfl) rfl (nN_shr (by omega) (by omega)) ?_
        refine T.iconst (pc' := 14) (v := nI 1) (q_d dL_nth_0 10 rfl) rfl (by decide) ?_
        refine T.iand (pc' := 15) (q_d dL_nth_0 11 rfl) rfl (nN_and _ _) ?_
        refine T.iconst (pc' := 16) (v := nI 1) (q_d dL_nth_0 12 rfl) rfl (by decide) ?_
        refine T.icmp_neN (tgt := 28) (pc' := 19) (q_d dL_nth_0 13 rfl) rfl (by decide) (by omega) (by omega) (fun h16 => ?_) (fun h16 => ?_)
        · refine T.iinc (pc' := 31) (q_d dL_nth_0 19 rfl) rfl rfl (nN_p _ 1) (by decide) rfl rfl ?_
          refine T.goto (tgt := 4) (q_d dL_nth_0 20 rfl) (by decide) ?_
          first
          | exact ih (p + 1) y (by omega) (by rw [hn]; omega)
          | exact ih (p + 1) (y - 1) (by omega) (by rw [hn]; omega)
        · refine T.iload_n (pc' := 20) (q_d dL_nth_0 14 rfl) rfl rfl rfl ?_
          refine T.if_neN (tgt := 25) (pc' := 23) (q_d dL_nth_0 15 rfl) rfl (by decide) (by omega) (fun h20 => ?_) (fun h20 => ?_)
          · refine T.iinc (pc' := 28) (q_d dL_nth_0 18 rfl) rfl rfl (nN_m1 (by omega)) (by decide) rfl rfl ?_
            refine T.iinc (pc' := 31) (q_d dL_nth_0 19 rfl) rfl rfl (nN_p _ 1) (by decide) rfl rfl ?_
            refine T.goto (tgt := 4) (q_d dL_nth_0 20 rfl) (by decide) ?_
            first
            | exact ih (p + 1) y (by omega) (by rw [hn]; omega)
            | exact ih (p + 1) (y - 1) (by omega) (by rw [hn]; omega)
          · refine T.iload_n (pc' := 24) (q_d dL_nth_0 16 rfl) rfl rfl rfl ?_
            refine T.iret (q_d dL_nth_0 17 rfl) rfl rfl rfl ?_
            exact ⟨rfl, p, rfl, by omega, (bit_iff u p).mp h16⟩
  refine T.iload_n (pc' := 1) (q_d dL_nth_0 0 rfl) rfl rfl rfl ?_
  refine T.istore_n (pc' := 2) (q_d dL_nth_0 1 rfl) rfl rfl (by decide) rfl rfl ?_
  refine T.iconst (pc' := 3) (v := nI 0) (q_d dL_nth_0 2 rfl) rfl (by decide) ?_
  refine T.istore_n (pc' := 4) (q_d dL_nth_0 3 rfl) rfl rfl (by decide) rfl rfl ?_
  exact loop 7 0 m (by decide) (Nat.add_zero _)
theorem OX.to {r r' : Nat × St} {v : Option Value} {M' : qM} (h : r = r') (q : OX b r v M') : OX b r' v M' := h ▸ q
theorem c_behG (hX : RX M b s k was n t pa sw) {u v w : Nat} (hu : u < 2 ^ s 0) (hv : v < 2 ^ s 0) (hw : w ≤ 3) : Ct l hdX kX mX5_behind [.ref 0, .int (nI u), .int (nI v), .int (nI w)] M (OX b (thn s u v w, (s, k, was, n, t))) := by
  have w0 := p2_le hX.2.2.2.1.1
  refine (c_behind hX (u := u) (v := v) (w := w) (by omega) (by omega) (by omega)).mono (fun x M' q => OX.to ?_ q)
  unfold qBehind
  rw [if_pos ⟨⟨hu, hv⟩, Or.inr hw⟩, if_neg (by omega)]
theorem c_behA (hX : RX M b s k was n t pa sw) {u v : Nat} (hu : u < 2 ^ s 0) (hv : v < 2 ^ s 0) : Ct l hdX kX mX5_behind [.ref 0, .int (nI u), .int (nI v), .int (nI 4294967295)] M (OX b (thn s u v 4, (s, k, was, n, t))) := by
  have w0 := p2_le hX.2.2.2.1.1
  refine (c_behind hX (u := u) (v := v) (w := 4294967295) (by omega) (by omega) (by omega)).mono (fun x M' q => OX.to ?_ q)
  unfold qBehind
  rw [if_pos ⟨⟨hu, hv⟩, Or.inl rfl⟩, if_pos rfl]
theorem c_sure0 (hX : RX M b s k was n t pa sw) {u x : Nat} (hu : u < 2 ^ s 0) (h : (solN s 0 3 127).1 u = x) (hx : x ≠ 1000) : Ct l hdX kX mX5_sure [.ref 0, .int (nI u), .int (nI 0)] M (OX b (x, (s, k, was, n, t))) := by
  have w0 := p2_le hX.2.2.2.1.1
  refine (c_sure hX (u := u) (v := 0) (by omega) (by omega)).mono (fun x M' q => OX.to ?_ q)
  unfold qSure
  rw [if_pos ⟨hu, by decide⟩, if_neg (by omega), if_pos rfl, h]
theorem c_sureN (hX : RX M b s k was n t pa sw) {u : Nat} (hu : u < 2 ^ s 0) (h : (solN s 0 3 127).1 u = 1000) : Ct l hdX kX mX5_sure [.ref 0, .int (nI u), .int (nI 0)] M (OX b (4293967292, (s, k, was, n, t))) := by
  have w0 := p2_le hX.2.2.2.1.1
  refine (c_sure hX (u := u) (v := 0) (by omega) (by omega)).mono (fun x M' q => OX.to ?_ q)
  unfold qSure
  rw [if_pos ⟨hu, by decide⟩, if_pos h]
theorem c_sure1 (hX : RX M b s k was n t pa sw) {u x : Nat} (hu : u < 2 ^ s 0) (h : (solN s 0 3 127).1 u ≠ 1000) (hx : (solN s 0 3 127).2 u = x) : Ct l hdX kX mX5_sure [.ref 0, .int (nI u), .int (nI 1)] M (OX b (x, (s, k, was, n, t))) := by
  have w0 := p2_le hX.2.2.2.1.1
  refine (c_sure hX (u := u) (v := 1) (by omega) (by omega)).mono (fun x M' q => OX.to ?_ q)
  unfold qSure
  rw [if_pos ⟨hu, by decide⟩, if_neg h, if_neg (by decide), hx]
theorem c_deafN (hX : RX M b s k was n t pa sw) {u : Nat} (hu : u < 2 ^ s 0) (h : (solN s 4 4 127).1 u = 1000) : Ct l hdX kX mX5_deaf [.ref 0, .int (nI u)] M (OX b (4293967292, (s, k, was, n, t))) := by
  have w0 := p2_le hX.2.2.2.1.1
  refine (c_deaf hX (u := u) (by omega)).mono (fun x M' q => OX.to ?_ q)
  unfold qDeaf
  rw [if_pos hu, if_pos h]
theorem c_deafY (hX : RX M b s k was n t pa sw) {u x : Nat} (hu : u < 2 ^ s 0) (h : (solN s 4 4 127).1 u = x) (hx : x ≠ 1000) : Ct l hdX kX mX5_deaf [.ref 0, .int (nI u)] M (OX b (x, (s, k, was, n, t))) := by
  have w0 := p2_le hX.2.2.2.1.1
  refine (c_deaf hX (u := u) (by omega)).mono (fun x M' q => OX.to ?_ q)
  unfold qDeaf
  rw [if_pos hu, if_neg (by omega), h]
theorem c_mem (hX : RX M b s k was n t pa sw) {u : Nat} (hu : u < 2 ^ s 0) (h : (solN s 0 3 127).1 u ≠ 1000) : Ct l hdX kX mX5_memory [.ref 0, .int (nI u)] M (OX b (comingN s (solN s 0 3 127).1 (solN s 0 3 127).2 u, (s, k, was, n, t))) := by
  have w0 := p2_le hX.2.2.2.1.1
  refine (c_memory hX (u := u) (by omega)).mono (fun x M' q => OX.to ?_ q)
  unfold qMemory
  rw [if_pos hu, if_neg h]
theorem c_bel (hX : RX M b s k was n t pa sw) {u : Nat} (hu : u < 2 ^ s 0) : Ct l hdX kX mX5_believe [.ref 0, .int (nI u)] M (OX b (ones u, act s k was n t (sBelieve s u))) := by
  have w0 := p2_le hX.2.2.2.1.1
  refine (c_believe hX (u := u) (by omega)).mono (fun x M' q => OX.to ?_ q)
  unfold oBelieve
  rw [if_pos hu]
theorem c_chk (hX : RX M b s k was n t pa sw) {u v : Nat} (hu : u < 2 ^ s 0) (hv : v ≤ 3) (ho : ones u ≤ s 6) (hc : canR s u v) : Ct l hdX kX mX5_check [.ref 0, .int (nI u), .int (nI v)] M (OX (b + 1) (ones (thn s (s 1) u v), act s k was n t (sRound s u v))) := by
  have w0 := p2_le hX.2.2.2.1.1
  refine (c_check hX (u := u) (v := v) (by omega) (by omega)).mono (fun x M' q => OX.to ?_ q)
  unfold oCheck
  rw [if_pos ⟨hu, hv, ho⟩, if_pos hc]
theorem c_cnt (hX : RX M b s k was n t pa sw) (hb : b < 2 ^ 30) {u x : Nat} (hu : u ≤ 22) (h : qCount s k n u = x) : Ct l hdX kX mX5_count [.ref 0, .int (nI u)] M (OX b (x, (s, k, was, n, t))) :=
  (c_count hX hb (u := u) (by omega)).mono (fun _ M' q => OX.to (by rw [h]) q)
theorem c_pla (hX : RX M b s k was n t pa sw) {u v x : Nat} (hu : u < 7) (hv : v ≤ 3) (h : qPlaceOf s u v = x) : Ct l hdX kX mX5_placeOf [.ref 0, .int (nI u), .int (nI v)] M (OX b (x, (s, k, was, n, t))) :=
  (c_placeOf hX (u := u) (v := v) (by omega) (by omega)).mono (fun _ M' q => OX.to (by rw [h]) q)
theorem c_blf (hX : RX M b s k was n t pa sw) {u x : Nat} (hu : u ≤ 4) (h : qBeliefs s u = x) : Ct l hdX kX mX5_beliefs [.ref 0, .int (nI u)] M (OX b (x, (s, k, was, n, t))) :=
  (c_beliefs hX (u := u) (by omega)).mono (fun _ M' q => OX.to (by rw [h]) q)
/-- the signal that is heard of a move -/
theorem c_signal (hX : RX M b s k was n t pa sw) {f g c : Nat} (hf : f < s 0) (hg : g < s 0) (hc : c < 2 ^ s 0) (hgo : (goes s f (dif c (1 <<< f))).testBit g = true) : Ct l hdX kX mL_signal [.ref 0, .int (nI f), .int (nI g), .int (nI c)] M (OX b (hears s f g, (s, k, was, n, t))) := by
  refine Ct.of [some (.ref 0), some (.int (nI f)), some (.int (nI g)), some (.int (nI c)), none] (by decide +kernel) (fun h => absurd h (by decide)) (Nat.le_of_ble_eq_true rfl) rfl ?_
  have hw := hX.2.2.2.1
  have h7 := hw.1
  have w0 := p2_le h7
  have hh := hears_lt hw (p := f) (q := g) (by omega)
  have hf2 : 1 <<< f < 2 ^ s 0 := by rw [Nat.one_shiftLeft]; exact Nat.pow_lt_pow_right (by decide) hf
  have hd2 : dif c (1 <<< f) < 2 ^ s 0 := dif_lt hc
  have hbit : ∀ w, w ≤ 3 → (thn s (1 <<< f) (dif c (1 <<< f)) w >>> g &&& 1 = 1 ↔ hears s f g = w) := by
    intro w hw3
    rw [bit_iff, thn_bit h7]
    constructor
    · rintro ⟨-, p, -, h2, -, -, h5⟩
      rw [one_bit.mp h2] at h5
      exact h5.resolve_left (by omega)
    · intro h
      refine ⟨hg, f, hf, one_bit.mpr rfl, ?_, hgo, Or.inr h⟩
      cases e : (dif c (1 <<< f)).testBit f with
      | false => rfl
      | true =>
        have := ((dif_bit (by omega)).mp e).2
        rw [one_bit.mpr rfl] at this
        exact absurd this (by decide)
  have loop : ∀ d w (M1 : qM) (pa1 : Nat → Nat) (sw1 : Bool), w + d = hears s f g → RX M1 b s k was n t pa1 sw1 → T l hdX kX mL_signal (OX b (hears s f g, (s, k, was, n, t))) 0 0 3 [some (.ref 0), some (.int (nI f)), some (.int (nI g)), some (.int (nI c)), some (.int (nI w))] [] M1 := by
    intro d
    induction d with
    | zero =>
      intro w M1 pa1 sw1 hwd hX1
      have e : w = hears s f g := by omega
      have ht := thn_lt (s := s) (b := 1 <<< f) (c := dif c (1 <<< f)) (g := w) h7
      have hb1 := (hbit w (by omega)).mpr e.symm
      refine T.iload (pc' := 5) (q_d dL_signal_0 2 rfl) rfl rfl ?_
      refine T.iconst (pc' := 6) (v := nI 4) (q_d dL_signal_0 3 rfl) rfl (by decide) ?_
      refine T.icmp_geN (tgt := 42) (pc' := 9) (q_d dL_signal_0 4 rfl) rfl (by decide) (by omega) (by omega) (fun h6 => ?_) (fun h6 => ?_)
      · exact absurd h6 (by omega)
      · refine T.aload_n (pc' := 10) (q_d dL_signal_0 5 rfl) rfl rfl rfl ?_
        refine T.iconst (pc' := 11) (v := nI 1) (q_d dL_signal_0 6 rfl) rfl (by decide) ?_
        refine T.iload_n (pc' := 12) (q_d dL_signal_0 7 rfl) rfl rfl rfl ?_
        refine T.ishl (pc' := 13) (q_d dL_signal_0 8 rfl) rfl (nN_shl _ (by omega)) ?_
        refine T.iload_n (pc' := 14) (q_d dL_signal_0 9 rfl) rfl rfl rfl ?_
        refine T.iconst (pc' := 15) (v := nI 1) (q_d dL_signal_0 10 rfl) rfl (by decide) ?_
        refine T.iload_n (pc' := 16) (q_d dL_signal_0 11 rfl) rfl rfl rfl ?_
        refine T.ishl (pc' := 17) (q_d dL_signal_0 12 rfl) rfl (nN_shl _ (by omega)) ?_
        refine T.iconst (pc' := 18) (v := nI 4294967295) (q_d dL_signal_0 13 rfl) rfl (by decide) ?_
        refine T.ixor (pc' := 19) (q_d dL_signal_0 14 rfl) rfl (nN_xor _ _) ?_
        refine T.iand (pc' := 20) (q_d dL_signal_0 15 rfl) rfl (nN_and _ _) ?_
        refine T.iload (pc' := 22) (q_d dL_signal_0 16 rfl) rfl rfl ?_
        refine T.callV (pc' := 25) (ci := 5) (q_d dL_signal_0 17 rfl) rfl uX5_behind wM_L_9 (c_behG hX1 hf2 hd2 (show w ≤ 3 by omega)) rfl rfl (by decide) rfl rfl (by decide) (Nat.le_of_ble_eq_true rfl) rfl rfl (fun _ => rfl) ?_
        rintro _ M2 ⟨rfl, pa2, sw2, hX2⟩
        dsimp only [Option.toList, List.cons_append, List.nil_append, List.append_nil]
        refine T.iload_n (pc' := 26) (q_d dL_signal_0 18 rfl) rfl rfl rfl ?_
        refine T.ishr (pc' := 27) (q_d dL_signal_0 19 rfl) rfl (nN_shr (by omega) (by omega)) ?_
        refine T.iconst (pc' := 28) (v := nI 1) (q_d dL_signal_0 20 rfl) rfl (by decide) ?_
        refine T.iand (pc' := 29) (q_d dL_signal_0 21 rfl) rfl (nN_and _ _) ?_
        refine T.iconst (pc' := 30) (v := nI 1) (q_d dL_signal_0 22 rfl) rfl (by decide) ?_
        refine T.icmp_neN (tgt := 36) (pc' := 33) (q_d dL_signal_0 23 rfl) rfl (by decide) (by omega) (by omega) (fun h30 => ?_) (fun h30 => ?_)
        · exact absurd hb1 h30
        · refine T.iload (pc' := 35) (q_d dL_signal_0 24 rfl) rfl rfl ?_
          refine T.iret (q_d dL_signal_0 25 rfl) rfl rfl rfl ?_
          exact ⟨by rw [e], pa2, sw2, hX2⟩
    | succ d ih =>
      intro w M1 pa1 sw1 hwd hX1
      have ht := thn_lt (s := s) (b := 1 <<< f) (c := dif c (1 <<< f)) (g := w) h7
      have hb1 : ¬ (thn s (1 <<< f) (dif c (1 <<< f)) w >>> g &&& 1 = 1) := fun q => by have := (hbit w (by omega)).mp q; omega
      have g1 := and1_01 (thn s (1 <<< f) (dif c (1 <<< f)) w >>> g)
      refine T.iload (pc' := 5) (q_d dL_signal_0 2 rfl) rfl rfl ?_
      refine T.iconst (pc' := 6) (v := nI 4) (q_d dL_signal_0 3 rfl) rfl (by decide) ?_
      refine T.icmp_geN (tgt := 42) (pc' := 9) (q_d dL_signal_0 4 rfl) rfl (by decide) (by omega) (by omega) (fun h6 => ?_) (fun h6 => ?_)
      · exact absurd h6 (by omega)
      · refine T.aload_n (pc' := 10) (q_d dL_signal_0 5 rfl) rfl rfl rfl ?_
        refine T.iconst (pc' := 11) (v := nI 1) (q_d dL_signal_0 6 rfl) rfl (by decide) ?_
        refine T.iload_n (pc' := 12) (q_d dL_signal_0 7 rfl) rfl rfl rfl ?_
        refine T.ishl (pc' := 13) (q_d dL_signal_0 8 rfl) rfl (nN_shl _ (by omega)) ?_
        refine T.iload_n (pc' := 14) (q_d dL_signal_0 9 rfl) rfl rfl rfl ?_
        refine T.iconst (pc' := 15) (v := nI 1) (q_d dL_signal_0 10 rfl) rfl (by decide) ?_
        refine T.iload_n (pc' := 16) (q_d dL_signal_0 11 rfl) rfl rfl rfl ?_
        refine T.ishl (pc' := 17) (q_d dL_signal_0 12 rfl) rfl (nN_shl _ (by omega)) ?_
        refine T.iconst (pc' := 18) (v := nI 4294967295) (q_d dL_signal_0 13 rfl) rfl (by decide) ?_
        refine T.ixor (pc' := 19) (q_d dL_signal_0 14 rfl) rfl (nN_xor _ _) ?_
        refine T.iand (pc' := 20) (q_d dL_signal_0 15 rfl) rfl (nN_and _ _) ?_
        refine T.iload (pc' := 22) (q_d dL_signal_0 16 rfl) rfl rfl ?_
        refine T.callV (pc' := 25) (ci := 5) (q_d dL_signal_0 17 rfl) rfl uX5_behind wM_L_9 (c_behG hX1 hf2 hd2 (show w ≤ 3 by omega)) rfl rfl (by decide) rfl rfl (by decide) (Nat.le_of_ble_eq_true rfl) rfl rfl (fun _ => rfl) ?_
        rintro _ M2 ⟨rfl, pa2, sw2, hX2⟩
        dsimp only [Option.toList, List.cons_append, List.nil_append, List.append_nil]
        refine T.iload_n (pc' := 26) (q_d dL_signal_0 18 rfl) rfl rfl rfl ?_
        refine T.ishr (pc' := 27) (q_d dL_signal_0 19 rfl) rfl (nN_shr (by omega) (by omega)) ?_
        refine T.iconst (pc' := 28) (v := nI 1) (q_d dL_signal_0 20 rfl) rfl (by decide) ?_
        refine T.iand (pc' := 29) (q_d dL_signal_0 21 rfl) rfl (nN_and _ _) ?_
        refine T.iconst (pc' := 30) (v := nI 1) (q_d dL_signal_0 22 rfl) rfl (by decide) ?_
        refine T.icmp_neN (tgt := 36) (pc' := 33) (q_d dL_signal_0 23 rfl) rfl (by decide) (by omega) (by omega) (fun h30 => ?_) (fun h30 => ?_)
        · refine T.iinc (pc' := 39) (q_d dL_signal_0 26 rfl) rfl rfl (nN_p _ 1) (by decide) rfl rfl ?_
          refine T.goto (tgt := 3) (q_d dL_signal_0 27 rfl) (by decide) ?_
          exact ih (w + 1) M2 pa2 sw2 (by omega) hX2
        · exact absurd h30 hb1
  refine T.iconst (pc' := 1) (v := nI 0) (q_d dL_signal_0 0 rfl) rfl (by decide) ?_
  refine T.istore (pc' := 3) (q_d dL_signal_0 1 rfl) rfl (by decide) rfl rfl ?_
  exact loop (hears s f g) 0 M pa sw (Nat.zero_add _) hX
end Small
end
section
/-! a hunt of the law: the hare is in the belief, and is caught in as many rounds as the belief needs -/
theorem cmB_le {s nd bs : Nat → Nat} {L : Nat} {st : (Nat → Bool) × Nat} : ∀ k, (cmB s nd bs L k st).2 ≤ st.2 + k
  | 0 => Nat.le_refl _
  | k + 1 => by
    have ih := cmB_le (s := s) (nd := nd) (bs := bs) (L := L) (st := st) k
    rw [cmB]
    split
    · show (cmB s nd bs L k st).2 + 1 ≤ _
      omega
    · omega
theorem cmL_le {s nd bs : Nat → Nat} (h7 : s 0 ≤ 7) : ∀ L (st : (Nat → Bool) × Nat), (cmL s nd bs L st).2 ≤ st.2 + L * 127
  | 0, st => by rw [cmL]; omega
  | L + 1, st => by
    rw [cmL]
    have h1 := cmL_le (nd := nd) (bs := bs) h7 L (cmB s nd bs (L + 1) (2 ^ s 0 - 1) st)
    have h2 := cmB_le (s := s) (nd := nd) (bs := bs) (L := L + 1) (st := st) (2 ^ s 0 - 1)
    have h3 := p2_le h7
    omega
theorem coming_le {s nd bs : Nat → Nat} (h7 : s 0 ≤ 7) {y : Nat} (h : nd y ≤ 127) : comingN s nd bs y ≤ 16129 := by
  have h1 := cmL_le (nd := nd) (bs := bs) h7 (nd y) (fun x => decide (x = y), 0)
  unfold comingN
  have : (fun x => decide (x = y), 0).2 = 0 := rfl
  have h2 : nd y * 127 ≤ 127 * 127 := Nat.mul_le_mul_right 127 h
  omega
theorem dif_out {a p : Nat} (ha : a < 128) (h : a.testBit p = false) : dif a (1 <<< p) = a := by
  refine bit_ext fun i => ?_
  constructor
  · intro q
    exact ((dif_bit (Nat.lt_of_lt_of_le (lt_bit (n := 7) (dif_lt ha) q) (by decide))).mp q).1
  · intro q
    refine (dif_bit (Nat.lt_of_lt_of_le (lt_bit (n := 7) ha q) (by decide))).mpr ⟨q, ?_⟩
    cases e : (1 <<< p).testBit i with
    | false => rfl
    | true =>
      rw [one_bit.mp e, h] at q
      exact absurd q (by decide)
theorem sh8 : ∀ r, r < 8 → 0 < 8 <<< r ∧ 8 <<< r ≤ 1024 := by decide
theorem sI_lt0 {a : Nat} (ha : a < 4294967296) (h : ¬ nI a < 0) : a < 2147483648 := (nN_in ha).resolve_right h
def HQ (b : Nat) (s : Nat → Nat) (n : Nat) (t : Nat → Nat) : Option Value → qM → Prop := fun v M' => v = some (.int (nI 1)) ∧ ∃ s' k' was', Cy s s' ∧ Ac (b + 127) (s', k', was', n, t) M'
section Hunts
variable {l : Launch} {M : qM} {b : Nat} {s : Nat → Nat} {k : Nat} {was : Nat → Nat → Nat} {n : Nat} {t pa : Nat → Nat} {sw : Bool}
theorem hunts_end {u z N p j : Nat} (hb : b + 127 < 2 ^ 30) {M1 : qM} {s1 : Nat → Nat} {k1 : Nat} {was1 : Nat → Nat → Nat} {pa1 : Nat → Nat} {sw1 : Bool} {x9 x10 x11 : Option Value} (hX1 : RX M1 (b + j) s1 k1 was1 n t pa1 sw1) (hc : Cy s s1) (h2 : s1 2 = j) (hp : p < 7) (hbit : (s1 1).testBit p = true) (hj : j < N) (hN : N ≤ 127) :
    T l hdX kX mL_hunts (HQ b s n t) 0 0 126 [some (.ref 0), some (.int (nI u)), some (.int (nI z)), some (.int (nI N)), some (.int (nI p)), some (.int (nI j)), some (.int (nI 1)), some (.int (nI 1)), some (.int (nI (j + 1))), x9, x10, x11, none, none, none] [] M1 := by
  have w0 := p2_le hX1.2.2.2.1.1
  have w1 := hX1.2.2.2.1.2.1
  have g1 := and1_01 (s1 1 >>> p)
  have hb1 := (bit_iff _ _).mpr hbit
  refine T.iload (pc' := 128) (q_d dL_hunts_1 29 rfl) rfl rfl ?_
  refine T.iload_n (pc' := 129) (q_d dL_hunts_1 30 rfl) rfl rfl rfl ?_
  refine T.icmp_geN (tgt := 325) (pc' := 132) (q_d dL_hunts_1 31 rfl) rfl (by decide) (by omega) (by omega) (fun h129 => ?_) (fun h129 => ?_)
  · refine T.iload (pc' := 327) (q_d dL_hunts_4 12 rfl) rfl rfl ?_
    refine T.if_eqN (tgt := 374) (pc' := 330) (q_d dL_hunts_4 13 rfl) rfl (by decide) (by omega) (fun h327 => ?_) (fun h327 => ?_)
    · exact absurd h327 (by decide)
    · refine T.iload (pc' := 332) (q_d dL_hunts_4 14 rfl) rfl rfl ?_
      refine T.if_eqN (tgt := 374) (pc' := 335) (q_d dL_hunts_4 15 rfl) rfl (by decide) (by omega) (fun h332 => ?_) (fun h332 => ?_)
      · exact absurd h332 (by decide)
      · refine T.iload (pc' := 337) (q_d dL_hunts_4 16 rfl) rfl rfl ?_
        refine T.iload_n (pc' := 338) (q_d dL_hunts_4 17 rfl) rfl rfl rfl ?_
        refine T.icmp_geN (tgt := 374) (pc' := 341) (q_d dL_hunts_4 18 rfl) rfl (by decide) (by omega) (by omega) (fun h338 => ?_) (fun h338 => ?_)
        · exact absurd h338 (by omega)
        · refine T.aload_n (pc' := 342) (q_d dL_hunts_4 19 rfl) rfl rfl rfl ?_
          refine T.iconst (pc' := 343) (v := nI 4) (q_d dL_hunts_4 20 rfl) rfl (by decide) ?_
          refine T.callV (pc' := 346) (ci := 5) (q_d dL_hunts_4 21 rfl) rfl uX5_count wM_L_38 (c_cnt hX1 (by omega) (u := 4) (x := s1 2) (by decide) rfl) rfl rfl (by decide) rfl rfl (by decide) (Nat.le_of_ble_eq_true rfl) rfl rfl (fun _ => rfl) ?_
          rintro _ M2 ⟨rfl, pa2, sw2, hX2⟩
          replace hX2 : RX M2 (b + j) s1 k1 was1 n t pa2 sw2 := hX2
          dsimp only [Option.toList, List.cons_append, List.nil_append, List.append_nil]
          refine T.iload (pc' := 348) (q_d dL_hunts_4 22 rfl) rfl rfl ?_
          refine T.icmp_neN (tgt := 374) (pc' := 351) (q_d dL_hunts_4 23 rfl) rfl (by decide) (by omega) (by omega) (fun h348 => ?_) (fun h348 => ?_)
          · exact absurd h2 h348
          · refine T.iload (pc' := 353) (q_d dL_hunts_4 24 rfl) rfl rfl ?_
            refine T.if_eqN (tgt := 370) (pc' := 356) (q_d dL_hunts_4 25 rfl) rfl (by decide) (by omega) (fun h353 => ?_) (fun h353 => ?_)
            · refine T.iconst (pc' := 371) (v := nI 1) (q_d dL_hunts_4 35 rfl) rfl (by decide) ?_
              refine T.goto (tgt := 375) (q_d dL_hunts_4 36 rfl) (by decide) ?_
              refine T.zret (q_d dL_hunts_4 38 rfl) rfl (by decide) rfl rfl ?_
              first
              | exact ⟨rfl, s1, k1, was1, hc, pa3, sw3, hX3.le (by omega)⟩
              | exact ⟨rfl, s1, k1, was1, hc, pa2, sw2, hX2.le (by omega)⟩
            · refine T.aload_n (pc' := 357) (q_d dL_hunts_4 26 rfl) rfl rfl rfl ?_
              refine T.iconst (pc' := 358) (v := nI 3) (q_d dL_hunts_4 27 rfl) rfl (by decide) ?_
              refine T.callV (pc' := 361) (ci := 5) (q_d dL_hunts_4 28 rfl) rfl uX5_count wM_L_38 (c_cnt hX2 (by omega) (u := 3) (x := s1 1) (by decide) rfl) rfl rfl (by decide) rfl rfl (by decide) (Nat.le_of_ble_eq_true rfl) rfl rfl (fun _ => rfl) ?_
              rintro _ M3 ⟨rfl, pa3, sw3, hX3⟩
              replace hX3 : RX M3 (b + j) s1 k1 was1 n t pa3 sw3 := hX3
              dsimp only [Option.toList, List.cons_append, List.nil_append, List.append_nil]
              refine T.iload (pc' := 363) (q_d dL_hunts_4 29 rfl) rfl rfl ?_
              refine T.ishr (pc' := 364) (q_d dL_hunts_4 30 rfl) rfl (nN_shr (by omega) (by omega)) ?_
              refine T.iconst (pc' := 365) (v := nI 1) (q_d dL_hunts_4 31 rfl) rfl (by decide) ?_
              refine T.iand (pc' := 366) (q_d dL_hunts_4 32 rfl) rfl (nN_and _ _) ?_
              refine T.iconst (pc' := 367) (v := nI 1) (q_d dL_hunts_4 33 rfl) rfl (by decide) ?_
              refine T.icmp_neN (tgt := 374) (pc' := 370) (q_d dL_hunts_4 34 rfl) rfl (by decide) (by omega) (by omega) (fun h367 => ?_) (fun h367 => ?_)
              · exact absurd hb1 h367
              · refine T.iconst (pc' := 371) (v := nI 1) (q_d dL_hunts_4 35 rfl) rfl (by decide) ?_
                refine T.goto (tgt := 375) (q_d dL_hunts_4 36 rfl) (by decide) ?_
                refine T.zret (q_d dL_hunts_4 38 rfl) rfl (by decide) rfl rfl ?_
                first
                | exact ⟨rfl, s1, k1, was1, hc, pa3, sw3, hX3.le (by omega)⟩
                | exact ⟨rfl, s1, k1, was1, hc, pa2, sw2, hX2.le (by omega)⟩
  · refine T.iload (pc' := 134) (q_d dL_hunts_1 32 rfl) rfl rfl ?_
    refine T.if_eqN (tgt := 325) (pc' := 137) (q_d dL_hunts_1 33 rfl) rfl (by decide) (by omega) (fun h134 => ?_) (fun h134 => ?_)
    · exact absurd h134 (by decide)
    · refine T.iload (pc' := 139) (q_d dL_hunts_1 34 rfl) rfl rfl ?_
      refine T.if_neN (tgt := 325) (pc' := 142) (q_d dL_hunts_1 35 rfl) rfl (by decide) (by omega) (fun h139 => ?_) (fun h139 => ?_)
      · refine T.iload (pc' := 327) (q_d dL_hunts_4 12 rfl) rfl rfl ?_
        refine T.if_eqN (tgt := 374) (pc' := 330) (q_d dL_hunts_4 13 rfl) rfl (by decide) (by omega) (fun h327 => ?_) (fun h327 => ?_)
        · exact absurd h327 (by decide)
        · refine T.iload (pc' := 332) (q_d dL_hunts_4 14 rfl) rfl rfl ?_
          refine T.if_eqN (tgt := 374) (pc' := 335) (q_d dL_hunts_4 15 rfl) rfl (by decide) (by omega) (fun h332 => ?_) (fun h332 => ?_)
          · exact absurd h332 (by decide)
          · refine T.iload (pc' := 337) (q_d dL_hunts_4 16 rfl) rfl rfl ?_
            refine T.iload_n (pc' := 338) (q_d dL_hunts_4 17 rfl) rfl rfl rfl ?_
            refine T.icmp_geN (tgt := 374) (pc' := 341) (q_d dL_hunts_4 18 rfl) rfl (by decide) (by omega) (by omega) (fun h338 => ?_) (fun h338 => ?_)
            · exact absurd h338 (by omega)
            · refine T.aload_n (pc' := 342) (q_d dL_hunts_4 19 rfl) rfl rfl rfl ?_
              refine T.iconst (pc' := 343) (v := nI 4) (q_d dL_hunts_4 20 rfl) rfl (by decide) ?_
              refine T.callV (pc' := 346) (ci := 5) (q_d dL_hunts_4 21 rfl) rfl uX5_count wM_L_38 (c_cnt hX1 (by omega) (u := 4) (x := s1 2) (by decide) rfl) rfl rfl (by decide) rfl rfl (by decide) (Nat.le_of_ble_eq_true rfl) rfl rfl (fun _ => rfl) ?_
              rintro _ M2 ⟨rfl, pa2, sw2, hX2⟩
              replace hX2 : RX M2 (b + j) s1 k1 was1 n t pa2 sw2 := hX2
              dsimp only [Option.toList, List.cons_append, List.nil_append, List.append_nil]
              refine T.iload (pc' := 348) (q_d dL_hunts_4 22 rfl) rfl rfl ?_
              refine T.icmp_neN (tgt := 374) (pc' := 351) (q_d dL_hunts_4 23 rfl) rfl (by decide) (by omega) (by omega) (fun h348 => ?_) (fun h348 => ?_)
              · exact absurd h2 h348
              · refine T.iload (pc' := 353) (q_d dL_hunts_4 24 rfl) rfl rfl ?_
                refine T.if_eqN (tgt := 370) (pc' := 356) (q_d dL_hunts_4 25 rfl) rfl (by decide) (by omega) (fun h353 => ?_) (fun h353 => ?_)
                · refine T.iconst (pc' := 371) (v := nI 1) (q_d dL_hunts_4 35 rfl) rfl (by decide) ?_
                  refine T.goto (tgt := 375) (q_d dL_hunts_4 36 rfl) (by decide) ?_
                  refine T.zret (q_d dL_hunts_4 38 rfl) rfl (by decide) rfl rfl ?_
                  first
                  | exact ⟨rfl, s1, k1, was1, hc, pa3, sw3, hX3.le (by omega)⟩
                  | exact ⟨rfl, s1, k1, was1, hc, pa2, sw2, hX2.le (by omega)⟩
                · refine T.aload_n (pc' := 357) (q_d dL_hunts_4 26 rfl) rfl rfl rfl ?_
                  refine T.iconst (pc' := 358) (v := nI 3) (q_d dL_hunts_4 27 rfl) rfl (by decide) ?_
                  refine T.callV (pc' := 361) (ci := 5) (q_d dL_hunts_4 28 rfl) rfl uX5_count wM_L_38 (c_cnt hX2 (by omega) (u := 3) (x := s1 1) (by decide) rfl) rfl rfl (by decide) rfl rfl (by decide) (Nat.le_of_ble_eq_true rfl) rfl rfl (fun _ => rfl) ?_
                  rintro _ M3 ⟨rfl, pa3, sw3, hX3⟩
                  replace hX3 : RX M3 (b + j) s1 k1 was1 n t pa3 sw3 := hX3
                  dsimp only [Option.toList, List.cons_append, List.nil_append, List.append_nil]
                  refine T.iload (pc' := 363) (q_d dL_hunts_4 29 rfl) rfl rfl ?_
                  refine T.ishr (pc' := 364) (q_d dL_hunts_4 30 rfl) rfl (nN_shr (by omega) (by omega)) ?_
                  refine T.iconst (pc' := 365) (v := nI 1) (q_d dL_hunts_4 31 rfl) rfl (by decide) ?_
                  refine T.iand (pc' := 366) (q_d dL_hunts_4 32 rfl) rfl (nN_and _ _) ?_
                  refine T.iconst (pc' := 367) (v := nI 1) (q_d dL_hunts_4 33 rfl) rfl (by decide) ?_
                  refine T.icmp_neN (tgt := 374) (pc' := 370) (q_d dL_hunts_4 34 rfl) rfl (by decide) (by omega) (by omega) (fun h367 => ?_) (fun h367 => ?_)
                  · exact absurd hb1 h367
                  · refine T.iconst (pc' := 371) (v := nI 1) (q_d dL_hunts_4 35 rfl) rfl (by decide) ?_
                    refine T.goto (tgt := 375) (q_d dL_hunts_4 36 rfl) (by decide) ?_
                    refine T.zret (q_d dL_hunts_4 38 rfl) rfl (by decide) rfl rfl ?_
                    first
                    | exact ⟨rfl, s1, k1, was1, hc, pa3, sw3, hX3.le (by omega)⟩
                    | exact ⟨rfl, s1, k1, was1, hc, pa2, sw2, hX2.le (by omega)⟩
      · exact absurd h139 (by decide)
theorem hunts_loop {u z N : Nat} (hb : b + 127 < 2 ^ 30) (hz : z < 2147483648) (hN : N ≤ 127) (h7 : s 0 ≤ 7) : ∀ d j p (M1 : qM) (s1 : Nat → Nat) (k1 : Nat) (was1 : Nat → Nat → Nat) (pa1 : Nat → Nat) (sw1 : Bool), j + d = N → RX M1 (b + j) s1 k1 was1 n t pa1 sw1 → Cy s s1 → s1 2 = j → p < s 0 → (s1 1).testBit p = true → (solN s 0 3 127).1 (s1 1) ≤ d →
    T l hdX kX mL_hunts (HQ b s n t) 0 0 126 [some (.ref 0), some (.int (nI u)), some (.int (nI z)), some (.int (nI N)), some (.int (nI p)), some (.int (nI j)), some (.int (nI 0)), some (.int (nI 1)), some (.int (nI j)), none, none, none, none, none, none] [] M1 := by
  intro d
  induction d with
  | zero =>
    intro j p M1 s1 k1 was1 pa1 sw1 hjd hX1 hc h2 hp hbit hle
    have hpos : 0 < s1 1 := Nat.pos_of_ne_zero (fun e => by rw [e, Nat.zero_testBit] at hbit; exact absurd hbit (by decide))
    have := sol_pos (s := s) (g0 := 0) (g1 := 3) hpos 127
    exact absurd hle (by omega)
  | succ d ih =>
    intro j p M1 s1 k1 was1 pa1 sw1 hjd hX1 hc h2 hp hbit hle
    have hw := hX1.2.2.2.1
    have h71 := hw.1
    have e0 : s1 0 = s 0 := hc 0 (by decide) (by decide) (by decide) (by decide)
    have w0 := p2_le h71
    have w1 := hw.2.1
    have w6 := hw.2.2.2.2.2.1
    have hpos : 0 < s1 1 := Nat.pos_of_ne_zero (fun e => by rw [e, Nat.zero_testBit] at hbit; exact absurd hbit (by decide))
    have hnp := sol_pos (s := s) (g0 := 0) (g1 := 3) hpos 127
    have esol : solN s1 0 3 127 = solN s 0 3 127 := hc.lsol h7 127
    have hne : (solN s1 0 3 127).1 (s1 1) ≠ 1000 := by rw [esol]; omega
    obtain ⟨-, q2, q3, q4⟩ := sol_best (s := s1) h71 127 (s1 1) (by decide) hpos hne
    have nd : (solN s1 0 3 127).1 (s1 1) = (solN s 0 3 127).1 (s1 1) := by rw [esol]
    obtain ⟨ck, eck⟩ : ∃ ck, (solN s1 0 3 127).2 (s1 1) = ck := ⟨_, rfl⟩
    rw [eck] at q2 q3 q4
    have g1 := and1_01 (s1 1 >>> p)
    have hb1 := (bit_iff _ _).mpr hbit
    have g2 := and1_01 (ck >>> p)
    have hp2 : 1 <<< p < 2 ^ s1 0 := by rw [Nat.one_shiftLeft, e0]; exact Nat.pow_lt_pow_right (by decide) hp
    have hcl := thn_lt (s := s1) (b := 1 <<< p) (c := ck) (g := 4) h71
    have hs8 := sh8 (j % 8) (Nat.mod_lt _ (by decide))
    have hcan : ck.testBit p = false → thn s1 (1 <<< p) ck 4 ≠ 0 := fun h => by rw [thn_one hw (by omega) h]; exact goes_ne
    have hnc : ¬ (ck >>> p &&& 1 = 1) → ck.testBit p = false := fun h => by
      cases e : ck.testBit p with
      | false => rfl
      | true => exact absurd ((bit_iff _ _).mpr e) h
    have hzd : z / (8 <<< (j % 8)) < 2147483648 := Nat.lt_of_le_of_lt (Nat.div_le_self _ _) hz
    have tail : ∀ (M5 : qM) (pa5 : Nat → Nat) (sw5 : Bool) (y11 : Nat), RX M5 (b + j) s1 k1 was1 n t pa5 sw5 → T l hdX kX mL_hunts (HQ b s n t) 0 0 213 [some (.ref 0), some (.int (nI u)), some (.int (nI z)), some (.int (nI N)), some (.int (nI p)), some (.int (nI j)), some (.int (nI 0)), some (.int (nI 1)), some (.int (nI j)), some (.int (nI (s1 1))), some (.int (nI ck)), some (.int (nI y11)), none, none, none] [] M5 := by
      intro M5 pa5 sw5 y11 hX5
      by_cases hck : ck >>> p &&& 1 = 1
      · refine T.iload (pc' := 215) (q_d dL_hunts_2 34 rfl) rfl rfl ?_
        refine T.iload (pc' := 217) (q_d dL_hunts_2 35 rfl) rfl rfl ?_
        refine T.ishr (pc' := 218) (q_d dL_hunts_2 36 rfl) rfl (nN_shr (by omega) (by omega)) ?_
        refine T.iconst (pc' := 219) (v := nI 1) (q_d dL_hunts_2 37 rfl) rfl (by decide) ?_
        refine T.iand (pc' := 220) (q_d dL_hunts_2 38 rfl) rfl (nN_and _ _) ?_
        refine T.iconst (pc' := 221) (v := nI 1) (q_d dL_hunts_2 39 rfl) rfl (by decide) ?_
        refine T.icmp_neN (tgt := 228) (pc' := 224) (q_d dL_hunts_3 0 rfl) rfl (by decide) (by omega) (by omega) (fun h221 => ?_) (fun h221 => ?_)
        · exact absurd hck h221
        · refine T.iconst (pc' := 225) (v := nI 1) (q_d dL_hunts_3 1 rfl) rfl (by decide) ?_
          refine T.goto (tgt := 229) (q_d dL_hunts_3 2 rfl) (by decide) ?_
          refine T.istore (pc' := 231) (q_d dL_hunts_3 4 rfl) rfl (by decide) rfl rfl ?_
          refine T.iload (pc' := 233) (q_d dL_hunts_3 5 rfl) rfl rfl ?_
          refine T.if_eqN (tgt := 319) (pc' := 236) (q_d dL_hunts_3 6 rfl) rfl (by decide) (by omega) (fun h233 => ?_) (fun h233 => ?_)
          · exact absurd h233 (by decide)
          · refine T.iload (pc' := 238) (q_d dL_hunts_3 7 rfl) rfl rfl ?_
            refine T.if_neN (tgt := 319) (pc' := 241) (q_d dL_hunts_3 8 rfl) rfl (by decide) (by omega) (fun h238 => ?_) (fun h238 => ?_)
            · refine T.iinc (pc' := 322) (q_d dL_hunts_4 10 rfl) rfl rfl (nN_p _ 1) (by decide) rfl rfl ?_
              refine T.goto (tgt := 126) (q_d dL_hunts_4 11 rfl) (by decide) ?_
              exact hunts_end hb hX5 hc h2 (by omega) hbit (by omega) hN
            · exact absurd h238 (by decide)
      · have hck0 := hnc hck
        refine T.iload (pc' := 215) (q_d dL_hunts_2 34 rfl) rfl rfl ?_
        refine T.iload (pc' := 217) (q_d dL_hunts_2 35 rfl) rfl rfl ?_
        refine T.ishr (pc' := 218) (q_d dL_hunts_2 36 rfl) rfl (nN_shr (by omega) (by omega)) ?_
        refine T.iconst (pc' := 219) (v := nI 1) (q_d dL_hunts_2 37 rfl) rfl (by decide) ?_
        refine T.iand (pc' := 220) (q_d dL_hunts_2 38 rfl) rfl (nN_and _ _) ?_
        refine T.iconst (pc' := 221) (v := nI 1) (q_d dL_hunts_2 39 rfl) rfl (by decide) ?_
        refine T.icmp_neN (tgt := 228) (pc' := 224) (q_d dL_hunts_3 0 rfl) rfl (by decide) (by omega) (by omega) (fun h221 => ?_) (fun h221 => ?_)
        · refine T.iconst (pc' := 229) (v := nI 0) (q_d dL_hunts_3 3 rfl) rfl (by decide) ?_
          refine T.istore (pc' := 231) (q_d dL_hunts_3 4 rfl) rfl (by decide) rfl rfl ?_
          refine T.iload (pc' := 233) (q_d dL_hunts_3 5 rfl) rfl rfl ?_
          refine T.if_eqN (tgt := 319) (pc' := 236) (q_d dL_hunts_3 6 rfl) rfl (by decide) (by omega) (fun h233 => ?_) (fun h233 => ?_)
          · exact absurd h233 (by decide)
          · refine T.iload (pc' := 238) (q_d dL_hunts_3 7 rfl) rfl rfl ?_
            refine T.if_neN (tgt := 319) (pc' := 241) (q_d dL_hunts_3 8 rfl) rfl (by decide) (by omega) (fun h238 => ?_) (fun h238 => ?_)
            · exact absurd h238 (by decide)
            · refine T.aload_n (pc' := 242) (q_d dL_hunts_3 9 rfl) rfl rfl rfl ?_
              refine T.iconst (pc' := 243) (v := nI 1) (q_d dL_hunts_3 10 rfl) rfl (by decide) ?_
              refine T.iload (pc' := 245) (q_d dL_hunts_3 11 rfl) rfl rfl ?_
              refine T.ishl (pc' := 246) (q_d dL_hunts_3 12 rfl) rfl (nN_shl _ (by omega)) ?_
              refine T.iload (pc' := 248) (q_d dL_hunts_3 13 rfl) rfl rfl ?_
              refine T.iconst (pc' := 249) (v := nI 4294967295) (q_d dL_hunts_3 14 rfl) rfl (by decide) ?_
              refine T.callV (pc' := 252) (ci := 5) (q_d dL_hunts_3 15 rfl) rfl uX5_behind wM_L_9 (c_behA hX5 hp2 q2) rfl rfl (by decide) rfl rfl (by decide) (Nat.le_of_ble_eq_true rfl) rfl rfl (fun _ => rfl) ?_
              rintro _ M6 ⟨rfl, pa6, sw6, hX6⟩
              replace hX6 : RX M6 (b + j) s1 k1 was1 n t pa6 sw6 := hX6
              have hcp := ones_pos _ (show thn s1 (1 <<< p) ck 4 < 128 by omega) (hcan hck0)
              have hco := ones_le (thn s1 (1 <<< p) ck 4)
              dsimp only [Option.toList, List.cons_append, List.nil_append, List.append_nil]
              refine T.istore (pc' := 254) (q_d dL_hunts_3 16 rfl) rfl (by decide) rfl rfl ?_
              refine T.iload (pc' := 256) (q_d dL_hunts_3 17 rfl) rfl rfl ?_
              refine T.iload_n (pc' := 257) (q_d dL_hunts_3 18 rfl) rfl rfl rfl ?_
              refine T.bipush (pc' := 259) (v := nI 8) (q_d dL_hunts_3 19 rfl) rfl (by decide) ?_
              refine T.iload (pc' := 261) (q_d dL_hunts_3 20 rfl) rfl rfl ?_
              refine T.bipush (pc' := 263) (v := nI 8) (q_d dL_hunts_3 21 rfl) rfl (by decide) ?_
              refine T.irem (pc' := 264) (q_d dL_hunts_3 22 rfl) rfl (by decide) (pk_rem (by omega) (by omega) (by omega)) ?_
              refine T.ishl (pc' := 265) (q_d dL_hunts_3 23 rfl) rfl (nN_shl _ (by omega)) ?_
              refine T.idiv (pc' := 266) (q_d dL_hunts_3 24 rfl) rfl (nI_ne0 (by omega) (by omega)) (pk_div (by omega) (by omega) (by omega)) ?_
              refine T.iload (pc' := 268) (q_d dL_hunts_3 25 rfl) rfl rfl ?_
              refine T.callS (pc' := 271) (q_d dL_hunts_3 26 rfl) rfl uL_bits wM_L_24 (c_bits (x := thn s1 (1 <<< p) ck 4) (by omega)) rfl rfl (by decide) (Nat.le_of_ble_eq_true rfl) rfl rfl (fun _ => rfl) ?_
              rintro _ _ ⟨rfl, rfl⟩
              dsimp only [Option.toList, List.cons_append, List.nil_append, List.append_nil]
              refine T.irem (pc' := 272) (q_d dL_hunts_3 27 rfl) rfl (nI_ne0 (by omega) (by omega)) (pk_rem (by omega) (by omega) (by omega)) ?_
              refine T.callS (pc' := 275) (q_d dL_hunts_3 28 rfl) rfl uL_nth wM_L_29 (c_nth (u := thn s1 (1 <<< p) ck 4) (by omega) (Nat.mod_lt _ hcp)) rfl rfl (by decide) (Nat.le_of_ble_eq_true rfl) rfl rfl (fun _ => rfl) ?_
              rintro _ _ ⟨rfl, q, rfl, hq7, hqb⟩
              have hqg : (goes s1 p ck).testBit q = true := by rw [← thn_one hw (by omega) hck0]; exact hqb
              have hq0 : q < s1 0 := ((thn_bit h71).mp hqb).1
              have hh4 := hears_lt hw (p := p) (q := q) (by omega)
              have hnew : (thn s1 (s1 1) ck (hears s1 p q)).testBit q = true := (thn_bit h71).mpr ⟨hq0, p, by omega, hbit, hck0, hqg, Or.inr rfl⟩
              have hnl := thn_lt (s := s1) (b := s1 1) (c := ck) (g := hears s1 p q) h71
              have hnz : thn s1 (s1 1) ck (hears s1 p q) ≠ 0 := fun e => by rw [e, Nat.zero_testBit] at hnew; exact absurd hnew (by decide)
              have hno := ones_pos _ (show thn s1 (s1 1) ck (hears s1 p q) < 128 by omega) hnz
              have hno7 := ones_le (thn s1 (s1 1) ck (hears s1 p q))
              dsimp only [Option.toList, List.cons_append, List.nil_append, List.append_nil]
              refine T.istore (pc' := 277) (q_d dL_hunts_3 29 rfl) rfl (by decide) rfl rfl ?_
              refine T.aload_n (pc' := 278) (q_d dL_hunts_3 30 rfl) rfl rfl rfl ?_
              refine T.iload (pc' := 280) (q_d dL_hunts_3 31 rfl) rfl rfl ?_
              refine T.iload (pc' := 282) (q_d dL_hunts_3 32 rfl) rfl rfl ?_
              refine T.iload (pc' := 284) (q_d dL_hunts_3 33 rfl) rfl rfl ?_
              refine T.callS (pc' := 287) (q_d dL_hunts_3 34 rfl) rfl uL_signal wM_L_41 (c_signal hX6 (f := p) (g := q) (c := ck) (by omega) hq0 q2 (by rw [dif_out (by omega) hck0]; exact hqg)) rfl rfl (by decide) (Nat.le_of_ble_eq_true rfl) rfl rfl (fun _ => rfl) ?_
              rintro _ M7 ⟨rfl, pa7, sw7, hX7⟩
              replace hX7 : RX M7 (b + j) s1 k1 was1 n t pa7 sw7 := hX7
              dsimp only [Option.toList, List.cons_append, List.nil_append, List.append_nil]
              refine T.istore (pc' := 289) (q_d dL_hunts_3 35 rfl) rfl (by decide) rfl rfl ?_
              refine T.iload (pc' := 291) (q_d dL_hunts_3 36 rfl) rfl rfl ?_
              refine T.if_ltN (tgt := 309) (pc' := 294) (q_d dL_hunts_3 37 rfl) rfl (by decide) (by omega) ?_
              refine T.aload_n (pc' := 295) (q_d dL_hunts_3 38 rfl) rfl rfl rfl ?_
              refine T.iload (pc' := 297) (q_d dL_hunts_3 39 rfl) rfl rfl ?_
              refine T.iload (pc' := 299) (q_d dL_hunts_4 0 rfl) rfl rfl ?_
              refine T.callV (pc' := 302) (ci := 5) (q_d dL_hunts_4 1 rfl) rfl uX5_check wM_L_45 (c_chk hX7 (u := ck) (v := hears s1 p q) q2 (by omega) q3 ⟨by omega, Or.inr hnz⟩) rfl rfl (by decide) rfl rfl (by decide) (Nat.le_of_ble_eq_true rfl) rfl rfl (fun _ => rfl) ?_
              rintro _ M8 ⟨rfl, pa8, sw8, hX8⟩
              replace hX8 : RX M8 (b + j + 1) (sRound s1 ck (hears s1 p q)) (pushK k1) (pushW k1 was1 s1) n t pa8 sw8 := hX8
              dsimp only [Option.toList, List.cons_append, List.nil_append, List.append_nil]
              refine T.if_leN (tgt := 309) (pc' := 305) (q_d dL_hunts_4 2 rfl) rfl (by decide) (by omega) (fun h302 => ?_) (fun h302 => ?_)
              · exact absurd h302 (by omega)
              · refine T.iconst (pc' := 306) (v := nI 1) (q_d dL_hunts_4 3 rfl) rfl (by decide) ?_
                refine T.goto (tgt := 310) (q_d dL_hunts_4 4 rfl) (by decide) ?_
                refine T.istore (pc' := 312) (q_d dL_hunts_4 6 rfl) rfl (by decide) rfl rfl ?_
                refine T.iload (pc' := 314) (q_d dL_hunts_4 7 rfl) rfl rfl ?_
                refine T.istore (pc' := 316) (q_d dL_hunts_4 8 rfl) rfl (by decide) rfl rfl ?_
                refine T.iinc (pc' := 319) (q_d dL_hunts_4 9 rfl) rfl rfl (nN_p _ 1) (by decide) rfl rfl ?_
                refine T.iinc (pc' := 322) (q_d dL_hunts_4 10 rfl) rfl rfl (nN_p _ 1) (by decide) rfl rfl ?_
                refine T.goto (tgt := 126) (q_d dL_hunts_4 11 rfl) (by decide) ?_
                refine T.drop (loc' := [some (.ref 0), some (.int (nI u)), some (.int (nI z)), some (.int (nI N)), some (.int (nI q)), some (.int (nI (j + 1))), some (.int (nI 0)), some (.int (nI 1)), some (.int (nI (j + 1))), none, none, none, none, none, none]) ⟨rfl, rfl, rfl, rfl, rfl, rfl, rfl, rfl, rfl, trivial⟩ ?_
                refine ih (j + 1) q M8 (sRound s1 ck (hears s1 p q)) _ _ pa8 sw8 (by omega) hX8 (hc.ltrans (Cy.lround s1 ck (hears s1 p q))) (by rw [← h2]; rfl) (by omega) hnew ?_
                show (solN s 0 3 127).1 (thn s1 (s1 1) ck (hears s1 p q)) ≤ d
                have h9 := q4 (hears s1 p q) (by omega)
                rw [nd, esol] at h9
                omega
        · exact absurd h221 hck
    refine T.iload (pc' := 128) (q_d dL_hunts_1 29 rfl) rfl rfl ?_
    refine T.iload_n (pc' := 129) (q_d dL_hunts_1 30 rfl) rfl rfl rfl ?_
    refine T.icmp_geN (tgt := 325) (pc' := 132) (q_d dL_hunts_1 31 rfl) rfl (by decide) (by omega) (by omega) (fun h129 => ?_) (fun h129 => ?_)
    · exact absurd h129 (by omega)
    · refine T.iload (pc' := 134) (q_d dL_hunts_1 32 rfl) rfl rfl ?_
      refine T.if_eqN (tgt := 325) (pc' := 137) (q_d dL_hunts_1 33 rfl) rfl (by decide) (by omega) (fun h134 => ?_) (fun h134 => ?_)
      · exact absurd h134 (by decide)
      · refine T.iload (pc' := 139) (q_d dL_hunts_1 34 rfl) rfl rfl ?_
        refine T.if_neN (tgt := 325) (pc' := 142) (q_d dL_hunts_1 35 rfl) rfl (by decide) (by omega) (fun h139 => ?_) (fun h139 => ?_)
        · exact absurd h139 (by decide)
        · refine T.aload_n (pc' := 143) (q_d dL_hunts_1 36 rfl) rfl rfl rfl ?_
          refine T.iconst (pc' := 144) (v := nI 3) (q_d dL_hunts_1 37 rfl) rfl (by decide) ?_
          refine T.callV (pc' := 147) (ci := 5) (q_d dL_hunts_1 38 rfl) rfl uX5_count wM_L_38 (c_cnt hX1 (by omega) (u := 3) (x := s1 1) (by decide) rfl) rfl rfl (by decide) rfl rfl (by decide) (Nat.le_of_ble_eq_true rfl) rfl rfl (fun _ => rfl) ?_
          rintro _ M2 ⟨rfl, pa2, sw2, hX2⟩
          replace hX2 : RX M2 (b + j) s1 k1 was1 n t pa2 sw2 := hX2
          dsimp only [Option.toList, List.cons_append, List.nil_append, List.append_nil]
          refine T.istore (pc' := 149) (q_d dL_hunts_1 39 rfl) rfl (by decide) rfl rfl ?_
          refine T.aload_n (pc' := 150) (q_d dL_hunts_2 0 rfl) rfl rfl rfl ?_
          refine T.iload (pc' := 152) (q_d dL_hunts_2 1 rfl) rfl rfl ?_
          refine T.iconst (pc' := 153) (v := nI 1) (q_d dL_hunts_2 2 rfl) rfl (by decide) ?_
          refine T.callV (pc' := 156) (ci := 5) (q_d dL_hunts_2 3 rfl) rfl uX5_sure wM_L_15 (c_sure1 hX2 w1 hne eck) rfl rfl (by decide) rfl rfl (by decide) (Nat.le_of_ble_eq_true rfl) rfl rfl (fun _ => rfl) ?_
          rintro _ M3 ⟨rfl, pa3, sw3, hX3⟩
          replace hX3 : RX M3 (b + j) s1 k1 was1 n t pa3 sw3 := hX3
          dsimp only [Option.toList, List.cons_append, List.nil_append, List.append_nil]
          refine T.istore (pc' := 158) (q_d dL_hunts_2 4 rfl) rfl (by decide) rfl rfl ?_
          refine T.aload_n (pc' := 159) (q_d dL_hunts_2 5 rfl) rfl rfl rfl ?_
          refine T.iload (pc' := 161) (q_d dL_hunts_2 6 rfl) rfl rfl ?_
          refine T.iconst (pc' := 162) (v := nI 0) (q_d dL_hunts_2 7 rfl) rfl (by decide) ?_
          refine T.callV (pc' := 165) (ci := 5) (q_d dL_hunts_2 8 rfl) rfl uX5_sure wM_L_15 (c_sure0 hX3 w1 nd (by omega)) rfl rfl (by decide) rfl rfl (by decide) (Nat.le_of_ble_eq_true rfl) rfl rfl (fun _ => rfl) ?_
          rintro _ M4 ⟨rfl, pa4, sw4, hX4⟩
          replace hX4 : RX M4 (b + j) s1 k1 was1 n t pa4 sw4 := hX4
          dsimp only [Option.toList, List.cons_append, List.nil_append, List.append_nil]
          refine T.istore (pc' := 167) (q_d dL_hunts_2 9 rfl) rfl (by decide) rfl rfl ?_
          refine T.iload (pc' := 169) (q_d dL_hunts_2 10 rfl) rfl rfl ?_
          refine T.if_leN (tgt := 210) (pc' := 172) (q_d dL_hunts_2 11 rfl) rfl (by decide) (by omega) (fun h169 => ?_) (fun h169 => ?_)
          · exact absurd h169 (by omega)
          · refine T.iload (pc' := 174) (q_d dL_hunts_2 12 rfl) rfl rfl ?_
            refine T.iload_n (pc' := 175) (q_d dL_hunts_2 13 rfl) rfl rfl rfl ?_
            refine T.iload (pc' := 177) (q_d dL_hunts_2 14 rfl) rfl rfl ?_
            refine T.isub (pc' := 178) (q_d dL_hunts_2 15 rfl) rfl (nN_sub (by omega)) ?_
            refine T.icmp_gtN (tgt := 210) (pc' := 181) (q_d dL_hunts_2 16 rfl) rfl (by decide) (by omega) (by omega) (fun h178 => ?_) (fun h178 => ?_)
            · exact absurd h178 (by omega)
            · refine T.iload (pc' := 183) (q_d dL_hunts_2 17 rfl) rfl rfl ?_
              refine T.callS (pc' := 186) (q_d dL_hunts_2 18 rfl) rfl uL_bits wM_L_24 (c_bits (x := ck) (by omega)) rfl rfl (by decide) (Nat.le_of_ble_eq_true rfl) rfl rfl (fun _ => rfl) ?_
              rintro _ _ ⟨rfl, rfl⟩
              dsimp only [Option.toList, List.cons_append, List.nil_append, List.append_nil]
              refine T.aload_n (pc' := 187) (q_d dL_hunts_2 19 rfl) rfl rfl rfl ?_
              refine T.bipush (pc' := 189) (v := nI 22) (q_d dL_hunts_2 20 rfl) rfl (by decide) ?_
              refine T.callV (pc' := 192) (ci := 5) (q_d dL_hunts_2 21 rfl) rfl uX5_count wM_L_38 (c_cnt hX4 (by omega) (u := 22) (x := s1 6) (by decide) rfl) rfl rfl (by decide) rfl rfl (by decide) (Nat.le_of_ble_eq_true rfl) rfl rfl (fun _ => rfl) ?_
              rintro _ M5 ⟨rfl, pa5, sw5, hX5⟩
              replace hX5 : RX M5 (b + j) s1 k1 was1 n t pa5 sw5 := hX5
              dsimp only [Option.toList, List.cons_append, List.nil_append, List.append_nil]
              refine T.icmp_gtN (tgt := 210) (pc' := 195) (q_d dL_hunts_2 22 rfl) rfl (by decide) (by omega) (by omega) (fun h192 => ?_) (fun h192 => ?_)
              · exact absurd h192 (by omega)
              · refine T.iload (pc' := 197) (q_d dL_hunts_2 23 rfl) rfl rfl ?_
                refine T.iload (pc' := 199) (q_d dL_hunts_2 24 rfl) rfl rfl ?_
                refine T.ishr (pc' := 200) (q_d dL_hunts_2 25 rfl) rfl (nN_shr (by omega) (by omega)) ?_
                refine T.iconst (pc' := 201) (v := nI 1) (q_d dL_hunts_2 26 rfl) rfl (by decide) ?_
                refine T.iand (pc' := 202) (q_d dL_hunts_2 27 rfl) rfl (nN_and _ _) ?_
                refine T.iconst (pc' := 203) (v := nI 1) (q_d dL_hunts_2 28 rfl) rfl (by decide) ?_
                refine T.icmp_neN (tgt := 210) (pc' := 206) (q_d dL_hunts_2 29 rfl) rfl (by decide) (by omega) (by omega) (fun h203 => ?_) (fun h203 => ?_)
                · exact absurd hb1 h203
                · refine T.iconst (pc' := 207) (v := nI 1) (q_d dL_hunts_2 30 rfl) rfl (by decide) ?_
                  refine T.goto (tgt := 211) (q_d dL_hunts_2 31 rfl) (by decide) ?_
                  refine T.istore (pc' := 213) (q_d dL_hunts_2 33 rfl) rfl (by decide) rfl rfl ?_
                  exact tail M5 pa5 sw5 _ hX5
theorem c_hunts (hb : b + 127 < 2 ^ 30) (hX : RX M b s k was n t pa sw) {u z : Nat} (hu : u < 2 ^ s 0) (hz : z < 2147483648) : Ct l hdX kX mL_hunts [.ref 0, .int (nI u), .int (nI z)] M (HQ b s n t) := by
  refine Ct.of [some (.ref 0), some (.int (nI u)), some (.int (nI z)), none, none, none, none, none, none, none, none, none, none, none, none] (by decide +kernel) (fun h => absurd h (by decide)) (Nat.le_of_ble_eq_true rfl) rfl ?_
  have hw := hX.2.2.2.1
  have h7 := hw.1
  have w0 := p2_le h7
  have hsv := sol_vals (s := s) (g0 := 0) (g1 := 3) u
  have hdv := sol_vals (s := s) (g0 := 4) (g1 := 4) u
  have hsd := sol_deaf (s := s) h7 127 u (by decide) hu
  have ho7 := ones_le u
  by_cases hN : (solN s 0 3 127).1 u = 1000
  · have hu0 : u ≠ 0 := fun e => by rw [e, sol_0] at hN; exact absurd hN (by decide)
    have ho := ones_pos u (by omega) hu0
    refine T.aload_n (pc' := 1) (q_d dL_hunts_0 0 rfl) rfl rfl rfl ?_
    refine T.iload_n (pc' := 2) (q_d dL_hunts_0 1 rfl) rfl rfl rfl ?_
    refine T.iconst (pc' := 3) (v := nI 0) (q_d dL_hunts_0 2 rfl) rfl (by decide) ?_
    refine T.callV (pc' := 6) (ci := 5) (q_d dL_hunts_0 3 rfl) rfl uX5_sure wM_L_15 (c_sureN hX hu hN) rfl rfl (by decide) rfl rfl (by decide) (Nat.le_of_ble_eq_true rfl) rfl rfl (fun _ => rfl) ?_
    rintro _ M2 ⟨rfl, pa2, sw2, hX2⟩
    replace hX2 : RX M2 b s k was n t pa2 sw2 := hX2
    dsimp only [Option.toList, List.cons_append, List.nil_append, List.append_nil]
    refine T.istore_n (pc' := 7) (q_d dL_hunts_0 4 rfl) rfl rfl (by decide) rfl rfl ?_
    refine T.iload_n (pc' := 8) (q_d dL_hunts_0 5 rfl) rfl rfl rfl ?_
    refine T.if_gt (tgt := 52) (pc' := 11) (q_d dL_hunts_0 6 rfl) rfl (by decide)  (fun h8 => ?_) (fun h8 => ?_)
    · exact absurd h8 (by decide)
    · refine T.iload_n (pc' := 12) (q_d dL_hunts_0 7 rfl) rfl rfl rfl ?_
      refine T.ldc (pc' := 14) (v := nI 4293967292) (q_d dL_hunts_0 8 rfl) rfl wN_L_19 ?_
      refine T.icmp_neN (tgt := 42) (pc' := 17) (q_d dL_hunts_0 9 rfl) rfl (by decide) (by omega) (by omega) (fun h14 => ?_) (fun h14 => ?_)
      · exact absurd rfl h14
      · refine T.aload_n (pc' := 18) (q_d dL_hunts_0 10 rfl) rfl rfl rfl ?_
        refine T.iload_n (pc' := 19) (q_d dL_hunts_0 11 rfl) rfl rfl rfl ?_
        refine T.callV (pc' := 22) (ci := 5) (q_d dL_hunts_0 12 rfl) rfl uX5_deaf wM_L_20 (c_deafN hX2 hu (by omega)) rfl rfl (by decide) rfl rfl (by decide) (Nat.le_of_ble_eq_true rfl) rfl rfl (fun _ => rfl) ?_
        rintro _ M3 ⟨rfl, pa3, sw3, hX3⟩
        replace hX3 : RX M3 b s k was n t pa3 sw3 := hX3
        dsimp only [Option.toList, List.cons_append, List.nil_append, List.append_nil]
        refine T.ldc (pc' := 24) (v := nI 4293967292) (q_d dL_hunts_0 13 rfl) rfl wN_L_19 ?_
        refine T.icmp_neN (tgt := 38) (pc' := 27) (q_d dL_hunts_0 14 rfl) rfl (by decide) (by omega) (by omega) (fun h24 => ?_) (fun h24 => ?_)
        · exact absurd rfl h24
        · refine T.iload_n (pc' := 28) (q_d dL_hunts_0 15 rfl) rfl rfl rfl ?_
          refine T.callS (pc' := 31) (q_d dL_hunts_0 16 rfl) rfl uL_bits wM_L_24 (c_bits (x := u) (by omega)) rfl rfl (by decide) (Nat.le_of_ble_eq_true rfl) rfl rfl (fun _ => rfl) ?_
          rintro _ _ ⟨rfl, rfl⟩
          dsimp only [Option.toList, List.cons_append, List.nil_append, List.append_nil]
          refine T.if_leN (tgt := 38) (pc' := 34) (q_d dL_hunts_0 17 rfl) rfl (by decide) (by omega) (fun h31 => ?_) (fun h31 => ?_)
          · exact absurd h31 (by omega)
          · refine T.iconst (pc' := 35) (v := nI 1) (q_d dL_hunts_0 18 rfl) rfl (by decide) ?_
            refine T.goto (tgt := 51) (q_d dL_hunts_0 19 rfl) (by decide) ?_
            refine T.zret (q_d dL_hunts_0 27 rfl) rfl (by decide) rfl rfl ?_
            exact ⟨rfl, s, k, was, Cy.lrefl s, pa3, sw3, hX3.le (by omega)⟩
  · obtain ⟨N, eN⟩ : ∃ N, (solN s 0 3 127).1 u = N := ⟨_, rfl⟩
    rw [eN] at hN hsv hsd
    have hN127 : N ≤ 127 := hsv.resolve_left hN
    by_cases hu0 : u = 0
    · have hN0 : N = 0 := by rw [← eN, hu0]; exact sol_0 127
      subst hN0
      refine T.aload_n (pc' := 1) (q_d dL_hunts_0 0 rfl) rfl rfl rfl ?_
      refine T.iload_n (pc' := 2) (q_d dL_hunts_0 1 rfl) rfl rfl rfl ?_
      refine T.iconst (pc' := 3) (v := nI 0) (q_d dL_hunts_0 2 rfl) rfl (by decide) ?_
      refine T.callV (pc' := 6) (ci := 5) (q_d dL_hunts_0 3 rfl) rfl uX5_sure wM_L_15 (c_sure0 hX hu eN hN) rfl rfl (by decide) rfl rfl (by decide) (Nat.le_of_ble_eq_true rfl) rfl rfl (fun _ => rfl) ?_
      rintro _ M2 ⟨rfl, pa2, sw2, hX2⟩
      replace hX2 : RX M2 b s k was n t pa2 sw2 := hX2
      dsimp only [Option.toList, List.cons_append, List.nil_append, List.append_nil]
      refine T.istore_n (pc' := 7) (q_d dL_hunts_0 4 rfl) rfl rfl (by decide) rfl rfl ?_
      refine T.iload_n (pc' := 8) (q_d dL_hunts_0 5 rfl) rfl rfl rfl ?_
      refine T.if_gtN (tgt := 52) (pc' := 11) (q_d dL_hunts_0 6 rfl) rfl (by decide) (by omega) (fun h8 => ?_) (fun h8 => ?_)
      · exact absurd h8 (by omega)
      · refine T.iload_n (pc' := 12) (q_d dL_hunts_0 7 rfl) rfl rfl rfl ?_
        refine T.ldc (pc' := 14) (v := nI 4293967292) (q_d dL_hunts_0 8 rfl) rfl wN_L_19 ?_
        refine T.icmp_neN (tgt := 42) (pc' := 17) (q_d dL_hunts_0 9 rfl) rfl (by decide) (by omega) (by omega) (fun h14 => ?_) (fun h14 => ?_)
        · refine T.iload_n (pc' := 43) (q_d dL_hunts_0 22 rfl) rfl rfl rfl ?_
          refine T.if_neN (tgt := 50) (pc' := 46) (q_d dL_hunts_0 23 rfl) rfl (by decide) (by omega) (fun h43 => ?_) (fun h43 => ?_)
          · exact absurd hu0 h43
          · refine T.iconst (pc' := 47) (v := nI 1) (q_d dL_hunts_0 24 rfl) rfl (by decide) ?_
            refine T.goto (tgt := 51) (q_d dL_hunts_0 25 rfl) (by decide) ?_
            refine T.zret (q_d dL_hunts_0 27 rfl) rfl (by decide) rfl rfl ?_
            exact ⟨rfl, s, k, was, Cy.lrefl s, pa2, sw2, hX2.le (by omega)⟩
        · exact absurd h14 (by decide)
    · have ho := ones_pos u (by omega) hu0
      have hNp : 0 < N := by rw [← eN]; exact sol_pos (by omega) 127
      have hzm := Nat.mod_lt z ho
      refine T.aload_n (pc' := 1) (q_d dL_hunts_0 0 rfl) rfl rfl rfl ?_
      refine T.iload_n (pc' := 2) (q_d dL_hunts_0 1 rfl) rfl rfl rfl ?_
      refine T.iconst (pc' := 3) (v := nI 0) (q_d dL_hunts_0 2 rfl) rfl (by decide) ?_
      refine T.callV (pc' := 6) (ci := 5) (q_d dL_hunts_0 3 rfl) rfl uX5_sure wM_L_15 (c_sure0 hX hu eN hN) rfl rfl (by decide) rfl rfl (by decide) (Nat.le_of_ble_eq_true rfl) rfl rfl (fun _ => rfl) ?_
      rintro _ M2 ⟨rfl, pa2, sw2, hX2⟩
      replace hX2 : RX M2 b s k was n t pa2 sw2 := hX2
      dsimp only [Option.toList, List.cons_append, List.nil_append, List.append_nil]
      refine T.istore_n (pc' := 7) (q_d dL_hunts_0 4 rfl) rfl rfl (by decide) rfl rfl ?_
      refine T.iload_n (pc' := 8) (q_d dL_hunts_0 5 rfl) rfl rfl rfl ?_
      refine T.if_gtN (tgt := 52) (pc' := 11) (q_d dL_hunts_0 6 rfl) rfl (by decide) (by omega) (fun h8 => ?_) (fun h8 => ?_)
      · refine T.iload_n (pc' := 53) (q_d dL_hunts_0 28 rfl) rfl rfl rfl ?_
        refine T.iload_n (pc' := 54) (q_d dL_hunts_0 29 rfl) rfl rfl rfl ?_
        refine T.iload_n (pc' := 55) (q_d dL_hunts_0 30 rfl) rfl rfl rfl ?_
        refine T.callS (pc' := 58) (q_d dL_hunts_0 31 rfl) rfl uL_bits wM_L_24 (c_bits (x := u) (by omega)) rfl rfl (by decide) (Nat.le_of_ble_eq_true rfl) rfl rfl (fun _ => rfl) ?_
        rintro _ _ ⟨rfl, rfl⟩
        dsimp only [Option.toList, List.cons_append, List.nil_append, List.append_nil]
        refine T.irem (pc' := 59) (q_d dL_hunts_0 32 rfl) rfl (nI_ne0 (by omega) (by omega)) (pk_rem (by omega) (by omega) (by omega)) ?_
        refine T.callS (pc' := 62) (q_d dL_hunts_0 33 rfl) rfl uL_nth wM_L_29 (c_nth (u := u) (by omega) hzm) rfl rfl (by decide) (Nat.le_of_ble_eq_true rfl) rfl rfl (fun _ => rfl) ?_
        rintro _ _ ⟨rfl, p, rfl, hp7, hpb⟩
        dsimp only [Option.toList, List.cons_append, List.nil_append, List.append_nil]
        refine T.istore (pc' := 64) (q_d dL_hunts_0 34 rfl) rfl (by decide) rfl rfl ?_
        refine T.iconst (pc' := 65) (v := nI 0) (q_d dL_hunts_0 35 rfl) rfl (by decide) ?_
        refine T.istore (pc' := 67) (q_d dL_hunts_0 36 rfl) rfl (by decide) rfl rfl ?_
        refine T.iconst (pc' := 68) (v := nI 0) (q_d dL_hunts_0 37 rfl) rfl (by decide) ?_
        refine T.istore (pc' := 70) (q_d dL_hunts_0 38 rfl) rfl (by decide) rfl rfl ?_
        refine T.aload_n (pc' := 71) (q_d dL_hunts_0 39 rfl) rfl rfl rfl ?_
        refine T.iload_n (pc' := 72) (q_d dL_hunts_1 0 rfl) rfl rfl rfl ?_
        refine T.callV (pc' := 75) (ci := 5) (q_d dL_hunts_1 1 rfl) rfl uX5_believe wM_L_32 (c_bel hX2 hu) rfl rfl (by decide) rfl rfl (by decide) (Nat.le_of_ble_eq_true rfl) rfl rfl (fun _ => rfl) ?_
        rintro _ M3 ⟨rfl, pa3, sw3, hX3⟩
        obtain ⟨s1, hX3, hcy, e0, e1, e2⟩ : ∃ s1, RX M3 b s1 (pushK k) (pushW k was s) n t pa3 sw3 ∧ Cy s s1 ∧ s1 0 = s 0 ∧ s1 1 = u ∧ s1 2 = 0 := ⟨sBelieve s u, hX3, Cy.lbelieve s u, rfl, rfl, rfl⟩
        have hu1 : u < 2 ^ s1 0 := by rw [e0]; exact hu
        have esol : solN s1 0 3 127 = solN s 0 3 127 := hcy.lsol h7 127
        have edea : solN s1 4 4 127 = solN s 4 4 127 := hcy.lsol h7 127
        have hne : (solN s1 0 3 127).1 u ≠ 1000 := by rw [esol, eN]; exact hN
        have hm1 := coming_pos (s := s1) (nd := (solN s1 0 3 127).1) (bs := (solN s1 0 3 127).2) (y := u) (by omega) hu1 (by rw [esol, eN]; exact hNp)
        have hm2 := coming_le (s := s1) (nd := (solN s1 0 3 127).1) (bs := (solN s1 0 3 127).2) (y := u) hX3.2.2.2.1.1 (by rw [esol, eN]; exact hN127)
        obtain ⟨dv, edv⟩ : ∃ dv, qDeaf s1 u = dv := ⟨_, rfl⟩
        have hdq : dv ≠ 0 ∧ (dv = 4293967292 ∨ (N ≤ dv ∧ dv ≤ 127)) := by
          rw [← edv]
          unfold qDeaf
          rw [if_pos hu1, edea]
          split
          · exact ⟨by decide, Or.inl rfl⟩
          · omega
        dsimp only [Option.toList, List.cons_append, List.nil_append, List.append_nil]
        refine T.iload_n (pc' := 76) (q_d dL_hunts_1 2 rfl) rfl rfl rfl ?_
        refine T.callS (pc' := 79) (q_d dL_hunts_1 3 rfl) rfl uL_bits wM_L_24 (c_bits (x := u) (by omega)) rfl rfl (by decide) (Nat.le_of_ble_eq_true rfl) rfl rfl (fun _ => rfl) ?_
        rintro _ _ ⟨rfl, rfl⟩
        dsimp only [Option.toList, List.cons_append, List.nil_append, List.append_nil]
        refine T.icmp_neN (tgt := 120) (pc' := 82) (q_d dL_hunts_1 4 rfl) rfl (by decide) (by omega) (by omega) (fun h79 => ?_) (fun h79 => ?_)
        · exact absurd rfl h79
        · refine T.aload_n (pc' := 83) (q_d dL_hunts_1 5 rfl) rfl rfl rfl ?_
          refine T.iload_n (pc' := 84) (q_d dL_hunts_1 6 rfl) rfl rfl rfl ?_
          refine T.callV (pc' := 87) (ci := 5) (q_d dL_hunts_1 7 rfl) rfl uX5_memory wM_L_35 (c_mem hX3 hu1 hne) rfl rfl (by decide) rfl rfl (by decide) (Nat.le_of_ble_eq_true rfl) rfl rfl (fun _ => rfl) ?_
          rintro _ M4 ⟨rfl, pa4, sw4, hX4⟩
          replace hX4 : RX M4 b s1 (pushK k) (pushW k was s) n t pa4 sw4 := hX4
          dsimp only [Option.toList, List.cons_append, List.nil_append, List.append_nil]
          refine T.iconst (pc' := 88) (v := nI 1) (q_d dL_hunts_1 8 rfl) rfl (by decide) ?_
          refine T.icmp_ltN (tgt := 120) (pc' := 91) (q_d dL_hunts_1 9 rfl) rfl (by decide) (by omega) (by omega) (fun h88 => ?_) (fun h88 => ?_)
          · exact absurd h88 (by omega)
          · refine T.aload_n (pc' := 92) (q_d dL_hunts_1 10 rfl) rfl rfl rfl ?_
            refine T.iload_n (pc' := 93) (q_d dL_hunts_1 11 rfl) rfl rfl rfl ?_
            refine T.callV (pc' := 96) (ci := 5) (q_d dL_hunts_1 12 rfl) rfl uX5_deaf wM_L_20 ((c_deaf hX4 (u := u) (by omega)).mono (fun _ _ q => OX.to (r' := (dv, (s1, pushK k, pushW k was s, n, t))) (by rw [edv]) q)) rfl rfl (by decide) rfl rfl (by decide) (Nat.le_of_ble_eq_true rfl) rfl rfl (fun _ => rfl) ?_
            rintro _ M5 ⟨rfl, pa5, sw5, hX5⟩
            replace hX5 : RX M5 b s1 (pushK k) (pushW k was s) n t pa5 sw5 := hX5
            dsimp only [Option.toList, List.cons_append, List.nil_append, List.append_nil]
            refine T.if_eqN (tgt := 120) (pc' := 99) (q_d dL_hunts_1 13 rfl) rfl (by decide) (by omega) (fun h96 => ?_) (fun h96 => ?_)
            · exact absurd h96 (by omega)
            · refine T.aload_n (pc' := 100) (q_d dL_hunts_1 14 rfl) rfl rfl rfl ?_
              refine T.iload_n (pc' := 101) (q_d dL_hunts_1 15 rfl) rfl rfl rfl ?_
              refine T.callV (pc' := 104) (ci := 5) (q_d dL_hunts_1 16 rfl) rfl uX5_deaf wM_L_20 ((c_deaf hX5 (u := u) (by omega)).mono (fun _ _ q => OX.to (r' := (dv, (s1, pushK k, pushW k was s, n, t))) (by rw [edv]) q)) rfl rfl (by decide) rfl rfl (by decide) (Nat.le_of_ble_eq_true rfl) rfl rfl (fun _ => rfl) ?_
              rintro _ M6 ⟨rfl, pa6, sw6, hX6⟩
              replace hX6 : RX M6 b s1 (pushK k) (pushW k was s) n t pa6 sw6 := hX6
              dsimp only [Option.toList, List.cons_append, List.nil_append, List.append_nil]
              refine T.if_lt (tgt := 116) (pc' := 107) (q_d dL_hunts_1 17 rfl) rfl (by decide)  (fun h104 => ?_) (fun h104 => ?_)
              · refine T.iconst (pc' := 117) (v := nI 1) (q_d dL_hunts_1 23 rfl) rfl (by decide) ?_
                refine T.goto (tgt := 121) (q_d dL_hunts_1 24 rfl) (by decide) ?_
                refine T.istore (pc' := 123) (q_d dL_hunts_1 26 rfl) rfl (by decide) rfl rfl ?_
                refine T.iconst (pc' := 124) (v := nI 0) (q_d dL_hunts_1 27 rfl) rfl (by decide) ?_
                refine T.istore (pc' := 126) (q_d dL_hunts_1 28 rfl) rfl (by decide) rfl rfl ?_
                have hpl : p < s 0 := lt_bit hu hpb
                first
                | exact hunts_loop hb hz hN127 h7 N 0 p M7 s1 _ _ pa7 sw7 (Nat.zero_add _) hX7 hcy e2 hpl (by rw [e1]; exact hpb) (by rw [e1, eN]; exact Nat.le_refl _)
                | exact hunts_loop hb hz hN127 h7 N 0 p M6 s1 _ _ pa6 sw6 (Nat.zero_add _) hX6 hcy e2 hpl (by rw [e1]; exact hpb) (by rw [e1, eN]; exact Nat.le_refl _)
              · have hdp := sI_lt0 (show dv < 4294967296 by omega) h104
                refine T.aload_n (pc' := 108) (q_d dL_hunts_1 18 rfl) rfl rfl rfl ?_
                refine T.iload_n (pc' := 109) (q_d dL_hunts_1 19 rfl) rfl rfl rfl ?_
                refine T.callV (pc' := 112) (ci := 5) (q_d dL_hunts_1 20 rfl) rfl uX5_deaf wM_L_20 ((c_deaf hX6 (u := u) (by omega)).mono (fun _ _ q => OX.to (r' := (dv, (s1, pushK k, pushW k was s, n, t))) (by rw [edv]) q)) rfl rfl (by decide) rfl rfl (by decide) (Nat.le_of_ble_eq_true rfl) rfl rfl (fun _ => rfl) ?_
                rintro _ M7 ⟨rfl, pa7, sw7, hX7⟩
                replace hX7 : RX M7 b s1 (pushK k) (pushW k was s) n t pa7 sw7 := hX7
                dsimp only [Option.toList, List.cons_append, List.nil_append, List.append_nil]
                refine T.iload_n (pc' := 113) (q_d dL_hunts_1 21 rfl) rfl rfl rfl ?_
                refine T.icmp_ltN (tgt := 120) (pc' := 116) (q_d dL_hunts_1 22 rfl) rfl (by decide) (by omega) (by omega) (fun h113 => ?_) (fun h113 => ?_)
                · exact absurd h113 (by omega)
                · refine T.iconst (pc' := 117) (v := nI 1) (q_d dL_hunts_1 23 rfl) rfl (by decide) ?_
                  refine T.goto (tgt := 121) (q_d dL_hunts_1 24 rfl) (by decide) ?_
                  refine T.istore (pc' := 123) (q_d dL_hunts_1 26 rfl) rfl (by decide) rfl rfl ?_
                  refine T.iconst (pc' := 124) (v := nI 0) (q_d dL_hunts_1 27 rfl) rfl (by decide) ?_
                  refine T.istore (pc' := 126) (q_d dL_hunts_1 28 rfl) rfl (by decide) rfl rfl ?_
                  have hpl : p < s 0 := lt_bit hu hpb
                  first
                  | exact hunts_loop hb hz hN127 h7 N 0 p M7 s1 _ _ pa7 sw7 (Nat.zero_add _) hX7 hcy e2 hpl (by rw [e1]; exact hpb) (by rw [e1, eN]; exact Nat.le_refl _)
                  | exact hunts_loop hb hz hN127 h7 N 0 p M6 s1 _ _ pa6 sw6 (Nat.zero_add _) hX6 hcy e2 hpl (by rw [e1]; exact hpb) (by rw [e1, eN]; exact Nat.le_refl _)
      · exact absurd h8 (by omega)
end Hunts
end
section
/-! what the law holds of an object at any time -/
section Holds
variable {l : Launch} {M : qM} {b : Nat} {s : Nat → Nat} {k : Nat} {was : Nat → Nat → Nat} {n : Nat} {t pa : Nat → Nat} {sw : Bool}
theorem sum_le (h7 : s 0 ≤ 7) {o : Nat} {p : Nat} (hp : p ≤ 7) : sumTo (fun i => ones (s (o + i))) p ≤ 49 := by
  have h := sumTo_le (f := fun i => ones (s (o + i))) (m := 7) (fun i => ones_le _) p
  omega
theorem rdN_le (h7 : s 0 ≤ 7) {o : Nat} : rdN s o ≤ 49 := by
  have h := sum_le h7 (s := s) (o := o) h7
  unfold rdN
  omega
theorem c_holds (hb : b < 2 ^ 30) (hX : RX M b s k was n t pa sw) (hI : IN s) : Ct l hdX kX mL_holds [.ref 0] M (OX b (1, (s, k, was, n, t))) := by
  refine Ct.of [some (.ref 0), none, none, none, none, none, none, none] (by decide +kernel) (fun h => absurd h (by decide)) (Nat.le_of_ble_eq_true rfl) rfl ?_
  have hw := hX.2.2.2.1
  have h7 := hw.1
  have w0 := p2_le h7
  have w1 := hw.2.1
  have e1n : 1 <<< s 0 = 2 ^ s 0 := Nat.one_shiftLeft _
  have h1n : 1 ≤ 2 ^ s 0 := Nat.two_pow_pos _
  have hda : s 1 &&& (2 ^ s 0 - 1 ^^^ 4294967295) = 0 := dif_all w1 h7
  have hrd := rd_le hw
  have hr14 := rdN_le h7 (o := 14)
  have hr21 := rdN_le h7 (o := 21)
  have hs14 := sum_le h7 (s := s) (o := 14) h7
  have hs21 := sum_le h7 (s := s) (o := 21) h7
  have er14 : rdN s 14 = sumTo (fun i => ones (s (14 + i))) (s 0) / 2 := rfl
  have er21 : rdN s 21 = sumTo (fun i => ones (s (21 + i))) (s 0) / 2 := rfl
  have hpar := thn_parts hw (x := s 1) (c := 0)
  have hpl := thn_lt (s := s) (b := s 1) (c := 0) (g := 4) h7
  have hnd := nset_deaf h7 (s := s) (n := 2 ^ s 0 - 1) (by omega)
  have hnl := nset_le (nd := (solN s 0 3 127).1) (n := 2 ^ s 0 - 1)
  have loop2 : ∀ d g (M1 : qM) (pa1 : Nat → Nat) (sw1 : Bool), g + d = 4 → RX M1 b s k was n t pa1 sw1 → T l hdX kX mL_holds (OX b (1, (s, k, was, n, t))) 0 0 205 [some (.ref 0), some (.int (nI (s 0))), some (.int (nI (2 ^ s 0 - 1))), some (.int (nI (sumTo (fun i => ones (s (14 + i))) (s 0)))), some (.int (nI (sumTo (fun i => ones (s (21 + i))) (s 0)))), some (.int (nI 1)), some (.int (nI (orTo (fun g => thn s (s 1) 0 g) g))), some (.int (nI g))] [] M1 := by
    intro d
    induction d with
    | zero =>
      intro g M1 pa1 sw1 hgd hX1
      have e : g = 4 := by omega
      subst e
      rw [hpar]
      refine T.iload (pc' := 207) (q_d dL_holds_3 1 rfl) rfl rfl ?_
      refine T.iconst (pc' := 208) (v := nI 4) (q_d dL_holds_3 2 rfl) rfl (by decide) ?_
      refine T.icmp_geN (tgt := 234) (pc' := 211) (q_d dL_holds_3 3 rfl) rfl (by decide) (by omega) (by omega) (fun h208 => ?_) (fun h208 => ?_)
      · refine T.iload (pc' := 236) (q_d dL_holds_3 16 rfl) rfl rfl ?_
        refine T.if_eqN (tgt := 304) (pc' := 239) (q_d dL_holds_3 17 rfl) rfl (by decide) (by omega) (fun h236 => ?_) (fun h236 => ?_)
        · exact absurd h236 (by decide)
        · refine T.aload_n (pc' := 240) (q_d dL_holds_3 18 rfl) rfl rfl rfl ?_
          refine T.iconst (pc' := 241) (v := nI 1) (q_d dL_holds_3 19 rfl) rfl (by decide) ?_
          refine T.callV (pc' := 244) (ci := 5) (q_d dL_holds_3 20 rfl) rfl uX5_count wM_L_38 (c_cnt hX1 hb (u := 1) (x := rdN s 14) (by decide) rfl) rfl rfl (by decide) rfl rfl (by decide) (Nat.le_of_ble_eq_true rfl) rfl rfl (fun _ => rfl) ?_
          rintro _ M2 ⟨rfl, pa2, sw2, hX2⟩
          replace hX2 : RX M2 b s k was n t pa2 sw2 := hX2
          dsimp only [Option.toList, List.cons_append, List.nil_append, List.append_nil]
          refine T.iload_n (pc' := 245) (q_d dL_holds_3 21 rfl) rfl rfl rfl ?_
          refine T.iconst (pc' := 246) (v := nI 2) (q_d dL_holds_3 22 rfl) rfl (by decide) ?_
          refine T.idiv (pc' := 247) (q_d dL_holds_3 23 rfl) rfl (by decide) (pk_div (by omega) (by omega) (by omega)) ?_
          refine T.icmp_neN (tgt := 304) (pc' := 250) (q_d dL_holds_3 24 rfl) rfl (by decide) (by omega) (by omega) (fun h247 => ?_) (fun h247 => ?_)
          · exact absurd er14 h247
          · refine T.aload_n (pc' := 251) (q_d dL_holds_3 25 rfl) rfl rfl rfl ?_
            refine T.iconst (pc' := 252) (v := nI 2) (q_d dL_holds_3 26 rfl) rfl (by decide) ?_
            refine T.callV (pc' := 255) (ci := 5) (q_d dL_holds_3 27 rfl) rfl uX5_count wM_L_38 (c_cnt hX2 hb (u := 2) (x := rdN s 21) (by decide) rfl) rfl rfl (by decide) rfl rfl (by decide) (Nat.le_of_ble_eq_true rfl) rfl rfl (fun _ => rfl) ?_
            rintro _ M3 ⟨rfl, pa3, sw3, hX3⟩
            replace hX3 : RX M3 b s k was n t pa3 sw3 := hX3
            dsimp only [Option.toList, List.cons_append, List.nil_append, List.append_nil]
            refine T.iload (pc' := 257) (q_d dL_holds_3 28 rfl) rfl rfl ?_
            refine T.iconst (pc' := 258) (v := nI 2) (q_d dL_holds_3 29 rfl) rfl (by decide) ?_
            refine T.idiv (pc' := 259) (q_d dL_holds_3 30 rfl) rfl (by decide) (pk_div (by omega) (by omega) (by omega)) ?_
            refine T.icmp_neN (tgt := 304) (pc' := 262) (q_d dL_holds_3 31 rfl) rfl (by decide) (by omega) (by omega) (fun h259 => ?_) (fun h259 => ?_)
            · exact absurd er21 h259
            · refine T.iload (pc' := 264) (q_d dL_holds_3 32 rfl) rfl rfl ?_
              refine T.aload_n (pc' := 265) (q_d dL_holds_3 33 rfl) rfl rfl rfl ?_
              refine T.aload_n (pc' := 266) (q_d dL_holds_3 34 rfl) rfl rfl rfl ?_
              refine T.iconst (pc' := 267) (v := nI 3) (q_d dL_holds_3 35 rfl) rfl (by decide) ?_
              refine T.callV (pc' := 270) (ci := 5) (q_d dL_holds_3 36 rfl) rfl uX5_count wM_L_38 (c_cnt hX3 hb (u := 3) (x := s 1) (by decide) rfl) rfl rfl (by decide) rfl rfl (by decide) (Nat.le_of_ble_eq_true rfl) rfl rfl (fun _ => rfl) ?_
              rintro _ M4 ⟨rfl, pa4, sw4, hX4⟩
              replace hX4 : RX M4 b s k was n t pa4 sw4 := hX4
              dsimp only [Option.toList, List.cons_append, List.nil_append, List.append_nil]
              refine T.iconst (pc' := 271) (v := nI 0) (q_d dL_holds_3 37 rfl) rfl (by decide) ?_
              refine T.iconst (pc' := 272) (v := nI 4294967295) (q_d dL_holds_3 38 rfl) rfl (by decide) ?_
              refine T.callV (pc' := 275) (ci := 5) (q_d dL_holds_3 39 rfl) rfl uX5_behind wM_L_9 (c_behA hX4 w1 (show 0 < 2 ^ s 0 by omega)) rfl rfl (by decide) rfl rfl (by decide) (Nat.le_of_ble_eq_true rfl) rfl rfl (fun _ => rfl) ?_
              rintro _ M5 ⟨rfl, pa5, sw5, hX5⟩
              replace hX5 : RX M5 b s k was n t pa5 sw5 := hX5
              dsimp only [Option.toList, List.cons_append, List.nil_append, List.append_nil]
              refine T.icmp_neN (tgt := 304) (pc' := 278) (q_d dL_holds_4 0 rfl) rfl (by decide) (by omega) (by omega) (fun h275 => ?_) (fun h275 => ?_)
              · exact absurd rfl h275
              · refine T.aload_n (pc' := 279) (q_d dL_holds_4 1 rfl) rfl rfl rfl ?_
                refine T.iconst (pc' := 280) (v := nI 4) (q_d dL_holds_4 2 rfl) rfl (by decide) ?_
                refine T.callV (pc' := 283) (ci := 5) (q_d dL_holds_4 3 rfl) rfl uX5_beliefs wM_L_51 (c_blf hX5 (u := 4) (x := nset (solN s 4 4 127).1 (2 ^ s 0 - 1)) (by decide) rfl) rfl rfl (by decide) rfl rfl (by decide) (Nat.le_of_ble_eq_true rfl) rfl rfl (fun _ => rfl) ?_
                rintro _ M6 ⟨rfl, pa6, sw6, hX6⟩
                replace hX6 : RX M6 b s k was n t pa6 sw6 := hX6
                dsimp only [Option.toList, List.cons_append, List.nil_append, List.append_nil]
                refine T.aload_n (pc' := 284) (q_d dL_holds_4 4 rfl) rfl rfl rfl ?_
                refine T.iconst (pc' := 285) (v := nI 1) (q_d dL_holds_4 5 rfl) rfl (by decide) ?_
                refine T.callV (pc' := 288) (ci := 5) (q_d dL_holds_4 6 rfl) rfl uX5_beliefs wM_L_51 (c_blf hX6 (u := 1) (x := nset (solN s 0 3 127).1 (2 ^ s 0 - 1)) (by decide) rfl) rfl rfl (by decide) rfl rfl (by decide) (Nat.le_of_ble_eq_true rfl) rfl rfl (fun _ => rfl) ?_
                rintro _ M7 ⟨rfl, pa7, sw7, hX7⟩
                replace hX7 : RX M7 b s k was n t pa7 sw7 := hX7
                dsimp only [Option.toList, List.cons_append, List.nil_append, List.append_nil]
                refine T.icmp_gtN (tgt := 304) (pc' := 291) (q_d dL_holds_4 7 rfl) rfl (by decide) (by omega) (by omega) (fun h288 => ?_) (fun h288 => ?_)
                · exact absurd h288 (by omega)
                · refine T.aload_n (pc' := 292) (q_d dL_holds_4 8 rfl) rfl rfl rfl ?_
                  refine T.iconst (pc' := 293) (v := nI 1) (q_d dL_holds_4 9 rfl) rfl (by decide) ?_
                  refine T.callV (pc' := 296) (ci := 5) (q_d dL_holds_4 10 rfl) rfl uX5_beliefs wM_L_51 (c_blf hX7 (u := 1) (x := nset (solN s 0 3 127).1 (2 ^ s 0 - 1)) (by decide) rfl) rfl rfl (by decide) rfl rfl (by decide) (Nat.le_of_ble_eq_true rfl) rfl rfl (fun _ => rfl) ?_
                  rintro _ M8 ⟨rfl, pa8, sw8, hX8⟩
                  replace hX8 : RX M8 b s k was n t pa8 sw8 := hX8
                  dsimp only [Option.toList, List.cons_append, List.nil_append, List.append_nil]
                  refine T.iload_n (pc' := 297) (q_d dL_holds_4 11 rfl) rfl rfl rfl ?_
                  refine T.icmp_gtN (tgt := 304) (pc' := 300) (q_d dL_holds_4 12 rfl) rfl (by decide) (by omega) (by omega) (fun h297 => ?_) (fun h297 => ?_)
                  · exact absurd h297 (by omega)
                  · refine T.iconst (pc' := 301) (v := nI 1) (q_d dL_holds_4 13 rfl) rfl (by decide) ?_
                    refine T.goto (tgt := 305) (q_d dL_holds_4 14 rfl) (by decide) ?_
                    refine T.zret (q_d dL_holds_4 16 rfl) rfl (by decide) rfl rfl ?_
                    exact ⟨rfl, pa8, sw8, hX8⟩
      · exact absurd h208 (by decide)
    | succ d ih =>
      intro g M1 pa1 sw1 hgd hX1
      have eo : orTo (fun g => thn s (s 1) 0 g) (g + 1) = orTo (fun g => thn s (s 1) 0 g) g ||| thn s (s 1) 0 g := rfl
      refine T.iload (pc' := 207) (q_d dL_holds_3 1 rfl) rfl rfl ?_
      refine T.iconst (pc' := 208) (v := nI 4) (q_d dL_holds_3 2 rfl) rfl (by decide) ?_
      refine T.icmp_geN (tgt := 234) (pc' := 211) (q_d dL_holds_3 3 rfl) rfl (by decide) (by omega) (by omega) (fun h208 => ?_) (fun h208 => ?_)
      · exact absurd h208 (by omega)
      · refine T.iload (pc' := 213) (q_d dL_holds_3 4 rfl) rfl rfl ?_
        refine T.aload_n (pc' := 214) (q_d dL_holds_3 5 rfl) rfl rfl rfl ?_
        refine T.aload_n (pc' := 215) (q_d dL_holds_3 6 rfl) rfl rfl rfl ?_
        refine T.iconst (pc' := 216) (v := nI 3) (q_d dL_holds_3 7 rfl) rfl (by decide) ?_
        refine T.callV (pc' := 219) (ci := 5) (q_d dL_holds_3 8 rfl) rfl uX5_count wM_L_38 (c_cnt hX1 hb (u := 3) (x := s 1) (by decide) rfl) rfl rfl (by decide) rfl rfl (by decide) (Nat.le_of_ble_eq_true rfl) rfl rfl (fun _ => rfl) ?_
        rintro _ M2 ⟨rfl, pa2, sw2, hX2⟩
        replace hX2 : RX M2 b s k was n t pa2 sw2 := hX2
        dsimp only [Option.toList, List.cons_append, List.nil_append, List.append_nil]
        refine T.iconst (pc' := 220) (v := nI 0) (q_d dL_holds_3 9 rfl) rfl (by decide) ?_
        refine T.iload (pc' := 222) (q_d dL_holds_3 10 rfl) rfl rfl ?_
        refine T.callV (pc' := 225) (ci := 5) (q_d dL_holds_3 11 rfl) rfl uX5_behind wM_L_9 (c_behG hX2 w1 (show 0 < 2 ^ s 0 by omega) (show g ≤ 3 by omega)) rfl rfl (by decide) rfl rfl (by decide) (Nat.le_of_ble_eq_true rfl) rfl rfl (fun _ => rfl) ?_
        rintro _ M3 ⟨rfl, pa3, sw3, hX3⟩
        replace hX3 : RX M3 b s k was n t pa3 sw3 := hX3
        dsimp only [Option.toList, List.cons_append, List.nil_append, List.append_nil]
        refine T.ior (pc' := 226) (q_d dL_holds_3 12 rfl) rfl (nN_or _ _) ?_
        refine T.istore (pc' := 228) (q_d dL_holds_3 13 rfl) rfl (by decide) rfl rfl ?_
        refine T.iinc (pc' := 231) (q_d dL_holds_3 14 rfl) rfl rfl (nN_p _ 1) (by decide) rfl rfl ?_
        refine T.goto (tgt := 205) (q_d dL_holds_3 15 rfl) (by decide) ?_
        have h9 := ih (g + 1) M3 pa3 sw3 (by omega) hX3
        rw [eo] at h9
        exact h9
  have loop1 : ∀ d p (M1 : qM) (pa1 : Nat → Nat) (sw1 : Bool), p + d = s 0 → RX M1 b s k was n t pa1 sw1 → T l hdX kX mL_holds (OX b (1, (s, k, was, n, t))) 0 0 52 [some (.ref 0), some (.int (nI (s 0))), some (.int (nI (2 ^ s 0 - 1))), some (.int (nI (sumTo (fun i => ones (s (14 + i))) p))), some (.int (nI (sumTo (fun i => ones (s (21 + i))) p))), some (.int (nI 1)), some (.int (nI p)), none] [] M1 := by
    intro d
    induction d with
    | zero =>
      intro p M1 pa1 sw1 hpd hX1
      have e : p = s 0 := by omega
      subst e
      refine T.iload (pc' := 54) (q_d dL_holds_0 35 rfl) rfl rfl ?_
      refine T.iload_n (pc' := 55) (q_d dL_holds_0 36 rfl) rfl rfl rfl ?_
      refine T.icmp_geN (tgt := 199) (pc' := 58) (q_d dL_holds_0 37 rfl) rfl (by decide) (by omega) (by omega) (fun h55 => ?_) (fun h55 => ?_)
      · refine T.iconst (pc' := 200) (v := nI 0) (q_d dL_holds_2 37 rfl) rfl (by decide) ?_
        refine T.istore (pc' := 202) (q_d dL_holds_2 38 rfl) rfl (by decide) rfl rfl ?_
        refine T.iconst (pc' := 203) (v := nI 0) (q_d dL_holds_2 39 rfl) rfl (by decide) ?_
        refine T.istore (pc' := 205) (q_d dL_holds_3 0 rfl) rfl (by decide) rfl rfl ?_
        exact loop2 4 0 M1 pa1 sw1 (by decide) hX1
      · exact absurd h55 (by omega)
    | succ d ih =>
      intro p M1 pa1 sw1 hpd hX1
      have hp : p < s 0 := by omega
      have l14 := (rd_lt (o := 0) hw hp).1
      have l21 := (rd_lt (o := 0) hw hp).2
      have hp2 : 1 <<< p < 2 ^ s 0 := by rw [Nat.one_shiftLeft]; exact Nat.pow_lt_pow_right (by decide) hp
      have o14 := ones_le (s (14 + p))
      have o21 := ones_le (s (21 + p))
      have q14 := sum_le h7 (s := s) (o := 14) (p := p) (by omega)
      have q21 := sum_le h7 (s := s) (o := 21) (p := p) (by omega)
      have f14 : sumTo (fun i => ones (s (14 + i))) (p + 1) = sumTo (fun i => ones (s (14 + i))) p + ones (s (14 + p)) := rfl
      have f21 : sumTo (fun i => ones (s (21 + i))) (p + 1) = sumTo (fun i => ones (s (21 + i))) p + ones (s (21 + p)) := rfl
      have p1 : qPlaceOf s p 1 = s (14 + p) := by unfold qPlaceOf; rw [if_pos hp]; rfl
      have p2 : qPlaceOf s p 2 = s (21 + p) := by unfold qPlaceOf; rw [if_pos hp]; rfl
      have p3 : qPlaceOf s p 3 = goes s p 0 := by unfold qPlaceOf; rw [if_pos hp]; rfl
      have d1 : s (14 + p) >>> p &&& 1 = 0 := (sh_bit _ _).mpr (hI.2 p (by omega))
      have d2 : s (21 + p) &&& (s (14 + p) ^^^ 4294967295) = 0 := dif_sub l21 (fun i hi => hw.2.2.2.2.2.2.2.2.2.2.2.2 p i (by omega) hi)
      have d3 := goes_lt hw (c := 0) hp
      have d4 := goes_and hw (p := p) (by omega)
      have d5 := thn_one hw hp (c := 0) (Nat.zero_testBit _)
      have d6 := thn_self hw hp
      refine T.iload (pc' := 54) (q_d dL_holds_0 35 rfl) rfl rfl ?_
      refine T.iload_n (pc' := 55) (q_d dL_holds_0 36 rfl) rfl rfl rfl ?_
      refine T.icmp_geN (tgt := 199) (pc' := 58) (q_d dL_holds_0 37 rfl) rfl (by decide) (by omega) (by omega) (fun h55 => ?_) (fun h55 => ?_)
      · exact absurd h55 (by omega)
      · refine T.iload (pc' := 60) (q_d dL_holds_0 38 rfl) rfl rfl ?_
        refine T.if_eqN (tgt := 199) (pc' := 63) (q_d dL_holds_0 39 rfl) rfl (by decide) (by omega) (fun h60 => ?_) (fun h60 => ?_)
        · exact absurd h60 (by decide)
        · refine T.aload_n (pc' := 64) (q_d dL_holds_1 0 rfl) rfl rfl rfl ?_
          refine T.iload (pc' := 66) (q_d dL_holds_1 1 rfl) rfl rfl ?_
          refine T.iconst (pc' := 67) (v := nI 2) (q_d dL_holds_1 2 rfl) rfl (by decide) ?_
          refine T.callV (pc' := 70) (ci := 5) (q_d dL_holds_1 3 rfl) rfl uX5_placeOf wM_L_48 (c_pla hX1 (by omega) (v := 2) (by decide) p2) rfl rfl (by decide) rfl rfl (by decide) (Nat.le_of_ble_eq_true rfl) rfl rfl (fun _ => rfl) ?_
          rintro _ M2 ⟨rfl, pa2, sw2, hX2⟩
          replace hX2 : RX M2 b s k was n t pa2 sw2 := hX2
          dsimp only [Option.toList, List.cons_append, List.nil_append, List.append_nil]
          refine T.istore (pc' := 72) (q_d dL_holds_1 4 rfl) rfl (by decide) rfl rfl ?_
          refine T.iload_n (pc' := 73) (q_d dL_holds_1 5 rfl) rfl rfl rfl ?_
          refine T.aload_n (pc' := 74) (q_d dL_holds_1 6 rfl) rfl rfl rfl ?_
          refine T.iload (pc' := 76) (q_d dL_holds_1 7 rfl) rfl rfl ?_
          refine T.iconst (pc' := 77) (v := nI 1) (q_d dL_holds_1 8 rfl) rfl (by decide) ?_
          refine T.callV (pc' := 80) (ci := 5) (q_d dL_holds_1 9 rfl) rfl uX5_placeOf wM_L_48 (c_pla hX2 (by omega) (v := 1) (by decide) p1) rfl rfl (by decide) rfl rfl (by decide) (Nat.le_of_ble_eq_true rfl) rfl rfl (fun _ => rfl) ?_
          rintro _ M3 ⟨rfl, pa3, sw3, hX3⟩
          replace hX3 : RX M3 b s k was n t pa3 sw3 := hX3
          dsimp only [Option.toList, List.cons_append, List.nil_append, List.append_nil]
          refine T.callS (pc' := 83) (q_d dL_holds_1 10 rfl) rfl uL_bits wM_L_24 (c_bits l14) rfl rfl (by decide) (Nat.le_of_ble_eq_true rfl) rfl rfl (fun _ => rfl) ?_
          rintro _ _ ⟨rfl, rfl⟩
          dsimp only [Option.toList, List.cons_append, List.nil_append, List.append_nil]
          refine T.iadd (pc' := 84) (q_d dL_holds_1 11 rfl) rfl (nI_add _ _) ?_
          refine T.istore_n (pc' := 85) (q_d dL_holds_1 12 rfl) rfl rfl (by decide) rfl rfl ?_
          refine T.iload (pc' := 87) (q_d dL_holds_1 13 rfl) rfl rfl ?_
          refine T.iload (pc' := 89) (q_d dL_holds_1 14 rfl) rfl rfl ?_
          refine T.callS (pc' := 92) (q_d dL_holds_1 15 rfl) rfl uL_bits wM_L_24 (c_bits l21) rfl rfl (by decide) (Nat.le_of_ble_eq_true rfl) rfl rfl (fun _ => rfl) ?_
          rintro _ _ ⟨rfl, rfl⟩
          dsimp only [Option.toList, List.cons_append, List.nil_append, List.append_nil]
          refine T.iadd (pc' := 93) (q_d dL_holds_1 16 rfl) rfl (nI_add _ _) ?_
          refine T.istore (pc' := 95) (q_d dL_holds_1 17 rfl) rfl (by decide) rfl rfl ?_
          refine T.aload_n (pc' := 96) (q_d dL_holds_1 18 rfl) rfl rfl rfl ?_
          refine T.iload (pc' := 98) (q_d dL_holds_1 19 rfl) rfl rfl ?_
          refine T.iconst (pc' := 99) (v := nI 1) (q_d dL_holds_1 20 rfl) rfl (by decide) ?_
          refine T.callV (pc' := 102) (ci := 5) (q_d dL_holds_1 21 rfl) rfl uX5_placeOf wM_L_48 (c_pla hX3 (by omega) (v := 1) (by decide) p1) rfl rfl (by decide) rfl rfl (by decide) (Nat.le_of_ble_eq_true rfl) rfl rfl (fun _ => rfl) ?_
          rintro _ M4 ⟨rfl, pa4, sw4, hX4⟩
          replace hX4 : RX M4 b s k was n t pa4 sw4 := hX4
          dsimp only [Option.toList, List.cons_append, List.nil_append, List.append_nil]
          refine T.iload (pc' := 104) (q_d dL_holds_1 22 rfl) rfl rfl ?_
          refine T.ishr (pc' := 105) (q_d dL_holds_1 23 rfl) rfl (nN_shr (by omega) (by omega)) ?_
          refine T.iconst (pc' := 106) (v := nI 1) (q_d dL_holds_1 24 rfl) rfl (by decide) ?_
          refine T.iand (pc' := 107) (q_d dL_holds_1 25 rfl) rfl (nN_and _ _) ?_
          refine T.if_neN (tgt := 190) (pc' := 110) (q_d dL_holds_1 26 rfl) rfl (by decide) (by omega) (fun h107 => ?_) (fun h107 => ?_)
          · exact absurd d1 h107
          · refine T.iload (pc' := 112) (q_d dL_holds_1 27 rfl) rfl rfl ?_
            refine T.aload_n (pc' := 113) (q_d dL_holds_1 28 rfl) rfl rfl rfl ?_
            refine T.iload (pc' := 115) (q_d dL_holds_1 29 rfl) rfl rfl ?_
            refine T.iconst (pc' := 116) (v := nI 1) (q_d dL_holds_1 30 rfl) rfl (by decide) ?_
            refine T.callV (pc' := 119) (ci := 5) (q_d dL_holds_1 31 rfl) rfl uX5_placeOf wM_L_48 (c_pla hX4 (by omega) (v := 1) (by decide) p1) rfl rfl (by decide) rfl rfl (by decide) (Nat.le_of_ble_eq_true rfl) rfl rfl (fun _ => rfl) ?_
            rintro _ M5 ⟨rfl, pa5, sw5, hX5⟩
            replace hX5 : RX M5 b s k was n t pa5 sw5 := hX5
            dsimp only [Option.toList, List.cons_append, List.nil_append, List.append_nil]
            refine T.iconst (pc' := 120) (v := nI 4294967295) (q_d dL_holds_1 32 rfl) rfl (by decide) ?_
            refine T.ixor (pc' := 121) (q_d dL_holds_1 33 rfl) rfl (nN_xor _ _) ?_
            refine T.iand (pc' := 122) (q_d dL_holds_1 34 rfl) rfl (nN_and _ _) ?_
            refine T.if_neN (tgt := 190) (pc' := 125) (q_d dL_holds_1 35 rfl) rfl (by decide) (by omega) (fun h122 => ?_) (fun h122 => ?_)
            · exact absurd d2 h122
            · refine T.aload_n (pc' := 126) (q_d dL_holds_1 36 rfl) rfl rfl rfl ?_
              refine T.iload (pc' := 128) (q_d dL_holds_1 37 rfl) rfl rfl ?_
              refine T.iconst (pc' := 129) (v := nI 3) (q_d dL_holds_1 38 rfl) rfl (by decide) ?_
              refine T.callV (pc' := 132) (ci := 5) (q_d dL_holds_1 39 rfl) rfl uX5_placeOf wM_L_48 (c_pla hX5 (by omega) (v := 3) (by decide) p3) rfl rfl (by decide) rfl rfl (by decide) (Nat.le_of_ble_eq_true rfl) rfl rfl (fun _ => rfl) ?_
              rintro _ M6 ⟨rfl, pa6, sw6, hX6⟩
              replace hX6 : RX M6 b s k was n t pa6 sw6 := hX6
              dsimp only [Option.toList, List.cons_append, List.nil_append, List.append_nil]
              refine T.if_eqN (tgt := 190) (pc' := 135) (q_d dL_holds_2 0 rfl) rfl (by decide) (by omega) (fun h132 => ?_) (fun h132 => ?_)
              · exact absurd h132 goes_ne
              · refine T.aload_n (pc' := 136) (q_d dL_holds_2 1 rfl) rfl rfl rfl ?_
                refine T.iload (pc' := 138) (q_d dL_holds_2 2 rfl) rfl rfl ?_
                refine T.iconst (pc' := 139) (v := nI 3) (q_d dL_holds_2 3 rfl) rfl (by decide) ?_
                refine T.callV (pc' := 142) (ci := 5) (q_d dL_holds_2 4 rfl) rfl uX5_placeOf wM_L_48 (c_pla hX6 (by omega) (v := 3) (by decide) p3) rfl rfl (by decide) rfl rfl (by decide) (Nat.le_of_ble_eq_true rfl) rfl rfl (fun _ => rfl) ?_
                rintro _ M7 ⟨rfl, pa7, sw7, hX7⟩
                replace hX7 : RX M7 b s k was n t pa7 sw7 := hX7
                dsimp only [Option.toList, List.cons_append, List.nil_append, List.append_nil]
                refine T.iload (pc' := 144) (q_d dL_holds_2 5 rfl) rfl rfl ?_
                refine T.iand (pc' := 145) (q_d dL_holds_2 6 rfl) rfl (nN_and _ _) ?_
                refine T.iload (pc' := 147) (q_d dL_holds_2 7 rfl) rfl rfl ?_
                refine T.icmp_neN (tgt := 190) (pc' := 150) (q_d dL_holds_2 8 rfl) rfl (by decide) (by omega) (by omega) (fun h147 => ?_) (fun h147 => ?_)
                · exact absurd d4 h147
                · refine T.aload_n (pc' := 151) (q_d dL_holds_2 9 rfl) rfl rfl rfl ?_
                  refine T.iconst (pc' := 152) (v := nI 1) (q_d dL_holds_2 10 rfl) rfl (by decide) ?_
                  refine T.iload (pc' := 154) (q_d dL_holds_2 11 rfl) rfl rfl ?_
                  refine T.ishl (pc' := 155) (q_d dL_holds_2 12 rfl) rfl (nN_shl _ (by omega)) ?_
                  refine T.iconst (pc' := 156) (v := nI 0) (q_d dL_holds_2 13 rfl) rfl (by decide) ?_
                  refine T.iconst (pc' := 157) (v := nI 4294967295) (q_d dL_holds_2 14 rfl) rfl (by decide) ?_
                  refine T.callV (pc' := 160) (ci := 5) (q_d dL_holds_2 15 rfl) rfl uX5_behind wM_L_9 (c_behA hX7 hp2 (show 0 < 2 ^ s 0 by omega)) rfl rfl (by decide) rfl rfl (by decide) (Nat.le_of_ble_eq_true rfl) rfl rfl (fun _ => rfl) ?_
                  rintro _ M8 ⟨rfl, pa8, sw8, hX8⟩
                  replace hX8 : RX M8 b s k was n t pa8 sw8 := hX8
                  dsimp only [Option.toList, List.cons_append, List.nil_append, List.append_nil]
                  refine T.aload_n (pc' := 161) (q_d dL_holds_2 16 rfl) rfl rfl rfl ?_
                  refine T.iload (pc' := 163) (q_d dL_holds_2 17 rfl) rfl rfl ?_
                  refine T.iconst (pc' := 164) (v := nI 3) (q_d dL_holds_2 18 rfl) rfl (by decide) ?_
                  refine T.callV (pc' := 167) (ci := 5) (q_d dL_holds_2 19 rfl) rfl uX5_placeOf wM_L_48 (c_pla hX8 (by omega) (v := 3) (by decide) p3) rfl rfl (by decide) rfl rfl (by decide) (Nat.le_of_ble_eq_true rfl) rfl rfl (fun _ => rfl) ?_
                  rintro _ M9 ⟨rfl, pa9, sw9, hX9⟩
                  replace hX9 : RX M9 b s k was n t pa9 sw9 := hX9
                  dsimp only [Option.toList, List.cons_append, List.nil_append, List.append_nil]
                  refine T.icmp_neN (tgt := 190) (pc' := 170) (q_d dL_holds_2 20 rfl) rfl (by decide) (by omega) (by omega) (fun h167 => ?_) (fun h167 => ?_)
                  · exact absurd d5 h167
                  · refine T.aload_n (pc' := 171) (q_d dL_holds_2 21 rfl) rfl rfl rfl ?_
                    refine T.iconst (pc' := 172) (v := nI 1) (q_d dL_holds_2 22 rfl) rfl (by decide) ?_
                    refine T.iload (pc' := 174) (q_d dL_holds_2 23 rfl) rfl rfl ?_
                    refine T.ishl (pc' := 175) (q_d dL_holds_2 24 rfl) rfl (nN_shl _ (by omega)) ?_
                    refine T.iconst (pc' := 176) (v := nI 1) (q_d dL_holds_2 25 rfl) rfl (by decide) ?_
                    refine T.iload (pc' := 178) (q_d dL_holds_2 26 rfl) rfl rfl ?_
                    refine T.ishl (pc' := 179) (q_d dL_holds_2 27 rfl) rfl (nN_shl _ (by omega)) ?_
                    refine T.iconst (pc' := 180) (v := nI 4294967295) (q_d dL_holds_2 28 rfl) rfl (by decide) ?_
                    refine T.callV (pc' := 183) (ci := 5) (q_d dL_holds_2 29 rfl) rfl uX5_behind wM_L_9 (c_behA hX9 hp2 hp2) rfl rfl (by decide) rfl rfl (by decide) (Nat.le_of_ble_eq_true rfl) rfl rfl (fun _ => rfl) ?_
                    rintro _ MA ⟨rfl, paA, swA, hXA⟩
                    replace hXA : RX MA b s k was n t paA swA := hXA
                    dsimp only [Option.toList, List.cons_append, List.nil_append, List.append_nil]
                    refine T.if_neN (tgt := 190) (pc' := 186) (q_d dL_holds_2 30 rfl) rfl (by decide) (by omega) (fun h183 => ?_) (fun h183 => ?_)
                    · exact absurd d6 h183
                    · refine T.iconst (pc' := 187) (v := nI 1) (q_d dL_holds_2 31 rfl) rfl (by decide) ?_
                      refine T.goto (tgt := 191) (q_d dL_holds_2 32 rfl) (by decide) ?_
                      refine T.istore (pc' := 193) (q_d dL_holds_2 34 rfl) rfl (by decide) rfl rfl ?_
                      refine T.iinc (pc' := 196) (q_d dL_holds_2 35 rfl) rfl rfl (nN_p _ 1) (by decide) rfl rfl ?_
                      refine T.goto (tgt := 52) (q_d dL_holds_2 36 rfl) (by decide) ?_
                      refine T.drop (loc' := [some (.ref 0), some (.int (nI (s 0))), some (.int (nI (2 ^ s 0 - 1))), some (.int (nI (sumTo (fun i => ones (s (14 + i))) p + ones (s (14 + p))))), some (.int (nI (sumTo (fun i => ones (s (21 + i))) p + ones (s (21 + p))))), some (.int (nI 1)), some (.int (nI (p + 1))), none]) ⟨rfl, rfl, rfl, rfl, rfl, rfl, rfl, trivial⟩ ?_
                      have h9 := ih (p + 1) MA paA swA (by omega) hXA
                      rw [f14, f21] at h9
                      exact h9
  refine T.aload_n (pc' := 1) (q_d dL_holds_0 0 rfl) rfl rfl rfl ?_
  refine T.iconst (pc' := 2) (v := nI 0) (q_d dL_holds_0 1 rfl) rfl (by decide) ?_
  refine T.callV (pc' := 5) (ci := 5) (q_d dL_holds_0 2 rfl) rfl uX5_count wM_L_38 (c_cnt hX hb (u := 0) (x := s 0) (by decide) rfl) rfl rfl (by decide) rfl rfl (by decide) (Nat.le_of_ble_eq_true rfl) rfl rfl (fun _ => rfl) ?_
  rintro _ M2 ⟨rfl, pa2, sw2, hX2⟩
  replace hX2 : RX M2 b s k was n t pa2 sw2 := hX2
  dsimp only [Option.toList, List.cons_append, List.nil_append, List.append_nil]
  refine T.istore_n (pc' := 6) (q_d dL_holds_0 3 rfl) rfl rfl (by decide) rfl rfl ?_
  refine T.iconst (pc' := 7) (v := nI 1) (q_d dL_holds_0 4 rfl) rfl (by decide) ?_
  refine T.iload_n (pc' := 8) (q_d dL_holds_0 5 rfl) rfl rfl rfl ?_
  refine T.ishl (pc' := 9) (q_d dL_holds_0 6 rfl) rfl (nN_shl _ (by omega)) ?_
  rw [e1n]
  refine T.iconst (pc' := 10) (v := nI 1) (q_d dL_holds_0 7 rfl) rfl (by decide) ?_
  refine T.isub (pc' := 11) (q_d dL_holds_0 8 rfl) rfl (nN_sub (by omega)) ?_
  refine T.istore_n (pc' := 12) (q_d dL_holds_0 9 rfl) rfl rfl (by decide) rfl rfl ?_
  refine T.iconst (pc' := 13) (v := nI 0) (q_d dL_holds_0 10 rfl) rfl (by decide) ?_
  refine T.istore_n (pc' := 14) (q_d dL_holds_0 11 rfl) rfl rfl (by decide) rfl rfl ?_
  refine T.iconst (pc' := 15) (v := nI 0) (q_d dL_holds_0 12 rfl) rfl (by decide) ?_
  refine T.istore (pc' := 17) (q_d dL_holds_0 13 rfl) rfl (by decide) rfl rfl ?_
  refine T.aload_n (pc' := 18) (q_d dL_holds_0 14 rfl) rfl rfl rfl ?_
  refine T.iconst (pc' := 19) (v := nI 2) (q_d dL_holds_0 15 rfl) rfl (by decide) ?_
  refine T.callV (pc' := 22) (ci := 5) (q_d dL_holds_0 16 rfl) rfl uX5_count wM_L_38 (c_cnt hX2 hb (u := 2) (x := rdN s 21) (by decide) rfl) rfl rfl (by decide) rfl rfl (by decide) (Nat.le_of_ble_eq_true rfl) rfl rfl (fun _ => rfl) ?_
  rintro _ M3 ⟨rfl, pa3, sw3, hX3⟩
  replace hX3 : RX M3 b s k was n t pa3 sw3 := hX3
  dsimp only [Option.toList, List.cons_append, List.nil_append, List.append_nil]
  refine T.aload_n (pc' := 23) (q_d dL_holds_0 17 rfl) rfl rfl rfl ?_
  refine T.iconst (pc' := 24) (v := nI 1) (q_d dL_holds_0 18 rfl) rfl (by decide) ?_
  refine T.callV (pc' := 27) (ci := 5) (q_d dL_holds_0 19 rfl) rfl uX5_count wM_L_38 (c_cnt hX3 hb (u := 1) (x := rdN s 14) (by decide) rfl) rfl rfl (by decide) rfl rfl (by decide) (Nat.le_of_ble_eq_true rfl) rfl rfl (fun _ => rfl) ?_
  rintro _ M4 ⟨rfl, pa4, sw4, hX4⟩
  replace hX4 : RX M4 b s k was n t pa4 sw4 := hX4
  dsimp only [Option.toList, List.cons_append, List.nil_append, List.append_nil]
  refine T.icmp_gtN (tgt := 46) (pc' := 30) (q_d dL_holds_0 20 rfl) rfl (by decide) (by omega) (by omega) (fun h27 => ?_) (fun h27 => ?_)
  · exact absurd h27 (by omega)
  · refine T.aload_n (pc' := 31) (q_d dL_holds_0 21 rfl) rfl rfl rfl ?_
    refine T.iconst (pc' := 32) (v := nI 3) (q_d dL_holds_0 22 rfl) rfl (by decide) ?_
    refine T.callV (pc' := 35) (ci := 5) (q_d dL_holds_0 23 rfl) rfl uX5_count wM_L_38 (c_cnt hX4 hb (u := 3) (x := s 1) (by decide) rfl) rfl rfl (by decide) rfl rfl (by decide) (Nat.le_of_ble_eq_true rfl) rfl rfl (fun _ => rfl) ?_
    rintro _ M5 ⟨rfl, pa5, sw5, hX5⟩
    replace hX5 : RX M5 b s k was n t pa5 sw5 := hX5
    dsimp only [Option.toList, List.cons_append, List.nil_append, List.append_nil]
    refine T.iload_n (pc' := 36) (q_d dL_holds_0 24 rfl) rfl rfl rfl ?_
    refine T.iconst (pc' := 37) (v := nI 4294967295) (q_d dL_holds_0 25 rfl) rfl (by decide) ?_
    refine T.ixor (pc' := 38) (q_d dL_holds_0 26 rfl) rfl (nN_xor _ _) ?_
    refine T.iand (pc' := 39) (q_d dL_holds_0 27 rfl) rfl (nN_and _ _) ?_
    refine T.if_neN (tgt := 46) (pc' := 42) (q_d dL_holds_0 28 rfl) rfl (by decide) (by omega) (fun h39 => ?_) (fun h39 => ?_)
    · exact absurd hda h39
    · refine T.iconst (pc' := 43) (v := nI 1) (q_d dL_holds_0 29 rfl) rfl (by decide) ?_
      refine T.goto (tgt := 47) (q_d dL_holds_0 30 rfl) (by decide) ?_
      refine T.istore (pc' := 49) (q_d dL_holds_0 32 rfl) rfl (by decide) rfl rfl ?_
      refine T.iconst (pc' := 50) (v := nI 0) (q_d dL_holds_0 33 rfl) rfl (by decide) ?_
      refine T.istore (pc' := 52) (q_d dL_holds_0 34 rfl) rfl (by decide) rfl rfl ?_
      exact loop1 (s 0) 0 M5 pa5 sw5 (Nat.zero_add _) hX5
end Holds
end
section
/-! an act of the law -/
def AQ (b : Nat) (n : Nat) (t : Nat → Nat) : Option Value → qM → Prop := fun v M' => v = some (.int (nI 1)) ∧ ∃ s' k' was', IN s' ∧ 3 ≤ s' 0 ∧ Ac (b + 127) (s', k', was', n, t) M'
section Acts
variable {l : Launch} {M : qM} {b : Nat} {s : Nat → Nat} {k : Nat} {was : Nat → Nat → Nat} {n : Nat} {t pa : Nat → Nat} {sw : Bool}
theorem c_placeY (hX : RX M b s k was n t pa sw) (h7 : s 0 < 7) {u : Nat} (hu : u ≤ 3) : Ct l hdX kX mX5_place [.ref 0, .int (nI u)] M (OX b (s 0, act s k was n t (sPlace s u))) :=
  (c_place hX (u := u) (by omega)).mono (fun _ _ q => OX.to (by unfold oPlace; rw [if_pos hu, if_pos h7]) q)
theorem c_placeN (hX : RX M b s k was n t pa sw) (h7 : ¬ s 0 < 7) {u : Nat} (hu : u ≤ 3) : Ct l hdX kX mX5_place [.ref 0, .int (nI u)] M (OX b (4293967293, (s, k, was, n, t))) :=
  (c_place hX (u := u) (by omega)).mono (fun _ _ q => OX.to (by unfold oPlace; rw [if_pos hu, if_neg h7]) q)
theorem c_roadY (hX : RX M b s k was n t pa sw) {u v : Nat} (hu : u < s 0) (hv : v < s 0) (h : u ≠ v ∧ s (14 + u) >>> v &&& 1 = 0) : Ct l hdX kX mX5_road [.ref 0, .int (nI u), .int (nI v)] M (OX b (rdN s 14 + 1, act s k was n t (sRoad s u v))) := by
  have w7 := hX.2.2.2.1.1
  refine (c_road hX (u := u) (v := v) (by omega) (by omega)).mono (fun _ _ q => OX.to ?_ q)
  unfold oRoad
  rw [if_pos ⟨hu, hv, h.1⟩, if_pos h.2, rd_road14 hX.2.2.2.1 hu hv h.1 h.2]
theorem c_roadN (hX : RX M b s k was n t pa sw) {u v : Nat} (hu : u < s 0) (hv : v < s 0) (h : ¬ (u ≠ v ∧ s (14 + u) >>> v &&& 1 = 0)) : ∃ e, (e = 4293967294 ∨ e = 4293967295) ∧ Ct l hdX kX mX5_road [.ref 0, .int (nI u), .int (nI v)] M (OX b (e, (s, k, was, n, t))) := by
  have w7 := hX.2.2.2.1.1
  by_cases huv : u = v
  · refine ⟨4293967295, Or.inr rfl, (c_road hX (u := u) (v := v) (by omega) (by omega)).mono (fun _ _ q => OX.to ?_ q)⟩
    unfold oRoad
    rw [if_neg (fun q => q.2.2 huv)]
  · refine ⟨4293967294, Or.inl rfl, (c_road hX (u := u) (v := v) (by omega) (by omega)).mono (fun _ _ q => OX.to ?_ q)⟩
    unfold oRoad
    rw [if_pos ⟨hu, hv, huv⟩, if_neg (fun q => h ⟨huv, q⟩)]
theorem c_shutY (hX : RX M b s k was n t pa sw) {u v w : Nat} (hu : u < s 0) (hv : v < s 0) (hw : w ≤ 1) (h : u ≠ v ∧ s (14 + u) >>> v &&& 1 = 1 ∧ s (21 + u) >>> v &&& 1 = w) : Ct l hdX kX mX5_shut [.ref 0, .int (nI u), .int (nI v), .int (nI w)] M (OX b (rdN (sShut s u v) 21, act s k was n t (sShut s u v))) := by
  have w7 := hX.2.2.2.1.1
  refine (c_shut hX (u := u) (v := v) (w := w) (by omega) (by omega) (by omega)).mono (fun _ _ q => OX.to ?_ q)
  unfold oShut
  rw [if_pos ⟨⟨hu, hv, h.1⟩, hw⟩, if_pos h.2]
theorem c_shutN (hX : RX M b s k was n t pa sw) {u v w : Nat} (hu : u < s 0) (hv : v < s 0) (hw : w ≤ 1) (h : ¬ (u ≠ v ∧ s (14 + u) >>> v &&& 1 = 1 ∧ s (21 + u) >>> v &&& 1 = w)) : ∃ e, (e = 4293967294 ∨ e = 4293967295) ∧ Ct l hdX kX mX5_shut [.ref 0, .int (nI u), .int (nI v), .int (nI w)] M (OX b (e, (s, k, was, n, t))) := by
  have w7 := hX.2.2.2.1.1
  by_cases huv : u = v
  · refine ⟨4293967295, Or.inr rfl, (c_shut hX (u := u) (v := v) (w := w) (by omega) (by omega) (by omega)).mono (fun _ _ q => OX.to ?_ q)⟩
    unfold oShut
    rw [if_neg (fun q => q.1.2.2 huv)]
  · refine ⟨4293967294, Or.inl rfl, (c_shut hX (u := u) (v := v) (w := w) (by omega) (by omega) (by omega)).mono (fun _ _ q => OX.to ?_ q)⟩
    unfold oShut
    rw [if_pos ⟨⟨hu, hv, huv⟩, hw⟩, if_neg (fun q => h ⟨huv, q⟩)]
theorem c_setY (hX : RX M b s k was n t pa sw) {u v : Nat} (hu : u ≤ 2) (hv : if u = 2 then 1 ≤ v ∧ v ≤ 2 else v ≤ 3) : Ct l hdX kX mX5_set [.ref 0, .int (nI u), .int (nI v)] M (OX b (s (4 + u), act s k was n t (up s (4 + u) v))) := by
  have hv2 : v < 4294967296 := by split at hv <;> omega
  refine (c_set hX (u := u) (v := v) (by omega) hv2).mono (fun _ _ q => OX.to ?_ q)
  unfold oSet
  rw [if_pos ⟨hu, hv⟩]
theorem a_place (hb : b + 127 < 2 ^ 30) (hX : RX M b s k was n t pa sw) (hI : IN s) (h3 : 3 ≤ s 0) {y z : Nat} (hz : z < 2147483648) : T l hdX kX mL_acts (AQ b n t) 0 0 48 [some (.ref 0), some (.int (nI y)), some (.int (nI z)), some (.int (nI (s 0))), none, none, none, none, none] [] M := by
  have w7 := hX.2.2.2.1.1
  by_cases h7 : s 0 < 7
  · refine T.aload_n (pc' := 49) (q_d dL_acts_0 12 rfl) rfl rfl rfl ?_
    refine T.iload_n (pc' := 50) (q_d dL_acts_0 13 rfl) rfl rfl rfl ?_
    refine T.iconst (pc' := 51) (v := nI 4) (q_d dL_acts_0 14 rfl) rfl (by decide) ?_
    refine T.irem (pc' := 52) (q_d dL_acts_0 15 rfl) rfl (by decide) (pk_rem (by omega) (by omega) (by omega)) ?_
    refine T.callV (pc' := 55) (ci := 5) (q_d dL_acts_0 16 rfl) rfl uX5_place wM_L_54 (c_placeY hX h7 (show z % 4 ≤ 3 by omega)) rfl rfl (by decide) rfl rfl (by decide) (Nat.le_of_ble_eq_true rfl) rfl rfl (fun _ => rfl) ?_
    rintro _ M2 ⟨rfl, pa2, sw2, hX2⟩
    replace hX2 : RX M2 b (sPlace s (z % 4)) (pushK k) (pushW k was s) n t pa2 sw2 := hX2
    dsimp only [Option.toList, List.cons_append, List.nil_append, List.append_nil]
    refine T.iload_n (pc' := 56) (q_d dL_acts_0 17 rfl) rfl rfl rfl ?_
    refine T.bipush (pc' := 58) (v := nI 7) (q_d dL_acts_0 18 rfl) rfl (by decide) ?_
    refine T.icmp_neN (tgt := 66) (pc' := 61) (q_d dL_acts_0 19 rfl) rfl (by decide) (by omega) (by omega) (fun h58 => ?_) (fun h58 => ?_)
    · refine T.iload_n (pc' := 67) (q_d dL_acts_0 22 rfl) rfl rfl rfl ?_
      refine T.icmp_neN (tgt := 74) (pc' := 70) (q_d dL_acts_0 23 rfl) rfl (by decide) (by omega) (by omega) (fun h67 => ?_) (fun h67 => ?_)
      · exact absurd rfl h67
      · refine T.iconst (pc' := 71) (v := nI 1) (q_d dL_acts_0 24 rfl) rfl (by decide) ?_
        refine T.goto (tgt := 75) (q_d dL_acts_0 25 rfl) (by decide) ?_
        refine T.zret (q_d dL_acts_0 27 rfl) rfl (by decide) rfl rfl ?_
        exact ⟨rfl, _, _, _, hI.place h7, (show 3 ≤ s 0 + 1 by omega), pa2, sw2, hX2.le (by omega)⟩
    · exact absurd h58 (by omega)
  · refine T.aload_n (pc' := 49) (q_d dL_acts_0 12 rfl) rfl rfl rfl ?_
    refine T.iload_n (pc' := 50) (q_d dL_acts_0 13 rfl) rfl rfl rfl ?_
    refine T.iconst (pc' := 51) (v := nI 4) (q_d dL_acts_0 14 rfl) rfl (by decide) ?_
    refine T.irem (pc' := 52) (q_d dL_acts_0 15 rfl) rfl (by decide) (pk_rem (by omega) (by omega) (by omega)) ?_
    refine T.callV (pc' := 55) (ci := 5) (q_d dL_acts_0 16 rfl) rfl uX5_place wM_L_54 (c_placeN hX h7 (show z % 4 ≤ 3 by omega)) rfl rfl (by decide) rfl rfl (by decide) (Nat.le_of_ble_eq_true rfl) rfl rfl (fun _ => rfl) ?_
    rintro _ M2 ⟨rfl, pa2, sw2, hX2⟩
    replace hX2 : RX M2 b s k was n t pa2 sw2 := hX2
    dsimp only [Option.toList, List.cons_append, List.nil_append, List.append_nil]
    refine T.iload_n (pc' := 56) (q_d dL_acts_0 17 rfl) rfl rfl rfl ?_
    refine T.bipush (pc' := 58) (v := nI 7) (q_d dL_acts_0 18 rfl) rfl (by decide) ?_
    refine T.icmp_neN (tgt := 66) (pc' := 61) (q_d dL_acts_0 19 rfl) rfl (by decide) (by omega) (by omega) (fun h58 => ?_) (fun h58 => ?_)
    · exact absurd h58 (by omega)
    · refine T.ldc (pc' := 63) (v := nI 4293967293) (q_d dL_acts_0 20 rfl) rfl wN_L_57 ?_
      refine T.goto (tgt := 67) (q_d dL_acts_0 21 rfl) (by decide) ?_
      refine T.icmp_neN (tgt := 74) (pc' := 70) (q_d dL_acts_0 23 rfl) rfl (by decide) (by omega) (by omega) (fun h67 => ?_) (fun h67 => ?_)
      · exact absurd rfl h67
      · refine T.iconst (pc' := 71) (v := nI 1) (q_d dL_acts_0 24 rfl) rfl (by decide) ?_
        refine T.goto (tgt := 75) (q_d dL_acts_0 25 rfl) (by decide) ?_
        refine T.zret (q_d dL_acts_0 27 rfl) rfl (by decide) rfl rfl ?_
        exact ⟨rfl, s, k, was, hI, h3, pa2, sw2, hX2.le (by omega)⟩
theorem a_road (hb : b + 127 < 2 ^ 30) (hX : RX M b s k was n t pa sw) (hI : IN s) (h3 : 3 ≤ s 0) {y z : Nat} (hz : z < 2147483648) : T l hdX kX mL_acts (AQ b n t) 0 0 76 [some (.ref 0), some (.int (nI y)), some (.int (nI z)), some (.int (nI (s 0))), none, none, none, none, none] [] M := by
  have hw := hX.2.2.2.1
  have w7 := hw.1
  have hr14 := rdN_le w7 (o := 14)
  have hu := Nat.mod_lt z (show 0 < s 0 by omega)
  have hv := Nat.mod_lt (z / 8) (show 0 < s 0 by omega)
  by_cases h : z % s 0 ≠ z / 8 % s 0 ∧ s (14 + z % s 0) >>> (z / 8 % s 0) &&& 1 = 0
  · have hr21 := rd_road21 hw hu hv h.1
    have hr2 : rdN (sRoad s (z % s 0) (z / 8 % s 0)) 21 ≤ 49 := rdN_le (by rw [sRoad_out (by omega)]; exact w7)
    refine T.aload_n (pc' := 77) (q_d dL_acts_0 28 rfl) rfl rfl rfl ?_
    refine T.iconst (pc' := 78) (v := nI 1) (q_d dL_acts_0 29 rfl) rfl (by decide) ?_
    refine T.callV (pc' := 81) (ci := 5) (q_d dL_acts_0 30 rfl) rfl uX5_count wM_L_38 (c_cnt hX (by omega) (u := 1) (x := rdN s 14) (by decide) rfl) rfl rfl (by decide) rfl rfl (by decide) (Nat.le_of_ble_eq_true rfl) rfl rfl (fun _ => rfl) ?_
    rintro _ M2 ⟨rfl, pa2, sw2, hX2⟩
    replace hX2 : RX M2 b s k was n t pa2 sw2 := hX2
    dsimp only [Option.toList, List.cons_append, List.nil_append, List.append_nil]
    refine T.istore (pc' := 83) (q_d dL_acts_0 31 rfl) rfl (by decide) rfl rfl ?_
    refine T.aload_n (pc' := 84) (q_d dL_acts_0 32 rfl) rfl rfl rfl ?_
    refine T.iload_n (pc' := 85) (q_d dL_acts_0 33 rfl) rfl rfl rfl ?_
    refine T.iload_n (pc' := 86) (q_d dL_acts_0 34 rfl) rfl rfl rfl ?_
    refine T.irem (pc' := 87) (q_d dL_acts_0 35 rfl) rfl (nI_ne0 (by omega) (by omega)) (pk_rem (by omega) (by omega) (by omega)) ?_
    refine T.iload_n (pc' := 88) (q_d dL_acts_0 36 rfl) rfl rfl rfl ?_
    refine T.bipush (pc' := 90) (v := nI 8) (q_d dL_acts_0 37 rfl) rfl (by decide) ?_
    refine T.idiv (pc' := 91) (q_d dL_acts_0 38 rfl) rfl (by decide) (pk_div (by omega) (by omega) (by omega)) ?_
    refine T.iload_n (pc' := 92) (q_d dL_acts_0 39 rfl) rfl rfl rfl ?_
    refine T.irem (pc' := 93) (q_d dL_acts_1 0 rfl) rfl (nI_ne0 (by omega) (by omega)) (pk_rem (by omega) (by omega) (by omega)) ?_
    refine T.callV (pc' := 96) (ci := 5) (q_d dL_acts_1 1 rfl) rfl uX5_road wM_L_58 (c_roadY hX2 hu hv h) rfl rfl (by decide) rfl rfl (by decide) (Nat.le_of_ble_eq_true rfl) rfl rfl (fun _ => rfl) ?_
    rintro _ M3 ⟨rfl, pa3, sw3, hX3⟩
    replace hX3 : RX M3 b (sRoad s (z % s 0) (z / 8 % s 0)) (pushK k) (pushW k was s) n t pa3 sw3 := hX3
    dsimp only [Option.toList, List.cons_append, List.nil_append, List.append_nil]
    refine T.istore (pc' := 98) (q_d dL_acts_1 2 rfl) rfl (by decide) rfl rfl ?_
    refine T.iload (pc' := 100) (q_d dL_acts_1 3 rfl) rfl rfl ?_
    refine T.if_leN (tgt := 129) (pc' := 103) (q_d dL_acts_1 4 rfl) rfl (by decide) (by omega) (fun h100 => ?_) (fun h100 => ?_)
    · exact absurd h100 (by omega)
    · refine T.iload (pc' := 105) (q_d dL_acts_1 5 rfl) rfl rfl ?_
      refine T.iload (pc' := 107) (q_d dL_acts_1 6 rfl) rfl rfl ?_
      refine T.iconst (pc' := 108) (v := nI 1) (q_d dL_acts_1 7 rfl) rfl (by decide) ?_
      refine T.iadd (pc' := 109) (q_d dL_acts_1 8 rfl) rfl (nI_add _ _) ?_
      refine T.icmp_neN (tgt := 125) (pc' := 112) (q_d dL_acts_1 9 rfl) rfl (by decide) (by omega) (by omega) (fun h109 => ?_) (fun h109 => ?_)
      · exact absurd rfl h109
      · refine T.aload_n (pc' := 113) (q_d dL_acts_1 10 rfl) rfl rfl rfl ?_
        refine T.iconst (pc' := 114) (v := nI 2) (q_d dL_acts_1 11 rfl) rfl (by decide) ?_
        refine T.callV (pc' := 117) (ci := 5) (q_d dL_acts_1 12 rfl) rfl uX5_count wM_L_38 (c_cnt hX3 (by omega) (u := 2) (x := rdN (sRoad s (z % s 0) (z / 8 % s 0)) 21) (by decide) rfl) rfl rfl (by decide) rfl rfl (by decide) (Nat.le_of_ble_eq_true rfl) rfl rfl (fun _ => rfl) ?_
        rintro _ M4 ⟨rfl, pa4, sw4, hX4⟩
        replace hX4 : RX M4 b (sRoad s (z % s 0) (z / 8 % s 0)) (pushK k) (pushW k was s) n t pa4 sw4 := hX4
        dsimp only [Option.toList, List.cons_append, List.nil_append, List.append_nil]
        refine T.iconst (pc' := 118) (v := nI 1) (q_d dL_acts_1 13 rfl) rfl (by decide) ?_
        refine T.icmp_ltN (tgt := 125) (pc' := 121) (q_d dL_acts_1 14 rfl) rfl (by decide) (by omega) (by omega) (fun h118 => ?_) (fun h118 => ?_)
        · exact absurd h118 (by omega)
        · refine T.iconst (pc' := 122) (v := nI 1) (q_d dL_acts_1 15 rfl) rfl (by decide) ?_
          refine T.goto (tgt := 144) (q_d dL_acts_1 16 rfl) (by decide) ?_
          refine T.zret (q_d dL_acts_1 27 rfl) rfl (by decide) rfl rfl ?_
          exact ⟨rfl, _, _, _, hI.road h.1, (by rw [sRoad_out (by omega)]; exact h3), pa4, sw4, hX4.le (by omega)⟩
  · refine T.aload_n (pc' := 77) (q_d dL_acts_0 28 rfl) rfl rfl rfl ?_
    refine T.iconst (pc' := 78) (v := nI 1) (q_d dL_acts_0 29 rfl) rfl (by decide) ?_
    refine T.callV (pc' := 81) (ci := 5) (q_d dL_acts_0 30 rfl) rfl uX5_count wM_L_38 (c_cnt hX (by omega) (u := 1) (x := rdN s 14) (by decide) rfl) rfl rfl (by decide) rfl rfl (by decide) (Nat.le_of_ble_eq_true rfl) rfl rfl (fun _ => rfl) ?_
    rintro _ M2 ⟨rfl, pa2, sw2, hX2⟩
    replace hX2 : RX M2 b s k was n t pa2 sw2 := hX2
    dsimp only [Option.toList, List.cons_append, List.nil_append, List.append_nil]
    refine T.istore (pc' := 83) (q_d dL_acts_0 31 rfl) rfl (by decide) rfl rfl ?_
    refine T.aload_n (pc' := 84) (q_d dL_acts_0 32 rfl) rfl rfl rfl ?_
    refine T.iload_n (pc' := 85) (q_d dL_acts_0 33 rfl) rfl rfl rfl ?_
    refine T.iload_n (pc' := 86) (q_d dL_acts_0 34 rfl) rfl rfl rfl ?_
    refine T.irem (pc' := 87) (q_d dL_acts_0 35 rfl) rfl (nI_ne0 (by omega) (by omega)) (pk_rem (by omega) (by omega) (by omega)) ?_
    refine T.iload_n (pc' := 88) (q_d dL_acts_0 36 rfl) rfl rfl rfl ?_
    refine T.bipush (pc' := 90) (v := nI 8) (q_d dL_acts_0 37 rfl) rfl (by decide) ?_
    refine T.idiv (pc' := 91) (q_d dL_acts_0 38 rfl) rfl (by decide) (pk_div (by omega) (by omega) (by omega)) ?_
    refine T.iload_n (pc' := 92) (q_d dL_acts_0 39 rfl) rfl rfl rfl ?_
    refine T.irem (pc' := 93) (q_d dL_acts_1 0 rfl) rfl (nI_ne0 (by omega) (by omega)) (pk_rem (by omega) (by omega) (by omega)) ?_
    obtain ⟨e, he, hCt⟩ := c_roadN (l := l) hX2 hu hv h
    refine T.callV (pc' := 96) (ci := 5) (q_d dL_acts_1 1 rfl) rfl uX5_road wM_L_58 hCt rfl rfl (by decide) rfl rfl (by decide) (Nat.le_of_ble_eq_true rfl) rfl rfl (fun _ => rfl) ?_
    rintro _ M3 ⟨rfl, pa3, sw3, hX3⟩
    replace hX3 : RX M3 b s k was n t pa3 sw3 := hX3
    dsimp only [Option.toList, List.cons_append, List.nil_append, List.append_nil]
    refine T.istore (pc' := 98) (q_d dL_acts_1 2 rfl) rfl (by decide) rfl rfl ?_
    refine T.iload (pc' := 100) (q_d dL_acts_1 3 rfl) rfl rfl ?_
    refine T.if_le (tgt := 129) (pc' := 103) (q_d dL_acts_1 4 rfl) rfl (by decide)  (fun h100 => ?_) (fun h100 => ?_)
    · refine T.aload_n (pc' := 130) (q_d dL_acts_1 19 rfl) rfl rfl rfl ?_
      refine T.iconst (pc' := 131) (v := nI 1) (q_d dL_acts_1 20 rfl) rfl (by decide) ?_
      refine T.callV (pc' := 134) (ci := 5) (q_d dL_acts_1 21 rfl) rfl uX5_count wM_L_38 (c_cnt hX3 (by omega) (u := 1) (x := rdN s 14) (by decide) rfl) rfl rfl (by decide) rfl rfl (by decide) (Nat.le_of_ble_eq_true rfl) rfl rfl (fun _ => rfl) ?_
      rintro _ M4 ⟨rfl, pa4, sw4, hX4⟩
      replace hX4 : RX M4 b s k was n t pa4 sw4 := hX4
      dsimp only [Option.toList, List.cons_append, List.nil_append, List.append_nil]
      refine T.iload (pc' := 136) (q_d dL_acts_1 22 rfl) rfl rfl ?_
      refine T.icmp_neN (tgt := 143) (pc' := 139) (q_d dL_acts_1 23 rfl) rfl (by decide) (by omega) (by omega) (fun h136 => ?_) (fun h136 => ?_)
      · exact absurd rfl h136
      · refine T.iconst (pc' := 140) (v := nI 1) (q_d dL_acts_1 24 rfl) rfl (by decide) ?_
        refine T.goto (tgt := 144) (q_d dL_acts_1 25 rfl) (by decide) ?_
        refine T.zret (q_d dL_acts_1 27 rfl) rfl (by decide) rfl rfl ?_
        exact ⟨rfl, s, k, was, hI, h3, pa4, sw4, hX4.le (by omega)⟩
    · rcases he with rfl | rfl <;> exact absurd (by decide) h100
theorem a_shut (hb : b + 127 < 2 ^ 30) (hX : RX M b s k was n t pa sw) (hI : IN s) (h3 : 3 ≤ s 0) {y z : Nat} (hz : z < 2147483648) : T l hdX kX mL_acts (AQ b n t) 0 0 145 [some (.ref 0), some (.int (nI y)), some (.int (nI z)), some (.int (nI (s 0))), none, none, none, none, none] [] M := by
  have hw := hX.2.2.2.1
  have w7 := hw.1
  have hr21 := rdN_le w7 (o := 21)
  have hu := Nat.mod_lt z (show 0 < s 0 by omega)
  have hv := Nat.mod_lt (z / 8) (show 0 < s 0 by omega)
  by_cases h : z % s 0 ≠ z / 8 % s 0 ∧ s (14 + z % s 0) >>> (z / 8 % s 0) &&& 1 = 1 ∧ s (21 + z % s 0) >>> (z / 8 % s 0) &&& 1 = z / 64 % 2
  · have hr2 : rdN (sShut s (z % s 0) (z / 8 % s 0)) 21 ≤ 49 := rdN_le (by rw [sShut_out (by omega)]; exact w7)
    have k1 : z / 64 % 2 = 1 → rdN (sShut s (z % s 0) (z / 8 % s 0)) 21 + 1 = rdN s 21 := fun e => rd_shut1 hw hI hu hv h.1 (h.2.2.trans e)
    have k0 : z / 64 % 2 ≠ 1 → rdN (sShut s (z % s 0) (z / 8 % s 0)) 21 = rdN s 21 + 1 := fun e => rd_shut0 hw hI hu hv h.1 (h.2.2.trans (by omega))
    refine T.aload_n (pc' := 146) (q_d dL_acts_1 28 rfl) rfl rfl rfl ?_
    refine T.iconst (pc' := 147) (v := nI 2) (q_d dL_acts_1 29 rfl) rfl (by decide) ?_
    refine T.callV (pc' := 150) (ci := 5) (q_d dL_acts_1 30 rfl) rfl uX5_count wM_L_38 (c_cnt hX (by omega) (u := 2) (x := rdN s 21) (by decide) rfl) rfl rfl (by decide) rfl rfl (by decide) (Nat.le_of_ble_eq_true rfl) rfl rfl (fun _ => rfl) ?_
    rintro _ M2 ⟨rfl, pa2, sw2, hX2⟩
    replace hX2 : RX M2 b s k was n t pa2 sw2 := hX2
    dsimp only [Option.toList, List.cons_append, List.nil_append, List.append_nil]
    refine T.istore (pc' := 152) (q_d dL_acts_1 31 rfl) rfl (by decide) rfl rfl ?_
    refine T.iload_n (pc' := 153) (q_d dL_acts_1 32 rfl) rfl rfl rfl ?_
    refine T.bipush (pc' := 155) (v := nI 64) (q_d dL_acts_1 33 rfl) rfl (by decide) ?_
    refine T.idiv (pc' := 156) (q_d dL_acts_1 34 rfl) rfl (by decide) (pk_div (by omega) (by omega) (by omega)) ?_
    refine T.iconst (pc' := 157) (v := nI 2) (q_d dL_acts_1 35 rfl) rfl (by decide) ?_
    refine T.irem (pc' := 158) (q_d dL_acts_1 36 rfl) rfl (by decide) (pk_rem (by omega) (by omega) (by omega)) ?_
    refine T.istore (pc' := 160) (q_d dL_acts_1 37 rfl) rfl (by decide) rfl rfl ?_
    refine T.aload_n (pc' := 161) (q_d dL_acts_1 38 rfl) rfl rfl rfl ?_
    refine T.iload_n (pc' := 162) (q_d dL_acts_1 39 rfl) rfl rfl rfl ?_
    refine T.iload_n (pc' := 163) (q_d dL_acts_2 0 rfl) rfl rfl rfl ?_
    refine T.irem (pc' := 164) (q_d dL_acts_2 1 rfl) rfl (nI_ne0 (by omega) (by omega)) (pk_rem (by omega) (by omega) (by omega)) ?_
    refine T.iload_n (pc' := 165) (q_d dL_acts_2 2 rfl) rfl rfl rfl ?_
    refine T.bipush (pc' := 167) (v := nI 8) (q_d dL_acts_2 3 rfl) rfl (by decide) ?_
    refine T.idiv (pc' := 168) (q_d dL_acts_2 4 rfl) rfl (by decide) (pk_div (by omega) (by omega) (by omega)) ?_
    refine T.iload_n (pc' := 169) (q_d dL_acts_2 5 rfl) rfl rfl rfl ?_
    refine T.irem (pc' := 170) (q_d dL_acts_2 6 rfl) rfl (nI_ne0 (by omega) (by omega)) (pk_rem (by omega) (by omega) (by omega)) ?_
    refine T.iload (pc' := 172) (q_d dL_acts_2 7 rfl) rfl rfl ?_
    refine T.callV (pc' := 175) (ci := 5) (q_d dL_acts_2 8 rfl) rfl uX5_shut wM_L_61 (c_shutY hX2 hu hv (w := z / 64 % 2) (by omega) h) rfl rfl (by decide) rfl rfl (by decide) (Nat.le_of_ble_eq_true rfl) rfl rfl (fun _ => rfl) ?_
    rintro _ M3 ⟨rfl, pa3, sw3, hX3⟩
    replace hX3 : RX M3 b (sShut s (z % s 0) (z / 8 % s 0)) (pushK k) (pushW k was s) n t pa3 sw3 := hX3
    dsimp only [Option.toList, List.cons_append, List.nil_append, List.append_nil]
    refine T.istore (pc' := 177) (q_d dL_acts_2 9 rfl) rfl (by decide) rfl rfl ?_
    refine T.iload (pc' := 179) (q_d dL_acts_2 10 rfl) rfl rfl ?_
    refine T.if_ltN (tgt := 212) (pc' := 182) (q_d dL_acts_2 11 rfl) rfl (by decide) (by omega) ?_
    refine T.iload (pc' := 184) (q_d dL_acts_2 12 rfl) rfl rfl ?_
    refine T.iload (pc' := 186) (q_d dL_acts_2 13 rfl) rfl rfl ?_
    refine T.iconst (pc' := 187) (v := nI 1) (q_d dL_acts_2 14 rfl) rfl (by decide) ?_
    refine T.icmp_neN (tgt := 197) (pc' := 190) (q_d dL_acts_2 15 rfl) rfl (by decide) (by omega) (by omega) (fun h187 => ?_) (fun h187 => ?_)
    · refine T.iload (pc' := 199) (q_d dL_acts_2 20 rfl) rfl rfl ?_
      refine T.iconst (pc' := 200) (v := nI 1) (q_d dL_acts_2 21 rfl) rfl (by decide) ?_
      refine T.iadd (pc' := 201) (q_d dL_acts_2 22 rfl) rfl (nI_add _ _) ?_
      refine T.icmp_neN (tgt := 208) (pc' := 204) (q_d dL_acts_2 23 rfl) rfl (by decide) (by omega) (by omega) (fun h201 => ?_) (fun h201 => ?_)
      · first | exact absurd (k0 h187) h201 | exact absurd (show rdN (sShut s (z % s 0) (z / 8 % s 0)) 21 = rdN s 21 - 1 by have := k1 h187; omega) h201
      · refine T.iconst (pc' := 205) (v := nI 1) (q_d dL_acts_2 24 rfl) rfl (by decide) ?_
        refine T.goto (tgt := 227) (q_d dL_acts_2 25 rfl) (by decide) ?_
        refine T.zret (q_d dL_acts_2 36 rfl) rfl (by decide) rfl rfl ?_
        exact ⟨rfl, _, _, _, hI.shut h.1, (by rw [sShut_out (by omega)]; exact h3), pa3, sw3, hX3.le (by omega)⟩
    · refine T.iload (pc' := 192) (q_d dL_acts_2 16 rfl) rfl rfl ?_
      refine T.iconst (pc' := 193) (v := nI 1) (q_d dL_acts_2 17 rfl) rfl (by decide) ?_
      refine T.isub (pc' := 194) (q_d dL_acts_2 18 rfl) rfl (nN_sub (by have := k1 h187; omega)) ?_
      refine T.goto (tgt := 201) (q_d dL_acts_2 19 rfl) (by decide) ?_
      refine T.icmp_neN (tgt := 208) (pc' := 204) (q_d dL_acts_2 23 rfl) rfl (by decide) (by omega) (by omega) (fun h201 => ?_) (fun h201 => ?_)
      · first | exact absurd (k0 h187) h201 | exact absurd (show rdN (sShut s (z % s 0) (z / 8 % s 0)) 21 = rdN s 21 - 1 by have := k1 h187; omega) h201
      · refine T.iconst (pc' := 205) (v := nI 1) (q_d dL_acts_2 24 rfl) rfl (by decide) ?_
        refine T.goto (tgt := 227) (q_d dL_acts_2 25 rfl) (by decide) ?_
        refine T.zret (q_d dL_acts_2 36 rfl) rfl (by decide) rfl rfl ?_
        exact ⟨rfl, _, _, _, hI.shut h.1, (by rw [sShut_out (by omega)]; exact h3), pa3, sw3, hX3.le (by omega)⟩
  · refine T.aload_n (pc' := 146) (q_d dL_acts_1 28 rfl) rfl rfl rfl ?_
    refine T.iconst (pc' := 147) (v := nI 2) (q_d dL_acts_1 29 rfl) rfl (by decide) ?_
    refine T.callV (pc' := 150) (ci := 5) (q_d dL_acts_1 30 rfl) rfl uX5_count wM_L_38 (c_cnt hX (by omega) (u := 2) (x := rdN s 21) (by decide) rfl) rfl rfl (by decide) rfl rfl (by decide) (Nat.le_of_ble_eq_true rfl) rfl rfl (fun _ => rfl) ?_
    rintro _ M2 ⟨rfl, pa2, sw2, hX2⟩
    replace hX2 : RX M2 b s k was n t pa2 sw2 := hX2
    dsimp only [Option.toList, List.cons_append, List.nil_append, List.append_nil]
    refine T.istore (pc' := 152) (q_d dL_acts_1 31 rfl) rfl (by decide) rfl rfl ?_
    refine T.iload_n (pc' := 153) (q_d dL_acts_1 32 rfl) rfl rfl rfl ?_
    refine T.bipush (pc' := 155) (v := nI 64) (q_d dL_acts_1 33 rfl) rfl (by decide) ?_
    refine T.idiv (pc' := 156) (q_d dL_acts_1 34 rfl) rfl (by decide) (pk_div (by omega) (by omega) (by omega)) ?_
    refine T.iconst (pc' := 157) (v := nI 2) (q_d dL_acts_1 35 rfl) rfl (by decide) ?_
    refine T.irem (pc' := 158) (q_d dL_acts_1 36 rfl) rfl (by decide) (pk_rem (by omega) (by omega) (by omega)) ?_
    refine T.istore (pc' := 160) (q_d dL_acts_1 37 rfl) rfl (by decide) rfl rfl ?_
    refine T.aload_n (pc' := 161) (q_d dL_acts_1 38 rfl) rfl rfl rfl ?_
    refine T.iload_n (pc' := 162) (q_d dL_acts_1 39 rfl) rfl rfl rfl ?_
    refine T.iload_n (pc' := 163) (q_d dL_acts_2 0 rfl) rfl rfl rfl ?_
    refine T.irem (pc' := 164) (q_d dL_acts_2 1 rfl) rfl (nI_ne0 (by omega) (by omega)) (pk_rem (by omega) (by omega) (by omega)) ?_
    refine T.iload_n (pc' := 165) (q_d dL_acts_2 2 rfl) rfl rfl rfl ?_
    refine T.bipush (pc' := 167) (v := nI 8) (q_d dL_acts_2 3 rfl) rfl (by decide) ?_
    refine T.idiv (pc' := 168) (q_d dL_acts_2 4 rfl) rfl (by decide) (pk_div (by omega) (by omega) (by omega)) ?_
    refine T.iload_n (pc' := 169) (q_d dL_acts_2 5 rfl) rfl rfl rfl ?_
    refine T.irem (pc' := 170) (q_d dL_acts_2 6 rfl) rfl (nI_ne0 (by omega) (by omega)) (pk_rem (by omega) (by omega) (by omega)) ?_
    refine T.iload (pc' := 172) (q_d dL_acts_2 7 rfl) rfl rfl ?_
    obtain ⟨e, he, hCt⟩ := c_shutN (l := l) hX2 hu hv (w := z / 64 % 2) (by omega) h
    refine T.callV (pc' := 175) (ci := 5) (q_d dL_acts_2 8 rfl) rfl uX5_shut wM_L_61 hCt rfl rfl (by decide) rfl rfl (by decide) (Nat.le_of_ble_eq_true rfl) rfl rfl (fun _ => rfl) ?_
    rintro _ M3 ⟨rfl, pa3, sw3, hX3⟩
    replace hX3 : RX M3 b s k was n t pa3 sw3 := hX3
    dsimp only [Option.toList, List.cons_append, List.nil_append, List.append_nil]
    refine T.istore (pc' := 177) (q_d dL_acts_2 9 rfl) rfl (by decide) rfl rfl ?_
    refine T.iload (pc' := 179) (q_d dL_acts_2 10 rfl) rfl rfl ?_
    refine T.if_lt (tgt := 212) (pc' := 182) (q_d dL_acts_2 11 rfl) rfl (by decide)  (fun h179 => ?_) (fun h179 => ?_)
    · refine T.aload_n (pc' := 213) (q_d dL_acts_2 28 rfl) rfl rfl rfl ?_
      refine T.iconst (pc' := 214) (v := nI 2) (q_d dL_acts_2 29 rfl) rfl (by decide) ?_
      refine T.callV (pc' := 217) (ci := 5) (q_d dL_acts_2 30 rfl) rfl uX5_count wM_L_38 (c_cnt hX3 (by omega) (u := 2) (x := rdN s 21) (by decide) rfl) rfl rfl (by decide) rfl rfl (by decide) (Nat.le_of_ble_eq_true rfl) rfl rfl (fun _ => rfl) ?_
      rintro _ M4 ⟨rfl, pa4, sw4, hX4⟩
      replace hX4 : RX M4 b s k was n t pa4 sw4 := hX4
      dsimp only [Option.toList, List.cons_append, List.nil_append, List.append_nil]
      refine T.iload (pc' := 219) (q_d dL_acts_2 31 rfl) rfl rfl ?_
      refine T.icmp_neN (tgt := 226) (pc' := 222) (q_d dL_acts_2 32 rfl) rfl (by decide) (by omega) (by omega) (fun h219 => ?_) (fun h219 => ?_)
      · exact absurd rfl h219
      · refine T.iconst (pc' := 223) (v := nI 1) (q_d dL_acts_2 33 rfl) rfl (by decide) ?_
        refine T.goto (tgt := 227) (q_d dL_acts_2 34 rfl) (by decide) ?_
        refine T.zret (q_d dL_acts_2 36 rfl) rfl (by decide) rfl rfl ?_
        exact ⟨rfl, s, k, was, hI, h3, pa4, sw4, hX4.le (by omega)⟩
    · rcases he with rfl | rfl <;> exact absurd (by decide) h179
theorem a_set (hb : b + 127 < 2 ^ 30) (hX : RX M b s k was n t pa sw) (hI : IN s) (h3 : 3 ≤ s 0) {y z : Nat} (hz : z < 2147483648) : T l hdX kX mL_acts (AQ b n t) 0 0 228 [some (.ref 0), some (.int (nI y)), some (.int (nI z)), some (.int (nI (s 0))), none, none, none, none, none] [] M := by
  have hw := hX.2.2.2.1
  have w4 := hw.2.2.2.1
  have w5 := hw.2.2.2.2.1
  have w6 := hw.2.2.2.2.2.1
  have g4 : s (4 + z % 2) ≤ 3 := by
    rcases (by omega : z % 2 = 0 ∨ z % 2 = 1) with e | e
    · rw [e]; exact w4
    · rw [e]; exact w5
  have e6 : up s (4 + z % 2) (z / 4 % 4) (4 + 2) = s 6 := up_ne (by omega)
  have e0 : up (up s (4 + z % 2) (z / 4 % 4)) (4 + 2) (1 + z / 16 % 2) 0 = s 0 := by rw [up_ne (by omega), up_ne (by omega)]
  refine T.aload_n (pc' := 229) (q_d dL_acts_2 37 rfl) rfl rfl rfl ?_
  refine T.iload_n (pc' := 230) (q_d dL_acts_2 38 rfl) rfl rfl rfl ?_
  refine T.iconst (pc' := 231) (v := nI 2) (q_d dL_acts_2 39 rfl) rfl (by decide) ?_
  refine T.irem (pc' := 232) (q_d dL_acts_3 0 rfl) rfl (by decide) (pk_rem (by omega) (by omega) (by omega)) ?_
  refine T.iload_n (pc' := 233) (q_d dL_acts_3 1 rfl) rfl rfl rfl ?_
  refine T.iconst (pc' := 234) (v := nI 4) (q_d dL_acts_3 2 rfl) rfl (by decide) ?_
  refine T.idiv (pc' := 235) (q_d dL_acts_3 3 rfl) rfl (by decide) (pk_div (by omega) (by omega) (by omega)) ?_
  refine T.iconst (pc' := 236) (v := nI 4) (q_d dL_acts_3 4 rfl) rfl (by decide) ?_
  refine T.irem (pc' := 237) (q_d dL_acts_3 5 rfl) rfl (by decide) (pk_rem (by omega) (by omega) (by omega)) ?_
  refine T.callV (pc' := 240) (ci := 5) (q_d dL_acts_3 6 rfl) rfl uX5_set wM_L_64 (c_setY hX (u := z % 2) (v := z / 4 % 4) (by omega) (by rw [if_neg (by omega)]; omega)) rfl rfl (by decide) rfl rfl (by decide) (Nat.le_of_ble_eq_true rfl) rfl rfl (fun _ => rfl) ?_
  rintro _ M2 ⟨rfl, pa2, sw2, hX2⟩
  replace hX2 : RX M2 b (up s (4 + z % 2) (z / 4 % 4)) (pushK k) (pushW k was s) n t pa2 sw2 := hX2
  dsimp only [Option.toList, List.cons_append, List.nil_append, List.append_nil]
  refine T.if_ltN (tgt := 264) (pc' := 243) (q_d dL_acts_3 7 rfl) rfl (by decide) (by omega) ?_
  refine T.aload_n (pc' := 244) (q_d dL_acts_3 8 rfl) rfl rfl rfl ?_
  refine T.iconst (pc' := 245) (v := nI 2) (q_d dL_acts_3 9 rfl) rfl (by decide) ?_
  refine T.iconst (pc' := 246) (v := nI 1) (q_d dL_acts_3 10 rfl) rfl (by decide) ?_
  refine T.iload_n (pc' := 247) (q_d dL_acts_3 11 rfl) rfl rfl rfl ?_
  refine T.bipush (pc' := 249) (v := nI 16) (q_d dL_acts_3 12 rfl) rfl (by decide) ?_
  refine T.idiv (pc' := 250) (q_d dL_acts_3 13 rfl) rfl (by decide) (pk_div (by omega) (by omega) (by omega)) ?_
  refine T.iconst (pc' := 251) (v := nI 2) (q_d dL_acts_3 14 rfl) rfl (by decide) ?_
  refine T.irem (pc' := 252) (q_d dL_acts_3 15 rfl) rfl (by decide) (pk_rem (by omega) (by omega) (by omega)) ?_
  refine T.iadd (pc' := 253) (q_d dL_acts_3 16 rfl) rfl (nI_add _ _) ?_
  refine T.callV (pc' := 256) (ci := 5) (q_d dL_acts_3 17 rfl) rfl uX5_set wM_L_64 (c_setY hX2 (u := 2) (v := 1 + z / 16 % 2) (by decide) (by rw [if_pos rfl]; omega)) rfl rfl (by decide) rfl rfl (by decide) (Nat.le_of_ble_eq_true rfl) rfl rfl (fun _ => rfl) ?_
  rintro _ M3 ⟨rfl, pa3, sw3, hX3⟩
  replace hX3 : RX M3 b (up (up s (4 + z % 2) (z / 4 % 4)) (4 + 2) (1 + z / 16 % 2)) (pushK (pushK k)) (pushW (pushK k) (pushW k was s) (up s (4 + z % 2) (z / 4 % 4))) n t pa3 sw3 := hX3
  dsimp only [Option.toList, List.cons_append, List.nil_append, List.append_nil]
  rw [e6]
  refine T.iconst (pc' := 257) (v := nI 1) (q_d dL_acts_3 18 rfl) rfl (by decide) ?_
  refine T.icmp_ltN (tgt := 264) (pc' := 260) (q_d dL_acts_3 19 rfl) rfl (by decide) (by omega) (by omega) (fun h257 => ?_) (fun h257 => ?_)
  · exact absurd h257 (by omega)
  · refine T.iconst (pc' := 261) (v := nI 1) (q_d dL_acts_3 20 rfl) rfl (by decide) ?_
    refine T.goto (tgt := 265) (q_d dL_acts_3 21 rfl) (by decide) ?_
    refine T.zret (q_d dL_acts_3 23 rfl) rfl (by decide) rfl rfl ?_
    exact ⟨rfl, _, _, _, (hI.set (by omega)).set (by decide), (by rw [e0]; exact h3), pa3, sw3, hX3.le (by omega)⟩
theorem a_hunt (hb : b + 127 < 2 ^ 30) (hX : RX M b s k was n t pa sw) (hI : IN s) (h3 : 3 ≤ s 0) {y z : Nat} (hz : z < 2147483648) : T l hdX kX mL_acts (AQ b n t) 0 0 266 [some (.ref 0), some (.int (nI y)), some (.int (nI z)), some (.int (nI (s 0))), none, none, none, none, none] [] M := by
  have w7 := hX.2.2.2.1.1
  have w0 := p2_le w7
  have h1n : 1 ≤ 2 ^ s 0 := Nat.two_pow_pos _
  have hzm := Nat.mod_lt z (show 0 < 2 ^ s 0 by omega)
  refine T.aload_n (pc' := 267) (q_d dL_acts_3 24 rfl) rfl rfl rfl ?_
  refine T.iload_n (pc' := 268) (q_d dL_acts_3 25 rfl) rfl rfl rfl ?_
  refine T.iconst (pc' := 269) (v := nI 1) (q_d dL_acts_3 26 rfl) rfl (by decide) ?_
  refine T.iload_n (pc' := 270) (q_d dL_acts_3 27 rfl) rfl rfl rfl ?_
  refine T.ishl (pc' := 271) (q_d dL_acts_3 28 rfl) rfl (nN_shl _ (by omega)) ?_
  rw [Nat.one_shiftLeft]
  refine T.irem (pc' := 272) (q_d dL_acts_3 29 rfl) rfl (nI_ne0 (by omega) (by omega)) (pk_rem (by omega) (by omega) (by omega)) ?_
  refine T.iload_n (pc' := 273) (q_d dL_acts_3 30 rfl) rfl rfl rfl ?_
  refine T.sipush (pc' := 276) (v := nI 128) (q_d dL_acts_3 31 rfl) rfl (by decide) ?_
  refine T.idiv (pc' := 277) (q_d dL_acts_3 32 rfl) rfl (by decide) (pk_div (by omega) (by omega) (by omega)) ?_
  refine T.callS (pc' := 280) (q_d dL_acts_3 33 rfl) rfl uL_hunts wM_L_67 (c_hunts hb hX hzm (z := z / 128) (by omega)) rfl rfl (by decide) (Nat.le_of_ble_eq_true rfl) rfl rfl (fun _ => rfl) ?_
  rintro _ M2 ⟨rfl, s', k', was', hcy, pa2, sw2, hX2⟩
  dsimp only [Option.toList, List.cons_append, List.nil_append, List.append_nil]
  refine T.zret (q_d dL_acts_3 34 rfl) rfl (by decide) rfl rfl ?_
  exact ⟨rfl, s', k', was', hI.Cy hcy, (by rw [hcy 0 (by decide) (by decide) (by decide) (by decide)]; exact h3), pa2, sw2, hX2⟩
theorem c_acts (hb : b + 127 < 2 ^ 30) (hX : RX M b s k was n t pa sw) (hI : IN s) (h3 : 3 ≤ s 0) {y : Nat} (hy : y < 2147483648) : Ct l hdX kX mL_acts [.ref 0, .int (nI y)] M (AQ b n t) := by
  refine Ct.of [some (.ref 0), some (.int (nI y)), none, none, none, none, none, none, none] (by decide +kernel) (fun h => absurd h (by decide)) (Nat.le_of_ble_eq_true rfl) rfl ?_
  have hz : y / 8 < 2147483648 := by omega
  refine T.iload_n (pc' := 1) (q_d dL_acts_0 0 rfl) rfl rfl rfl ?_
  refine T.bipush (pc' := 3) (v := nI 8) (q_d dL_acts_0 1 rfl) rfl (by decide) ?_
  refine T.idiv (pc' := 4) (q_d dL_acts_0 2 rfl) rfl (by decide) (pk_div (by omega) (by omega) (by omega)) ?_
  refine T.istore_n (pc' := 5) (q_d dL_acts_0 3 rfl) rfl rfl (by decide) rfl rfl ?_
  refine T.aload_n (pc' := 6) (q_d dL_acts_0 4 rfl) rfl rfl rfl ?_
  refine T.iconst (pc' := 7) (v := nI 0) (q_d dL_acts_0 5 rfl) rfl (by decide) ?_
  refine T.callV (pc' := 10) (ci := 5) (q_d dL_acts_0 6 rfl) rfl uX5_count wM_L_38 (c_cnt hX (by omega) (u := 0) (x := s 0) (by decide) rfl) rfl rfl (by decide) rfl rfl (by decide) (Nat.le_of_ble_eq_true rfl) rfl rfl (fun _ => rfl) ?_
  rintro _ M2 ⟨rfl, pa2, sw2, hX2⟩
  replace hX2 : RX M2 b s k was n t pa2 sw2 := hX2
  dsimp only [Option.toList, List.cons_append, List.nil_append, List.append_nil]
  refine T.istore_n (pc' := 11) (q_d dL_acts_0 7 rfl) rfl rfl (by decide) rfl rfl ?_
  refine T.iload_n (pc' := 12) (q_d dL_acts_0 8 rfl) rfl rfl rfl ?_
  refine T.bipush (pc' := 14) (v := nI 8) (q_d dL_acts_0 9 rfl) rfl (by decide) ?_
  refine T.irem (pc' := 15) (q_d dL_acts_0 10 rfl) rfl (by decide) (pk_rem (by omega) (by omega) (by omega)) ?_
  rcases (by omega : y % 8 = 0 ∨ y % 8 = 1 ∨ y % 8 = 2 ∨ y % 8 = 3 ∨ y % 8 = 4 ∨ 4 < y % 8) with e | e | e | e | e | e
  · rw [e]
    refine T.tableIn (tgt := 48) (q_d dL_acts_0 11 rfl) (by decide +kernel) (by decide +kernel) (off := 33) (by decide +kernel) (by decide) ?_
    exact a_place hb hX2 hI h3 hz
  · rw [e]
    refine T.tableIn (tgt := 76) (q_d dL_acts_0 11 rfl) (by decide +kernel) (by decide +kernel) (off := 61) (by decide +kernel) (by decide) ?_
    exact a_road hb hX2 hI h3 hz
  · rw [e]
    refine T.tableIn (tgt := 76) (q_d dL_acts_0 11 rfl) (by decide +kernel) (by decide +kernel) (off := 61) (by decide +kernel) (by decide) ?_
    exact a_road hb hX2 hI h3 hz
  · rw [e]
    refine T.tableIn (tgt := 145) (q_d dL_acts_0 11 rfl) (by decide +kernel) (by decide +kernel) (off := 130) (by decide +kernel) (by decide) ?_
    exact a_shut hb hX2 hI h3 hz
  · rw [e]
    refine T.tableIn (tgt := 228) (q_d dL_acts_0 11 rfl) (by decide +kernel) (by decide +kernel) (off := 213) (by decide +kernel) (by decide) ?_
    exact a_set hb hX2 hI h3 hz
  · refine T.tableOut (tgt := 266) (q_d dL_acts_0 11 rfl) (sw_out (by omega) e (by decide)) (by decide) ?_
    exact a_hunt hb hX2 hI h3 hz
end Acts
end
section
/-! THE CLAIM OUT OF ONE WALK OF THE LAW'S BODY. Your part is whole_start (and what it stands on); all else here is the same for every law, but numbers. -/
def R_law : String := "BlindHuntsLaw"
def lw_P (b : Addr) (xs : List Int32) (args : Array Value) (s : State) : Prop := args = #[.ref b] ∧ s.IntsAt b xs ∧ xs.length ≤ 260 ∧ (Jvm.Cond.and given_1 narrow_1).before args s = true
def lw_Q (_ : Array Value) (s : State) (o : Outcome) (t : State) : Prop := o = .returned (some (.int 1)) ∧ Framed s o t [] 600000 7302250
def lw_Z (below : List Frame) (a : Array Value) (s : State) : State → Prop := fun t => ∃ o, t.status = .running ∧ Ended t below o ∧ lw_Q a s o t
/-- the law's own end, with 1 on the stack, nothing written that was there before, its room as the claim has it -/
theorem lw_ret {p : Program} {l : Launch} {e : Env} {s : State} {m : MethodId} {below : List Frame} {meth : Method} {c : Code} {b : Nat} (hx : p.tables.exec = Jvm.exec) (hb : c.code = code) (hr : meth.sig.returnType = ret) (hlocks : meth.locks = false) {pc : Nat} {H : Heap} {ls : Array Slot} (hdg : decode code pc = .ok (.ireturn, 1)) : W p l e room_1 s m #[Value.ref b] below meth c H [] 600000 7302250 (lw_Z below #[Value.ref b] s) (F0 m pc ls [.int 1]) := by
  intro T hT X
  obtain ⟨fs, hret, hrun, hended, hW, hframe⟩ := X.leave (v := some (.int 1)) (hlocks := hlocks) (fun h => by rw [hr] at h; cases h)
  have hmeth' : T.vm.method? m = some meth := X.method'
  refine ⟨T.setFrames fs, ?_, .returned (some (.int 1)), hrun, hended, rfl, ⟨_, rfl⟩, hW, hframe⟩
  jvm_step X.here [X.here.top, hx, hb, hdg, hmeth', hr, ret, narrow_b1]
  (try refine ⟨rfl, ?_⟩); (try refine ⟨rfl, ?_⟩)
  first | (intro acts; rw [hret _ acts rfl rfl rfl]) | rw [hret _ _ rfl rfl rfl]
  exact Steps.refl _
/-- what holds at the law's entry: the machine, the code, the tables' words (any of lw_tbl by 'hts w (by decide +kernel)'), the script of L ints xs at the cell b, what the Statement gives of the start (any of its parts by flat_of_before) -/
def lw_At (p : Program) (s : State) (m : MethodId) (meth : Method) (c : Code) (b L : Nat) (xs : Nat → Int32) : Prop :=
  p.tables.exec = Jvm.exec ∧ c.code = code ∧ meth.sig.returnType = ret ∧ c.maxLocals = 5 ∧ s.vm.findClass R_law = some m.cls ∧ (∀ w ∈ lw_tbl, w.before #[Value.ref b] s = true) ∧ va_X b L xs s s.heap ∧ b < s.heap.size ∧ meth.locks = false ∧ (Jvm.Cond.and given_1 narrow_1).before #[Value.ref b] s = true
end
section
/-! the law's own walk: a world, a BlindHunts from the heap's first free place on -/
theorem lGood {μ' : qMI} (h : Cond.code μ'.2.1 μ'.1 μ'.2.2.1 μ'.2.2.2.1 ∈ WS) : GoodIn WS (qWs μ') := by
  have g : ∀ w : Cond, w ∈ WS → w ∈ WS ∧ ((w.onTables && w.keeps) = true ∨ ∃ ty, w = .arrayClass ty) := fun w h => ⟨h, good_of_word (List.mem_filter.mp h).2⟩
  intro w hw
  rcases List.mem_cons.mp hw with rfl | hw
  · exact g _ h
  · exact g _ hw
section Law
variable {p : Program} {l : Launch} {e : Env} {s : State} {m : MethodId} {below : List Frame} {meth : Method} {c : Code} {b L : Nat} {xs : Nat → Int32} {D : va_G} {tc : Nat → ClassId}
theorem lw_callV {hd : qH} {B n : Nat} {M : qM} {μ' : qMI} {Q' : Option Value → qM → Prop} {index na : Nat} {as st stk : List Value} {ci N : Nat} {F : u_T} {H : Heap} {locs : List Loc} {cs sl pc : Nat} {ls : Array Slot} {Qs : State → Prop}
    (C0 : lw_At p s m meth c b L xs) (hK : va_K D vwCl (qT tc) s) (d : decode code pc = .ok (.invokevirtual index, 3)) (hm : qVirt μ' na) (hl : Cond.methodLink RL index μ'.2.1 ∈ WS) (hC : Ct l hd (n, false, 0, 0) μ' (.ref 0 :: as) M Q') (hs : stk = (as.map (qV B)).reverse ++ .ref B :: st) (hn : as.length = na) (h0 : 0 < n) (hh : hd 0 = .inl ci) (hc : vwCl[ci]? = some (μ'.2.1.cls, F, N)) (hls : ls.size = 5)
    (hR : μ'.2.2.2.2.cells = 0 ∧ μ'.2.2.2.2.slots = 0 ∧ μ'.2.2.2.2.frames + 1 ≤ 11 ∧ 8 + (μ'.2.2.1 + 11) + μ'.2.2.2.2.locals ≤ 452 ∧ cs ≤ 600000 ∧ sl ≤ 7302250) (hst : (st.map fun v => v.category).sum ≤ 8)
    (hP : va_P D vwCl (qW hd tc B n M) H) (hS : va_S (fun q => s.heap.size ≤ q) s.heap H locs) (hB : s.heap.size ≤ B)
    (k : ∀ (v : Option Value) (M' : qM) (H1 : Heap) (locs1 : List Loc), Q' v M' → va_P D vwCl (qW hd tc B n M') H1 → va_S (fun q => s.heap.size ≤ q) s.heap H1 locs1 → (∀ q : Nat, q < H.size → ¬ (B ≤ q ∧ q < B + n) → H1[q]? = H[q]?) → W p l e room_1 s m #[.ref b] below meth c H1 locs1 cs sl Qs (F0 m (pc + 3) ls ((v.map (qV B)).toList ++ st))) :
    W p l e room_1 s m #[.ref b] below meth c H locs cs sl Qs (F0 m pc ls stk) := by
  subst hs
  obtain ⟨hx, hb, hr, hml, hown, hts, hX, hbl, hlocks, hgv⟩ := id C0
  have hts9 : ∀ w ∈ WS, w.before #[.ref b] s = true := fun w h => hts w (List.mem_filter.mp h).1
  have hC9 := hC D tc B H.size
  have hPc : ∀ U : State, U.heap = H → s.WarmedH U.vm → va_Pc ((.ref 0 :: as).map (qV B)) (fun U => U.heap.size = H.size ∧ ((n, false, 0, 0).2.1 = true → H.size = B + n ∧ qN U) ∧ va_P D vwCl (qW hd tc B n M) U.heap ∧ va_K D vwCl (qT tc) U) ((.ref 0 :: as).map (qV B)).toArray U := by
    intro U hU hW
    exact ⟨rfl, by rw [hU], (fun h => by cases h), by rw [hU]; exact hP, va_K.moved hW.alike hK⟩
  have hcat : 2 * (F0 m pc ls ([] : List Value)).monitorRoom + (st.map fun v => v.category).sum ≤ 8 := lv_room hst
  have hG : GoodIn WS (wsV RL index μ'.2.1.cls μ'.2.1 (qWs μ')) := by
    have g : ∀ w : Cond, w ∈ WS → w ∈ WS ∧ ((w.onTables && w.keeps) = true ∨ ∃ ty, w = .arrayClass ty) := fun w h => ⟨h, good_of_word (List.mem_filter.mp h).2⟩
    refine goodIn_app9 (fun w hw => ?_) (lGood hm.2.2.1)
    rcases List.mem_cons.mp hw with rfl | hw
    · exact g _ hl
    rcases List.mem_cons.mp hw with rfl | hw
    · exact g _ hm.1
    rcases List.mem_cons.mp hw with rfl | hw
    · exact g _ hm.2.1
    rcases List.mem_cons.mp hw with rfl | hw
    · exact g _ hm.2.2.2.1
    cases hw
  have hown9 : s.vm.findClass RL = some m.cls := hown
  have hrun := va_runV (p := p) (l := l) (e := e) (R := room_1) (below := below) (meth := meth) (H := H) (locs := locs) (cells := cs) (slots := sl) (C := μ'.2.1.cls) (b := B) (As := as.map (qV B)) (rest := st) (g := F0 m pc ls ((as.map (qV B)).reverse ++ .ref B :: st)) (Ts := WS) ⟨hx, hb, hml, hown9, hts9⟩ hC9 (cwV na hts9 hG rfl hR.1 hR.2.1 ⟨rfl, hm.2.2.2.2⟩ ⟨hR.2.2.1, hR.2.2.2.1⟩)
    ⟨q_blind, va_recv (fs := qF B M 0 (qK ci)) hK hP (ci := ci) (q0 := 0) hc (by rw [qW_get h0]; simp only [qE, hh]; rfl), hPc⟩ rfl (by simpa using hn) hls rfl hcat d ⟨hR.2.2.2.2.1, hR.2.2.2.2.2⟩
  intro U hU X
  obtain ⟨v, st₀, t, T', Lc, e0, X', hL, e1, e2, ⟨⟨v', M', hv, hQ, hz, hP1⟩, hF⟩, stp⟩ := hrun U hU X
  have hlt : ∀ q : Nat, qFr B n H.size q → s.heap.size ≤ q := by
    intro q hq
    rcases hq with ⟨h1, h2⟩ | h1
    · omega
    · exact Nat.le_trans hS.1 h1
  have hF1 : H.size ≤ t.heap.size := by rw [← e0]; exact hF.1
  have hF2 : ∀ q : Nat, q < H.size → ¬ qFr B n H.size q → t.heap[q]? = H[q]? := by
    intro q h1 h2
    have := hF.2 q (by rw [e0]; exact h1) (by rw [e0]; exact h2)
    rw [e0] at this; exact this
  have hvv : v = v'.map (qV B) := Outcome.returned.inj hv
  subst hvv
  have hS1 : va_S (fun q => s.heap.size ≤ q) s.heap T'.heap (locs ++ Lc) := by
    refine ⟨Nat.le_trans hS.1 (by rw [e1]; exact hF1), fun q h1 h2 => ?_, fun q hq => ?_⟩
    · rw [e1, hF2 q (Nat.lt_of_lt_of_le h1 hS.1) (fun z => h2 (hlt q z))]
      exact hS.2.1 q h1 h2
    · rcases List.mem_append.mp hq with h | h
      · exact hS.2.2 q h
      · exact hlt _ (hL q h)
  have hkept : ∀ q : Nat, q < H.size → ¬ (B ≤ q ∧ q < B + n) → T'.heap[q]? = H[q]? := by
    intro q h1 h2
    rw [e1]
    exact hF2 q h1 (fun z => z.elim h2 (fun z => by omega))
  obtain ⟨t2, a1, b1⟩ := k v' M' T'.heap (locs ++ Lc) hQ (by rw [e1]; exact hP1) hS1 hkept T' rfl X'
  exact ⟨t2, stp t2 a1, b1⟩
theorem lw_make {hd : qH} {B kc ks : Nat} {μ' : qMI} {Q' : Option Value → qM → Prop} {i1 i2 : Nat} {st : List Value} {ci N : Nat} {F : u_T} {H : Heap} {locs : List Loc} {cs sl pc : Nat} {ls : Array Slot} {Qs : State → Prop}
    (C0 : lw_At p s m meth c b L xs) (hK : va_K D vwCl (qT tc) s) (hN : qN s) (d0 : decode code pc = .ok (.new i1, 3)) (d1 : decode code (pc + 3) = .ok (.dup, 1)) (d2 : decode code (pc + 3 + 1) = .ok (.invokespecial i2, 3)) (hm : qCtor μ' 0) (hl : Cond.methodLink RL i2 μ'.2.1 ∈ WS) (hC : Ct l hd (1, true, kc, ks) μ' [.ref 0] (MM [] []) Q') (hh : hd 0 = .inl ci) (hc : vwCl[ci]? = some (μ'.2.1.cls, F, N))
    (hin : ∀ w ∈ u_ws μ'.2.1.cls F N, w ∈ WS) (ty0 : Nat → FieldType) (hty : ∀ k, k < N → parseFieldDescriptor (F k).2.2.1 = some (ty0 k)) (h1 : Cond.classLink RL i1 μ'.2.1.cls ∈ WS) (h2 : Cond.instantiable μ'.2.1.cls N ∈ WS) (hfs : ∀ j, j < N → ((qK ci)[j]? = some true ∧ defaultValue (ty0 j) = .null) ∨ ((qK ci)[j]? = some false ∧ defaultValue (ty0 j) = .int 0)) (hls : ls.size = 5)
    (hR : μ'.2.2.2.2.cells = kc ∧ μ'.2.2.2.2.slots = ks ∧ μ'.2.2.2.2.frames + 1 ≤ 11 ∧ 8 + (μ'.2.2.1 + 11) + μ'.2.2.2.2.locals ≤ 452 ∧ cs + 1 + kc ≤ 600000 ∧ sl + N + ks ≤ 7302250) (hst : ((Value.ref B :: st).map fun v => v.category).sum ≤ 8)
    (hB : H.size = B) (hS : va_S (fun q => s.heap.size ≤ q) s.heap H locs)
    (k : ∀ (v : Option Value) (M' : qM) (H1 : Heap) (locs1 : List Loc), Q' v M' → va_P D vwCl (qW hd tc B (1 + kc) M') H1 → va_S (fun q => s.heap.size ≤ q) s.heap H1 locs1 → H1.size = B + 1 + kc → (∀ q : Nat, q < B → H1[q]? = H[q]?) → W p l e room_1 s m #[.ref b] below meth c H1 locs1 (cs + 1 + kc) (sl + N + ks) Qs (F0 m (pc + 3 + 1 + 3) ls ((v.map (qV B)).toList ++ .ref B :: st))) :
    W p l e room_1 s m #[.ref b] below meth c H locs cs sl Qs (F0 m pc ls st) := by
  obtain ⟨hx, hb, hr, hml, hown, hts, hX, hbl, hlocks, hgv⟩ := id C0
  have hts9 : ∀ w ∈ WS, w.before #[.ref b] s = true := fun w h => hts w (List.mem_filter.mp h).1
  have hown9 : s.vm.findClass RL = some m.cls := hown
  have hKn := hK.1 ci _ hc
  refine W.newcK hx hb hown9 (hts9 _ h1) (hts9 _ h2) (hts9 _ hm.2.2.2.2.1) rfl d0 (show cs + 1 ≤ 600000 by omega) (show sl + N ≤ 7302250 by omega) hKn.2.1 rfl fun H1 kC hkC e1 z1 o1 => ?_
  have hP : va_P D vwCl (qW hd tc B 1 (MM [] [])) H1 := by
    intro k9 q hk
    obtain ⟨g1, rfl⟩ := qW_inv hk
    rw [show k9 = 0 by omega]
    simp only [qE, hh]
    refine ⟨_, hc, ?_⟩
    show t_OB (B + 0) _ _ _ _ _
    rw [Nat.add_zero, ← hB]
    refine (u_born ty0 hts9 hin hKn hkC e1 hty).to (fun j hj => ?_)
    show defaultValue (ty0 j) = (qF H.size (MM [] []) 0 (qK ci)).getD j .null
    rcases hfs j hj with ⟨g1, g2⟩ | ⟨g1, g2⟩
    · rw [List.getD_eq_getElem?_getD, qF_get g1, g2]; rfl
    · rw [List.getD_eq_getElem?_getD, qF_get g1, g2]; rfl
  have hS1 : va_S (fun q => s.heap.size ≤ q) s.heap H1 locs := ⟨Nat.le_trans hS.1 (by omega), fun q h1 h2 => (o1 q (Nat.lt_of_lt_of_le h1 hS.1)).trans (hS.2.1 q h1 h2), hS.2.2⟩
  refine lv_dup hx hb d1 rfl ?_
  have hC9 := hC D tc B H1.size
  have hPc : ∀ U : State, U.heap = H1 → s.WarmedH U.vm → va_Pc (([.ref 0] : List Value).map (qV B)) (fun U => U.heap.size = H1.size ∧ ((1, true, kc, ks).2.1 = true → H1.size = B + 1 ∧ qN U) ∧ va_P D vwCl (qW hd tc B 1 (MM [] [])) U.heap ∧ va_K D vwCl (qT tc) U) (([.ref 0] : List Value).map (qV B)).toArray U := by
    intro U hU hW
    exact ⟨rfl, by rw [hU], (fun _ => ⟨by omega, qN.moved hW hN⟩), by rw [hU]; exact hP, va_K.moved hW.alike hK⟩
  have hcat : 2 * (F0 m (pc + 3 + 1) ls ([] : List Value)).monitorRoom + ((Value.ref B :: st).map fun v => v.category).sum ≤ 8 := lv_room hst
  have hrun := va_runI (p := p) (l := l) (e := e) (R := room_1) (below := below) (meth := meth) (H := H1) (locs := locs) (cells := cs + 1) (slots := sl + N) (b := B) (As := []) (rest := .ref B :: st) (g := F0 m (pc + 3 + 1) ls (.ref B :: .ref B :: st)) (Ts := WS) ⟨hx, hb, hml, hown9, hts9⟩ hC9 (cwI 0 hts9 (lGood hm.2.2.2.1) (by unfold qWs; rw [hm.2.2.1]) hR.1 hR.2.1 (hts9 _ hm.2.2.2.2.1) (hts9 _ hl) (hts9 _ hm.1) hm.2.1 hm.2.2.2.2.2 ⟨hR.2.2.1, hR.2.2.2.1⟩)
    ⟨q_blind, hPc⟩ rfl rfl hls rfl hcat d2 ⟨hR.2.2.2.2.1, hR.2.2.2.2.2⟩
  intro U hU X
  subst hB
  obtain ⟨v, st₀, t, T', Lc, e0, X', hL, e2, e3, ⟨⟨v', M', hv, hQ, hz, hP1⟩, hF⟩, stp⟩ := hrun U hU X
  have hlt : ∀ q : Nat, qFr H.size 1 H1.size q → s.heap.size ≤ q := by
    intro q hq
    have := hS.1
    rcases hq with ⟨h1, h2⟩ | h1 <;> omega
  have hF1 : H1.size ≤ t.heap.size := by rw [← e0]; exact hF.1
  have hF2 : ∀ q : Nat, q < H1.size → ¬ qFr H.size 1 H1.size q → t.heap[q]? = H1[q]? := by
    intro q h1 h2
    have := hF.2 q (by rw [e0]; exact h1) (by rw [e0]; exact h2)
    rw [e0] at this; exact this
  have hvv : v = v'.map (qV H.size) := Outcome.returned.inj hv
  subst hvv
  have hS2 : va_S (fun q => s.heap.size ≤ q) s.heap T'.heap (locs ++ Lc) := by
    refine ⟨Nat.le_trans hS1.1 (by rw [e2]; exact hF1), fun q h1 h2 => ?_, fun q hq => ?_⟩
    · rw [e2, hF2 q (Nat.lt_of_lt_of_le h1 hS1.1) (fun z => h2 (hlt q z))]
      exact hS1.2.1 q h1 h2
    · rcases List.mem_append.mp hq with h | h
      · exact hS1.2.2 q h
      · exact hlt _ (hL q h)
  have hz9 : T'.heap.size = H.size + 1 + kc := by rw [e2]; exact hz rfl
  have hkept : ∀ q : Nat, q < H.size → T'.heap[q]? = H[q]? := by
    intro q h1
    rw [e2, hF2 q (by omega) (fun z => by rcases z with ⟨z1, z2⟩ | z1 <;> omega)]
    exact o1 q h1
  obtain ⟨t2, a1, b1⟩ := k v' M' T'.heap (locs ++ Lc) hQ (by rw [e2]; exact hP1) hS2 hz9 hkept T' rfl X'
  exact ⟨t2, stp t2 a1, b1⟩
theorem lw_callS {hd : qH} {B n : Nat} {M : qM} {μ' : qMI} {Q' : Option Value → qM → Prop} {index na : Nat} {as st stk : List Value} {H : Heap} {locs : List Loc} {cs sl pc : Nat} {ls : Array Slot} {Qs : State → Prop}
    (C0 : lw_At p s m meth c b L xs) (hK : va_K D vwCl (qT tc) s) (d : decode code pc = .ok (.invokestatic index, 3)) (hm : qStat μ' na) (hl : Cond.methodLink RL index μ'.2.1 ∈ WS) (hC : Ct l hd (n, false, 0, 0) μ' as M Q') (hs : stk = (as.map (qV B)).reverse ++ st) (hn : as.length = na) (hls : ls.size = 5)
    (hR : μ'.2.2.2.2.cells = 0 ∧ μ'.2.2.2.2.slots = 0 ∧ μ'.2.2.2.2.frames + 1 ≤ 11 ∧ 8 + (μ'.2.2.1 + 11) + μ'.2.2.2.2.locals ≤ 452 ∧ cs ≤ 600000 ∧ sl ≤ 7302250) (hst : (st.map fun v => v.category).sum ≤ 8)
    (hP : va_P D vwCl (qW hd tc B n M) H) (hS : va_S (fun q => s.heap.size ≤ q) s.heap H locs) (hB : s.heap.size ≤ B)
    (k : ∀ (v : Option Value) (M' : qM) (H1 : Heap) (locs1 : List Loc), Q' v M' → va_P D vwCl (qW hd tc B n M') H1 → va_S (fun q => s.heap.size ≤ q) s.heap H1 locs1 → W p l e room_1 s m #[.ref b] below meth c H1 locs1 cs sl Qs (F0 m (pc + 3) ls ((v.map (qV B)).toList ++ st))) :
    W p l e room_1 s m #[.ref b] below meth c H locs cs sl Qs (F0 m pc ls stk) := by
  subst hs
  obtain ⟨hx, hb, hr, hml, hown, hts, hX, hbl, hlocks, hgv⟩ := id C0
  have hts9 : ∀ w ∈ WS, w.before #[.ref b] s = true := fun w h => hts w (List.mem_filter.mp h).1
  have hC9 := hC D tc B H.size
  have hPc : ∀ U : State, U.heap = H → s.WarmedH U.vm → va_Pc (as.map (qV B)) (fun U => U.heap.size = H.size ∧ ((n, false, 0, 0).2.1 = true → H.size = B + n ∧ qN U) ∧ va_P D vwCl (qW hd tc B n M) U.heap ∧ va_K D vwCl (qT tc) U) (as.map (qV B)).toArray U := by
    intro U hU hW
    exact ⟨rfl, by rw [hU], (fun h => by cases h), by rw [hU]; exact hP, va_K.moved hW.alike hK⟩
  have hcat : 2 * (F0 m pc ls ([] : List Value)).monitorRoom + (st.map fun v => v.category).sum ≤ 8 := lv_room hst
  have hG : GoodIn WS (va_wsS RL index μ'.2.1 (qWs μ')) := by
    have g : ∀ w : Cond, w ∈ WS → w ∈ WS ∧ ((w.onTables && w.keeps) = true ∨ ∃ ty, w = .arrayClass ty) := fun w h => ⟨h, good_of_word (List.mem_filter.mp h).2⟩
    refine goodIn_app9 (fun w hw => ?_) (lGood hm.2.1)
    rcases List.mem_cons.mp hw with rfl | hw
    · exact g _ hl
    rcases List.mem_cons.mp hw with rfl | hw
    · exact g _ hm.1
    rcases List.mem_cons.mp hw with rfl | hw
    · exact g _ hm.2.2.1
    cases hw
  have hown9 : s.vm.findClass RL = some m.cls := hown
  have hrun := va_runS (p := p) (l := l) (e := e) (R := room_1) (below := below) (meth := meth) (H := H) (locs := locs) (cells := cs) (slots := sl) (As := as.map (qV B)) (rest := st) (g := F0 m pc ls ((as.map (qV B)).reverse ++ st)) (Ts := WS) ⟨hx, hb, hml, hown9, hts9⟩ hC9 (va_cwS na hts9 hG rfl hR.1 hR.2.1 hm.2.2.2 ⟨hR.2.2.1, hR.2.2.2.1⟩)
    ⟨q_blind, hPc⟩ rfl (by simpa using hn) hls rfl hcat d ⟨hR.2.2.2.2.1, hR.2.2.2.2.2⟩
  intro U hU X
  obtain ⟨v, st₀, t, T', Lc, e0, X', hL, e1, e2, ⟨⟨v', M', hv, hQ, hz, hP1⟩, hF⟩, stp⟩ := hrun U hU X
  have hlt : ∀ q : Nat, qFr B n H.size q → s.heap.size ≤ q := by
    intro q hq
    rcases hq with ⟨h1, h2⟩ | h1
    · omega
    · exact Nat.le_trans hS.1 h1
  have hF1 : H.size ≤ t.heap.size := by rw [← e0]; exact hF.1
  have hF2 : ∀ q : Nat, q < H.size → ¬ qFr B n H.size q → t.heap[q]? = H[q]? := by
    intro q h1 h2
    have := hF.2 q (by rw [e0]; exact h1) (by rw [e0]; exact h2)
    rw [e0] at this; exact this
  have hvv : v = v'.map (qV B) := Outcome.returned.inj hv
  subst hvv
  have hS1 : va_S (fun q => s.heap.size ≤ q) s.heap T'.heap (locs ++ Lc) := by
    refine ⟨Nat.le_trans hS.1 (by rw [e1]; exact hF1), fun q h1 h2 => ?_, fun q hq => ?_⟩
    · rw [e1, hF2 q (Nat.lt_of_lt_of_le h1 hS.1) (fun z => h2 (hlt q z))]
      exact hS.2.1 q h1 h2
    · rcases List.mem_append.mp hq with h | h
      · exact hS.2.2 q h
      · exact hlt _ (hL q h)
  obtain ⟨t2, a1, b1⟩ := k v' M' T'.heap (locs ++ Lc) hQ (by rw [e1]; exact hP1) hS1 T' rfl X'
  exact ⟨t2, stp t2 a1, b1⟩
/-- a number of the script, or one of its own making: 0 to 2147483647 -/
def cellQ : Array Value → State → Outcome → State → Prop := fun _ st oc t => (∃ y, y < 2147483648 ∧ oc = .returned (some (.int (nI y)))) ∧ va_F (fun _ => False) st t
def cellP (b L : Nat) (xs : Nat → Int32) (k : Nat) : Array Value → State → Prop := va_Pc [.ref b, .int (nI k)] (fun U => va_X b L xs U U.heap ∧ b < U.heap.size)
theorem and31_lt (a : Nat) : a &&& 2147483647 < 2147483648 := Nat.lt_of_le_of_lt Nat.and_le_right (by decide)
theorem c_cell (hL : L ≤ 260) {k : Nat} (hk : k < 1000) : Met l yL_cell (qWs mL_cell) mL_cell.2.2.2.2 (cellP b L xs k) cellQ 0 0 (fun _ => False) := by
  refine Met.ofW (cc := cL_cell) (maxL := 2) (ret := some .int) (by decide +kernel) rfl ?_
  intro p e s m args below meth c s₁ Bd hml hv
  obtain ⟨rfl, hX, hbl⟩ := hv
  have hts : ∀ w ∈ WS, w.before _ s = true := fun w h => atoms_spec (ws := qWs mL_cell) Bd.pre w (List.mem_cons_of_mem _ h)
  have hown : s.vm.findClass RL = some m.cls := findClass_of_methodNamed Bd.named
  have hx := Bd.exec
  have hb := Bd.bytes
  have hr := Bd.returns
  have hlk := Bd.notSynchronized
  have hl := lv_entry ([.ref b, .int (nI k)]) (n := 2) (Nat.le_of_ble_eq_true rfl)
  rw [lg_entry_eq]
  generalize (lg_sl ([.ref b, .int (nI k)]) ++ List.replicate (2 - (lg_sl ([.ref b, .int (nI k)])).length) Slot.unset).toArray = ls at hl ⊢
  have hl : lv_has ls 2 [(0, .ref b), (1, .int (nI k))] := hl
  have hS : va_S (fun _ => False) s.heap s.heap [] := va_S.rf
  have fin : ∀ z : Int32, W p l e (headSpec (qWs mL_cell) mL_cell.2.2.2.2).room s m ([.ref b, .int (nI k)] : List Value).toArray below meth c s.heap [] 0 0 (MQ below cellQ ([.ref b, .int (nI k)] : List Value).toArray s 0 0 (fun _ => False)) (F0 m 19 ls [.int z]) := by
    intro z
    obtain ⟨a, ha, rfl⟩ := nN_of z
    refine lv_ldc (v := nI 2147483647) hx hb hown (hts _ wN_L_8) (q_d dL_cell_0 13 rfl) ?_
    refine lv_iand hx hb (q_d dL_cell_0 14 rfl) ?_
    rw [nN_and]
    exact W.iret hx hb hr (fun t ht _ => ⟨⟨_, and31_lt a, rfl⟩, hS.F ht⟩) hS.2.2 (q_d dL_cell_0 15 rfl) hlk
  refine lv_iload_n hx hb (q_d dL_cell_0 0 rfl) rfl (lv_at hl 1 rfl) ?_
  refine lv_aload_n hx hb (q_d dL_cell_0 1 rfl) rfl (lv_at hl 0 rfl) ?_
  refine va_slen hx hb hX hbl (fun q => q) hS (q_d dL_cell_0 2 rfl) ?_
  refine lv_icmp_ge (tgt := 12) hx hb (q_d dL_cell_0 3 rfl) (by decide) (fun _ => ?_) (fun h => ?_)
  · refine lv_ldc (v := nI 40692) hx hb hown (hts _ wN_L_7) (q_d dL_cell_0 8 rfl) ?_
    refine lv_iload_n hx hb (q_d dL_cell_0 9 rfl) rfl (lv_at hl 1 rfl) ?_
    refine lv_bipush (v := nI 61) hx hb (q_d dL_cell_0 10 rfl) (by decide) ?_
    refine lv_iadd hx hb (q_d dL_cell_0 11 rfl) ?_
    refine lv_imul hx hb (q_d dL_cell_0 12 rfl) ?_
    exact fin _
  · have hkL : k < L := by
      refine Nat.lt_of_not_le (fun q => h ?_)
      exact (nN_le (show L < 2 ^ 31 by omega) (show k < 2 ^ 31 by omega)).mpr q
    refine lv_aload_n hx hb (q_d dL_cell_0 4 rfl) rfl (lv_at hl 0 rfl) ?_
    refine lv_iload_n hx hb (q_d dL_cell_0 5 rfl) rfl (lv_at hl 1 rfl) ?_
    refine va_sld hx hb hX hbl (fun q => q) hS (nI_in hkL (by omega)) (q_d dL_cell_0 6 rfl) ?_
    refine lv_goto (tgt := 19) hx hb (q_d dL_cell_0 7 rfl) (by decide) ?_
    exact fin _
theorem cell_blind {k : Nat} : FrameBlind (cellP b L xs k) := by
  intro a U g mk q
  obtain ⟨q0, q1, q2⟩ := q
  exact ⟨q0, va_X.moved (u := U) (U := U.calling g mk a) (Vm.Alike.refl U.vm) q1, q2⟩
theorem qW_kept {hd : qH} {B n : Nat} {M : qM} {H H1 : Heap} (hP : va_P D vwCl (qW hd tc B n M) H) (h : ∀ a, a < n → H1[B + a]? = H[B + a]?) : va_P D vwCl (qW hd tc B n M) H1 := by
  intro k q hk
  obtain ⟨h1, rfl⟩ := qW_inv hk
  exact (hP k _ hk).kept (h k h1)
theorem lw_cell {hd : qH} {B n : Nat} {M : qM} {index k : Nat} {st : List Value} {H : Heap} {locs : List Loc} {cs sl pc : Nat} {ls : Array Slot} {Qs : State → Prop}
    (C0 : lw_At p s m meth c b L xs) (hL9 : L ≤ 260) (hk : k < 1000) (d : decode code pc = .ok (.invokestatic index, 3)) (hl : Cond.methodLink RL index yL_cell ∈ WS) (hls : ls.size = 5) (hR : cs ≤ 600000 ∧ sl ≤ 7302250) (hst : (st.map fun v => v.category).sum ≤ 8)
    (hP : va_P D vwCl (qW hd tc B n M) H) (hS : va_S (fun q => s.heap.size ≤ q) s.heap H locs)
    (k9 : ∀ (y : Nat) (H1 : Heap) (locs1 : List Loc), y < 2147483648 → va_P D vwCl (qW hd tc B n M) H1 → va_S (fun q => s.heap.size ≤ q) s.heap H1 locs1 → W p l e room_1 s m #[.ref b] below meth c H1 locs1 cs sl Qs (F0 m (pc + 3) ls (.int (nI y) :: st))) :
    W p l e room_1 s m #[.ref b] below meth c H locs cs sl Qs (F0 m pc ls (.int (nI k) :: .ref b :: st)) := by
  obtain ⟨hx, hb, hr, hml, hown, hts, hX, hbl, hlocks, hgv⟩ := id C0
  have hts9 : ∀ w ∈ WS, w.before #[.ref b] s = true := fun w h => hts w (List.mem_filter.mp h).1
  have hXH : va_X b L xs s H := hX.kept (hS.2.1 b hbl (Nat.not_le.mpr hbl))
  have hbH : b < H.size := Nat.lt_of_lt_of_le hbl hS.1
  have hPc : ∀ U : State, U.heap = H → s.WarmedH U.vm → cellP b L xs k ([.ref b, .int (nI k)] : List Value).toArray U := by
    intro U hU hW
    exact ⟨rfl, by rw [hU]; exact va_X.moved hW.alike hXH, by rw [hU]; exact hbH⟩
  have hcat : 2 * (F0 m pc ls ([] : List Value)).monitorRoom + (st.map fun v => v.category).sum ≤ 8 := lv_room hst
  have hm := uL_cell
  have hG : GoodIn WS (va_wsS RL index yL_cell (qWs mL_cell)) := by
    have g : ∀ w : Cond, w ∈ WS → w ∈ WS ∧ ((w.onTables && w.keeps) = true ∨ ∃ ty, w = .arrayClass ty) := fun w h => ⟨h, good_of_word (List.mem_filter.mp h).2⟩
    refine goodIn_app9 (fun w hw => ?_) (lGood hm.2.1)
    rcases List.mem_cons.mp hw with rfl | hw
    · exact g _ hl
    rcases List.mem_cons.mp hw with rfl | hw
    · exact g _ hm.1
    rcases List.mem_cons.mp hw with rfl | hw
    · exact g _ hm.2.2.1
    cases hw
  have hown9 : s.vm.findClass RL = some m.cls := hown
  have hrun := va_runS (p := p) (l := l) (e := e) (R := room_1) (below := below) (meth := meth) (H := H) (locs := locs) (cells := cs) (slots := sl) (As := [.ref b, .int (nI k)]) (rest := st) (g := F0 m pc ls (.int (nI k) :: .ref b :: st)) (Ts := WS) ⟨hx, hb, hml, hown9, hts9⟩ (c_cell (l := l) (b := b) (xs := xs) hL9 hk) (va_cwS 2 hts9 hG rfl rfl rfl hm.2.2.2 ⟨Nat.le_of_ble_eq_true rfl, Nat.le_of_ble_eq_true rfl⟩)
    ⟨cell_blind, hPc⟩ rfl rfl hls rfl hcat d hR
  intro U hU X
  obtain ⟨v, st₀, t, T', Lc, e0, X', hL, e1, e2, ⟨⟨y, hy, hv⟩, hF⟩, stp⟩ := hrun U hU X
  have hF1 : H.size ≤ t.heap.size := by rw [← e0]; exact hF.1
  have hF2 : ∀ q : Nat, q < H.size → t.heap[q]? = H[q]? := by
    intro q h1
    have := hF.2 q (by rw [e0]; exact h1) (fun z => z)
    rw [e0] at this; exact this
  have hvv : v = some (.int (nI y)) := Outcome.returned.inj hv
  subst hvv
  have hS1 : va_S (fun q => s.heap.size ≤ q) s.heap T'.heap (locs ++ Lc) := by
    refine ⟨Nat.le_trans hS.1 (by rw [e1]; exact hF1), fun q h1 h2 => ?_, fun q hq => ?_⟩
    · rw [e1, hF2 q (Nat.lt_of_lt_of_le h1 hS.1)]
      exact hS.2.1 q h1 h2
    · rcases List.mem_append.mp hq with h | h
      · exact hS.2.2 q h
      · exact (hL q h).elim
  obtain ⟨t2, a1, b1⟩ := k9 y T'.heap (locs ++ Lc) hy (qW_kept hP (fun a ha => by rw [e1]; exact hF2 _ ((hP a _ (qW_get ha)).lt))) hS1 T' rfl X'
  exact ⟨t2, stp t2 a1, b1⟩
/-! the law's judgement: locals lv, the object at the first free place -/
def LT (p : Program) (l : Launch) (e : Env) (s : State) (m : MethodId) (below : List Frame) (meth : Method) (c : Code) (b : Nat) (D : va_G) (tc : Nat → ClassId) (pc : Nat) (lv : List (Nat × Value)) (st : List Value) (MX : qM) : Prop :=
  ∀ (H : Heap) (locs : List Loc) (ls : Array Slot), va_S (fun q => s.heap.size ≤ q) s.heap H locs → va_P D vwCl (qW hdX tc s.heap.size 71 MX) H → lv_has ls 5 lv →
    W p l e room_1 s m #[.ref b] below meth c H locs 71 1882 (lw_Z below #[.ref b] s) (F0 m pc ls st)
variable {pc pc' tgt : Nat} {lv : List (Nat × Value)} {st : List Value} {MX : qM}
theorem LW.sub {lv' : List (Nat × Value)} (ks : List Nat) (h : lv_pick lv ks = lv') (k : LT p l e s m below meth c b D tc pc lv' st MX) : LT p l e s m below meth c b D tc pc lv st MX := by
  intro H locs ls hS hP hL
  exact k H locs ls hS hP (lv_sub hL ks h)
theorem LW.aload_n {k0 : Fin 4} {i a : Nat} (C0 : lw_At p s m meth c b L xs) (d : decode code pc = .ok (.aload_n k0, 1)) (hp : pc + 1 = pc') (hi : (k0 : Nat) = i) (j : Nat) (hj : lv[j]? = some (i, .ref a)) (k : LT p l e s m below meth c b D tc pc' lv (.ref a :: st) MX) : LT p l e s m below meth c b D tc pc lv st MX := by
  subst hp
  intro H locs ls hS hP hL
  exact lv_aload_n C0.1 C0.2.1 d hi (lv_at hL j hj) (k H locs ls hS hP hL)
theorem LW.iload_n {k0 : Fin 4} {i : Nat} {x : Int32} (C0 : lw_At p s m meth c b L xs) (d : decode code pc = .ok (.iload_n k0, 1)) (hp : pc + 1 = pc') (hi : (k0 : Nat) = i) (j : Nat) (hj : lv[j]? = some (i, .int x)) (k : LT p l e s m below meth c b D tc pc' lv (.int x :: st) MX) : LT p l e s m below meth c b D tc pc lv st MX := by
  subst hp
  intro H locs ls hS hP hL
  exact lv_iload_n C0.1 C0.2.1 d hi (lv_at hL j hj) (k H locs ls hS hP hL)
theorem LW.iload {i : Nat} {x : Int32} (C0 : lw_At p s m meth c b L xs) (d : decode code pc = .ok (.iload i, 2)) (hp : pc + 2 = pc') (j : Nat) (hj : lv[j]? = some (i, .int x)) (k : LT p l e s m below meth c b D tc pc' lv (.int x :: st) MX) : LT p l e s m below meth c b D tc pc lv st MX := by
  subst hp
  intro H locs ls hS hP hL
  exact lv_iload C0.1 C0.2.1 d (lv_at hL j hj) (k H locs ls hS hP hL)
theorem LW.istore_n {k0 : Fin 4} {i : Nat} {x : Int32} {lv' : List (Nat × Value)} (C0 : lw_At p s m meth c b L xs) (d : decode code pc = .ok (.istore_n k0, 1)) (hp : pc + 1 = pc') (hi : (k0 : Nat) = i) (hn : i < 5) (hl : (i, Value.int x) :: lv.filter (fun q => !(q.1 == i) && !(q.1 + 1 == i && q.2.category == 2)) = lv') (k : LT p l e s m below meth c b D tc pc' lv' st MX) : LT p l e s m below meth c b D tc pc lv (.int x :: st) MX := by
  subst hp
  intro H locs ls hS hP hL
  exact lv_istore_n C0.1 C0.2.1 d hi hL hn hl (fun ls' hL' => k H locs ls' hS hP hL')
theorem LW.istore {i : Nat} {x : Int32} {lv' : List (Nat × Value)} (C0 : lw_At p s m meth c b L xs) (d : decode code pc = .ok (.istore i, 2)) (hp : pc + 2 = pc') (hn : i < 5) (hl : (i, Value.int x) :: lv.filter (fun q => !(q.1 == i) && !(q.1 + 1 == i && q.2.category == 2)) = lv') (k : LT p l e s m below meth c b D tc pc' lv' st MX) : LT p l e s m below meth c b D tc pc lv (.int x :: st) MX := by
  subst hp
  intro H locs ls hS hP hL
  exact lv_istore C0.1 C0.2.1 d hL hn hl (fun ls' hL' => k H locs ls' hS hP hL')
theorem LW.iconst {n : Int} {v : Int32} (C0 : lw_At p s m meth c b L xs) (d : decode code pc = .ok (.iconst n, 1)) (hp : pc + 1 = pc') (hv : Int32.ofInt n = v) (k : LT p l e s m below meth c b D tc pc' lv (.int v :: st) MX) : LT p l e s m below meth c b D tc pc lv st MX := by
  subst hp
  intro H locs ls hS hP hL
  exact lv_iconst C0.1 C0.2.1 d hv (k H locs ls hS hP hL)
theorem LW.bipush {n : Int} {v : Int32} (C0 : lw_At p s m meth c b L xs) (d : decode code pc = .ok (.bipush n, 2)) (hp : pc + 2 = pc') (hv : (Int8.ofInt n).toInt32 = v) (k : LT p l e s m below meth c b D tc pc' lv (.int v :: st) MX) : LT p l e s m below meth c b D tc pc lv st MX := by
  subst hp
  intro H locs ls hS hP hL
  exact lv_bipush C0.1 C0.2.1 d hv (k H locs ls hS hP hL)
theorem LW.ldc {index : Nat} {v : Int32} (C0 : lw_At p s m meth c b L xs) (d : decode code pc = .ok (.ldc index, 2)) (hp : pc + 2 = pc') (hc : Cond.constant RL index v ∈ WS) (k : LT p l e s m below meth c b D tc pc' lv (.int v :: st) MX) : LT p l e s m below meth c b D tc pc lv st MX := by
  subst hp
  intro H locs ls hS hP hL
  exact lv_ldc C0.1 C0.2.1 (own := RL) C0.2.2.2.2.1 (C0.2.2.2.2.2.1 _ (List.mem_filter.mp hc).1) d (k H locs ls hS hP hL)
theorem LW.iadd {x y z : Int32} (C0 : lw_At p s m meth c b L xs) (d : decode code pc = .ok (.iadd, 1)) (hp : pc + 1 = pc') (hz : x + y = z) (k : LT p l e s m below meth c b D tc pc' lv (.int z :: st) MX) : LT p l e s m below meth c b D tc pc lv (.int y :: .int x :: st) MX := by
  subst hp; subst hz
  intro H locs ls hS hP hL
  exact lv_iadd C0.1 C0.2.1 d (k H locs ls hS hP hL)
theorem LW.irem {x y z : Int32} (C0 : lw_At p s m meth c b L xs) (d : decode code pc = .ok (.irem, 1)) (hp : pc + 1 = pc') (hne : ¬ y = 0) (hz : x - x / y * y = z) (k : LT p l e s m below meth c b D tc pc' lv (.int z :: st) MX) : LT p l e s m below meth c b D tc pc lv (.int y :: .int x :: st) MX := by
  subst hp; subst hz
  intro H locs ls hS hP hL
  exact lv_irem C0.1 C0.2.1 d hne (k H locs ls hS hP hL)
theorem LW.iinc {i : Nat} {dd : Int} {j : Nat} {x z : Int32} {lv' : List (Nat × Value)} (C0 : lw_At p s m meth c b L xs) (d : decode code pc = .ok (.iinc i dd, 3)) (hp : pc + 3 = pc') (hj : lv[j]? = some (i, .int x)) (hz : x + Int32.ofInt dd = z) (hn : i < 5) (hl : (i, Value.int z) :: lv.filter (fun q => !(q.1 == i) && !(q.1 + 1 == i && q.2.category == 2)) = lv') (k : LT p l e s m below meth c b D tc pc' lv' st MX) : LT p l e s m below meth c b D tc pc lv st MX := by
  subst hp
  intro H locs ls hS hP hL
  exact lv_iinc (k := j) C0.1 C0.2.1 d hL hj hz hn hl (fun ls' hL' => k H locs ls' hS hP hL')
theorem LW.goto {off : Int} (C0 : lw_At p s m meth c b L xs) (d : decode code pc = .ok (.goto off, 3)) (ht : (pc : Int) + off = (tgt : Int)) (k : LT p l e s m below meth c b D tc tgt lv st MX) : LT p l e s m below meth c b D tc pc lv st MX := by
  intro H locs ls hS hP hL
  exact lv_goto C0.1 C0.2.1 d ht (k H locs ls hS hP hL)
theorem LW.if_eq {a : Nat} {off : Int} (C0 : lw_At p s m meth c b L xs) (d : decode code pc = .ok (.ifCond .eq off, 3)) (ht : (pc : Int) + off = (tgt : Int)) (hp : pc + 3 = pc') (ha : a < 2 ^ 32) (kt : a = 0 → LT p l e s m below meth c b D tc tgt lv st MX) (kf : a ≠ 0 → LT p l e s m below meth c b D tc pc' lv st MX) : LT p l e s m below meth c b D tc pc lv (.int (nI a) :: st) MX := by
  subst hp
  intro H locs ls hS hP hL
  exact lv_if_eq C0.1 C0.2.1 d ht (fun q => kt ((nN_eq ha (b := 0) (by decide)).mp q) H locs ls hS hP hL) (fun q => kf (fun z => q ((nN_eq ha (b := 0) (by decide)).mpr z)) H locs ls hS hP hL)
theorem LW.if_ne {a : Nat} {off : Int} (C0 : lw_At p s m meth c b L xs) (d : decode code pc = .ok (.ifCond .ne off, 3)) (ht : (pc : Int) + off = (tgt : Int)) (hp : pc + 3 = pc') (ha : a < 2 ^ 32) (kt : a ≠ 0 → LT p l e s m below meth c b D tc tgt lv st MX) (kf : a = 0 → LT p l e s m below meth c b D tc pc' lv st MX) : LT p l e s m below meth c b D tc pc lv (.int (nI a) :: st) MX := by
  subst hp
  intro H locs ls hS hP hL
  exact lv_if_ne C0.1 C0.2.1 d ht (fun q => kt (fun z => q ((nN_eq ha (b := 0) (by decide)).mpr z)) H locs ls hS hP hL) (fun q => kf ((nN_eq ha (b := 0) (by decide)).mp q) H locs ls hS hP hL)
theorem LW.icmp_ne {a a2 : Nat} {off : Int} (C0 : lw_At p s m meth c b L xs) (d : decode code pc = .ok (.if_icmp .ne off, 3)) (ht : (pc : Int) + off = (tgt : Int)) (hp : pc + 3 = pc') (ha : a = a2) (kf : LT p l e s m below meth c b D tc pc' lv st MX) : LT p l e s m below meth c b D tc pc lv (.int (nI a2) :: .int (nI a) :: st) MX := by
  subst hp; subst ha
  intro H locs ls hS hP hL
  exact lv_icmp_ne C0.1 C0.2.1 d ht (fun q => absurd rfl q) (fun _ => kf H locs ls hS hP hL)
theorem LW.icmp_ge {a a2 : Nat} {off : Int} (C0 : lw_At p s m meth c b L xs) (d : decode code pc = .ok (.if_icmp .ge off, 3)) (ht : (pc : Int) + off = (tgt : Int)) (hp : pc + 3 = pc') (h1 : a < 2 ^ 31) (h2 : a2 < 2 ^ 31) (kt : a2 ≤ a → LT p l e s m below meth c b D tc tgt lv st MX) (kf : a < a2 → LT p l e s m below meth c b D tc pc' lv st MX) : LT p l e s m below meth c b D tc pc lv (.int (nI a2) :: .int (nI a) :: st) MX := by
  subst hp
  intro H locs ls hS hP hL
  exact lv_icmp_ge C0.1 C0.2.1 d ht (fun q => kt ((nN_le h2 h1).mp q) H locs ls hS hP hL) (fun q => kf (Nat.lt_of_not_le (fun z => q ((nN_le h2 h1).mpr z))) H locs ls hS hP hL)
theorem LW.icmp_le {a a2 : Nat} {off : Int} (C0 : lw_At p s m meth c b L xs) (d : decode code pc = .ok (.if_icmp .le off, 3)) (ht : (pc : Int) + off = (tgt : Int)) (hp : pc + 3 = pc') (h1 : a < 2 ^ 31) (h2 : a2 < 2 ^ 31) (kt : a ≤ a2 → LT p l e s m below meth c b D tc tgt lv st MX) (kf : a2 < a → LT p l e s m below meth c b D tc pc' lv st MX) : LT p l e s m below meth c b D tc pc lv (.int (nI a2) :: .int (nI a) :: st) MX := by
  subst hp
  intro H locs ls hS hP hL
  exact lv_icmp_le C0.1 C0.2.1 d ht (fun q => kt ((nN_le h1 h2).mp q) H locs ls hS hP hL) (fun q => kf (Nat.lt_of_not_le (fun z => q ((nN_le h1 h2).mpr z))) H locs ls hS hP hL)
theorem LW.if_lt {a : Nat} {off : Int} (C0 : lw_At p s m meth c b L xs) (d : decode code pc = .ok (.ifCond .lt off, 3)) (ht : (pc : Int) + off = (tgt : Int)) (hp : pc + 3 = pc') (ha : a < 2 ^ 31) (kf : LT p l e s m below meth c b D tc pc' lv st MX) : LT p l e s m below meth c b D tc pc lv (.int (nI a) :: st) MX := by
  subst hp
  intro H locs ls hS hP hL
  exact lv_if_lt C0.1 C0.2.1 d ht (fun q => absurd q (nI_pos ha)) (fun _ => kf H locs ls hS hP hL)
abbrev lwR (μ' : qMI) : Prop := μ'.2.2.2.2.cells = 0 ∧ μ'.2.2.2.2.slots = 0 ∧ μ'.2.2.2.2.frames + 1 ≤ 11 ∧ 8 + (μ'.2.2.1 + 11) + μ'.2.2.2.2.locals ≤ 452 ∧ 71 ≤ 600000 ∧ 1882 ≤ 7302250
theorem LW.callV {μ' : qMI} {Q' : Option Value → qM → Prop} {index na N : Nat} {as stk : List Value} {F : u_T} (C0 : lw_At p s m meth c b L xs) (hK : va_K D vwCl (qT tc) s) (d : decode code pc = .ok (.invokevirtual index, 3)) (hp : pc + 3 = pc') (hm : qVirt μ' na) (hl : Cond.methodLink RL index μ'.2.1 ∈ WS) (hC : Ct l hdX kX μ' (.ref 0 :: as) MX Q') (hs : stk = (as.map (qV s.heap.size)).reverse ++ .ref s.heap.size :: st) (hn : as.length = na) (hc : vwCl[5]? = some (μ'.2.1.cls, F, N)) (hR : lwR μ') (hst : (st.map fun v => v.category).sum ≤ 8)
    (k : ∀ (v : Option Value) (M' : qM), Q' v M' → LT p l e s m below meth c b D tc pc' lv ((v.map (qV s.heap.size)).toList ++ st) M') : LT p l e s m below meth c b D tc pc lv stk MX := by
  subst hp
  intro H locs ls hS hP hL
  refine lw_callV C0 hK d hm hl hC hs hn (by decide) rfl hc hL.1 hR hst hP hS (Nat.le_refl _) (fun v M' H1 locs1 q1 q2 q3 q4 => ?_)
  exact k v M' q1 H1 locs1 ls q3 q2 hL
theorem LW.callS {μ' : qMI} {Q' : Option Value → qM → Prop} {index na : Nat} {as stk : List Value} (C0 : lw_At p s m meth c b L xs) (hK : va_K D vwCl (qT tc) s) (d : decode code pc = .ok (.invokestatic index, 3)) (hp : pc + 3 = pc') (hm : qStat μ' na) (hl : Cond.methodLink RL index μ'.2.1 ∈ WS) (hC : Ct l hdX kX μ' as MX Q') (hs : stk = (as.map (qV s.heap.size)).reverse ++ st) (hn : as.length = na) (hR : lwR μ') (hst : (st.map fun v => v.category).sum ≤ 8)
    (k : ∀ (v : Option Value) (M' : qM), Q' v M' → LT p l e s m below meth c b D tc pc' lv ((v.map (qV s.heap.size)).toList ++ st) M') : LT p l e s m below meth c b D tc pc lv stk MX := by
  subst hp
  intro H locs ls hS hP hL
  refine lw_callS C0 hK d hm hl hC hs hn hL.1 hR hst hP hS (Nat.le_refl _) (fun v M' H1 locs1 q1 q2 q3 => ?_)
  exact k v M' q1 H1 locs1 ls q3 q2 hL
theorem LW.cell {k0 : Nat} (C0 : lw_At p s m meth c b L xs) (hL9 : L ≤ 260) (hk : k0 < 1000) (d : decode code pc = .ok (.invokestatic 72, 3)) (hp : pc + 3 = pc') (hst : (st.map fun v => v.category).sum ≤ 8) (k : ∀ y, y < 2147483648 → LT p l e s m below meth c b D tc pc' lv (.int (nI y) :: st) MX) : LT p l e s m below meth c b D tc pc lv (.int (nI k0) :: .ref b :: st) MX := by
  subst hp
  intro H locs ls hS hP hL
  refine lw_cell C0 hL9 hk d wM_L_72 hL.1 ⟨by decide, by decide⟩ hst hP hS (fun y H1 locs1 q1 q2 q3 => ?_)
  exact k y q1 H1 locs1 ls q3 q2 hL
theorem LW.ret (C0 : lw_At p s m meth c b L xs) (d : decode code pc = .ok (.ireturn, 1)) : LT p l e s m below meth c b D tc pc lv [.int 1] MX := by
  intro H locs ls hS hP hL
  obtain ⟨hx, hb, hr, hml, hown, hts, hX, hbl, hlocks, hgv⟩ := id C0
  refine va_forget hS.2.2 ?_
  refine W.widen (k := 600000) (n := 7302250) (by decide) (by decide) ?_
  exact lw_ret hx hb hr hlocks d
end Law
end
section
/-! the law's walk: three places, a road, sixteen acts, and what is undone -/
theorem Z_00 : ∀ x, 14 ≤ x → x < 28 → s00 x = 0 := fun x h1 h2 => if_neg (by omega)
theorem Z_place {f : Nat → Nat} {u : Nat} (h : ∀ x, 14 ≤ x → x < 28 → f x = 0) (h7 : f 0 < 7) : ∀ x, 14 ≤ x → x < 28 → sPlace f u x = 0 := fun x h1 h2 => by unfold sPlace; rw [if_neg (by omega), if_neg (by omega)]; exact h x h1 h2
theorem Z_rd {f : Nat → Nat} (h : ∀ x, 14 ≤ x → x < 28 → f x = 0) (h7 : f 0 ≤ 7) : rdN f 14 = 0 := by
  have key : ∀ n, n ≤ 7 → sumTo (fun i => ones (f (14 + i))) n = 0 := by
    intro n
    induction n with
    | zero => intro _; rfl
    | succ n ih =>
      intro hn
      simp only [sumTo]
      rw [ih (by omega), h (14 + n) (by omega) (by omega), ones_zero]
  unfold rdN
  rw [key _ h7]
section LawWalk
variable {p : Program} {l : Launch} {e : Env} {s : State} {m : MethodId} {below : List Frame} {meth : Method} {c : Code} {b L : Nat} {xs : Nat → Int32} {D : va_G} {tc : Nat → ClassId}
theorem law_end (C0 : lw_At p s m meth c b L xs) (hK : va_K D vwCl (qT tc) s) {bb i k : Nat} {f : Nat → Nat} {was : Nat → Nat → Nat} {n : Nat} {t pa : Nat → Nat} {sw : Bool} {M : qM} (hb : bb + 1 < 2 ^ 30) (hX : RX M bb f k was n t pa sw) :
    LT p l e s m below meth c b D tc 144 [(3, .int (nI i)), (2, .int (nI 1)), (1, .ref s.heap.size), (0, .ref b)] [] M := by
  have w6 := hX.2.2.2.1.2.2.2.2.2.1
  have hk4 := hX.2.2.2.2.2.1
  have h0 : 0 < 2 ^ f 0 := Nat.two_pow_pos _
  have e1 : sBelieve f 0 1 = 0 := rfl
  have hchk : ∀ {M3 : qM} {pa3 : Nat → Nat} {sw3 : Bool}, RX M3 bb (sBelieve f 0) (pushK k) (pushW k was f) n t pa3 sw3 → Ct l hdX kX mX5_check [.ref 0, .int (nI 0), .int (nI 0)] M3 (OX (bb + 1) (4293967294, (sBelieve f 0, pushK k, pushW k was f, n, t))) := by
    intro M3 pa3 sw3 h
    refine (c_check h (u := 0) (v := 0) (by decide) (by decide)).mono (fun x M' q => OX.to ?_ q)
    unfold oCheck
    rw [if_pos ⟨h0, by decide, by rw [ones_zero]; exact Nat.zero_le _⟩, if_neg (fun q => q.1 rfl)]
  have hpk : pushK k ≠ 0 ∧ pushK k - 1 < 4 := by unfold pushK; split <;> omega
  have hpw : pushW k was f (pushK k - 1) = f := by
    unfold pushK pushW
    by_cases h4 : k = 4
    · rw [if_pos h4, if_pos h4]; rfl
    · rw [if_neg h4, if_neg h4]; simp
  have hund : ∀ {M3 : qM} {pa3 : Nat → Nat} {sw3 : Bool}, RX M3 (bb + 1) (sBelieve f 0) (pushK k) (pushW k was f) n t pa3 sw3 → Ct l hdX kX mX5_undo [.ref 0] M3 (OX (bb + 1) (pushK k - 1, (f, pushK k - 1, pushW k was f, n, t))) := by
    intro M3 pa3 sw3 h
    refine (c_undo h).mono (fun x M' q => OX.to ?_ q)
    unfold oUndo
    rw [if_neg hpk.1, hpw]
  refine LW.aload_n (pc' := 145) C0 (q_d dL_law_2 0 rfl) rfl rfl 2 rfl ?_
  refine LW.iconst (pc' := 146) (v := nI 3) C0 (q_d dL_law_2 1 rfl) rfl (by decide) ?_
  refine LW.callV (pc' := 149) C0 hK (q_d dL_law_2 2 rfl) rfl uX5_count wM_L_38 (c_cnt hX (by omega) (u := 3) (x := f 1) (by decide) rfl) rfl rfl rfl (by decide) (Nat.le_of_ble_eq_true rfl) (fun v M2 q => ?_)
  obtain ⟨rfl, pa2, sw2, hX2⟩ := q
  replace hX2 : RX M2 bb f k was n t pa2 sw2 := hX2
  show LT p l e s m below meth c b D tc 149 [(3, .int (nI i)), (2, .int (nI 1)), (1, .ref s.heap.size), (0, .ref b)] [.int (nI (f 1))] M2
  refine LW.istore_n (pc' := 150) (lv' := [(3, .int (nI (f 1))), (2, .int (nI 1)), (1, .ref s.heap.size), (0, .ref b)]) C0 (q_d dL_law_2 3 rfl) rfl rfl (by decide) rfl ?_
  refine LW.aload_n (pc' := 151) C0 (q_d dL_law_2 4 rfl) rfl rfl 2 rfl ?_
  refine LW.iconst (pc' := 152) (v := nI 4) C0 (q_d dL_law_2 5 rfl) rfl (by decide) ?_
  refine LW.callV (pc' := 155) C0 hK (q_d dL_law_2 6 rfl) rfl uX5_count wM_L_38 (c_cnt hX2 (by omega) (u := 4) (x := f 2) (by decide) rfl) rfl rfl rfl (by decide) (Nat.le_of_ble_eq_true rfl) (fun v M3 q => ?_)
  obtain ⟨rfl, pa3, sw3, hX3⟩ := q
  replace hX3 : RX M3 bb f k was n t pa3 sw3 := hX3
  show LT p l e s m below meth c b D tc 155 [(3, .int (nI (f 1))), (2, .int (nI 1)), (1, .ref s.heap.size), (0, .ref b)] [.int (nI (f 2))] M3
  refine LW.istore (pc' := 157) (lv' := [(4, .int (nI (f 2))), (3, .int (nI (f 1))), (2, .int (nI 1)), (1, .ref s.heap.size), (0, .ref b)]) C0 (q_d dL_law_2 7 rfl) rfl (by decide) rfl ?_
  refine LW.iload_n (pc' := 158) C0 (q_d dL_law_2 8 rfl) rfl rfl 2 rfl ?_
  refine LW.if_eq (tgt := 210) (pc' := 161) C0 (q_d dL_law_2 9 rfl) (by decide) rfl (by decide) (fun h158 => ?_) (fun h158 => ?_)
  · exact absurd h158 (by decide)
  · refine LW.aload_n (pc' := 162) C0 (q_d dL_law_2 10 rfl) rfl rfl 3 rfl ?_
    refine LW.iconst (pc' := 163) (v := nI 0) C0 (q_d dL_law_2 11 rfl) rfl (by decide) ?_
    refine LW.callV (pc' := 166) C0 hK (q_d dL_law_2 12 rfl) rfl uX5_believe wM_L_32 (c_bel hX3 h0) rfl rfl rfl (by decide) (Nat.le_of_ble_eq_true rfl) (fun v M4 q => ?_)
    obtain ⟨rfl, pa4, sw4, hX4⟩ := q
    replace hX4 : RX M4 bb (sBelieve f 0) (pushK k) (pushW k was f) n t pa4 sw4 := hX4
    show LT p l e s m below meth c b D tc 166 [(4, .int (nI (f 2))), (3, .int (nI (f 1))), (2, .int (nI 1)), (1, .ref s.heap.size), (0, .ref b)] [.int (nI (ones 0))] M4
    refine LW.if_ne (tgt := 210) (pc' := 169) C0 (q_d dL_law_2 13 rfl) (by decide) rfl (by rw [ones_zero]; decide) (fun h166 => ?_) (fun h166 => ?_)
    · exact absurd ones_zero h166
    · refine LW.aload_n (pc' := 170) C0 (q_d dL_law_2 14 rfl) rfl rfl 3 rfl ?_
      refine LW.iconst (pc' := 171) (v := nI 0) C0 (q_d dL_law_2 15 rfl) rfl (by decide) ?_
      refine LW.iconst (pc' := 172) (v := nI 0) C0 (q_d dL_law_2 16 rfl) rfl (by decide) ?_
      refine LW.callV (pc' := 175) C0 hK (q_d dL_law_2 17 rfl) rfl uX5_check wM_L_45 (hchk hX4) rfl rfl rfl (by decide) (Nat.le_of_ble_eq_true rfl) (fun v M5 q => ?_)
      obtain ⟨rfl, pa5, sw5, hX5⟩ := q
      replace hX5 : RX M5 (bb + 1) (sBelieve f 0) (pushK k) (pushW k was f) n t pa5 sw5 := hX5
      show LT p l e s m below meth c b D tc 175 [(4, .int (nI (f 2))), (3, .int (nI (f 1))), (2, .int (nI 1)), (1, .ref s.heap.size), (0, .ref b)] [.int (nI 4293967294)] M5
      refine LW.ldc (pc' := 177) (v := nI 4293967294) C0 (q_d dL_law_2 18 rfl) rfl wN_L_84 ?_
      refine LW.icmp_ne (tgt := 210) (pc' := 180) C0 (q_d dL_law_2 19 rfl) (by decide) rfl rfl ?_
      refine LW.aload_n (pc' := 181) C0 (q_d dL_law_2 20 rfl) rfl rfl 3 rfl ?_
      refine LW.callV (pc' := 184) C0 hK (q_d dL_law_2 21 rfl) rfl uX5_undo wM_L_85 (hund hX5) rfl rfl rfl (by decide) (Nat.le_of_ble_eq_true rfl) (fun v M6 q => ?_)
      obtain ⟨rfl, pa6, sw6, hX6⟩ := q
      replace hX6 : RX M6 (bb + 1) f (pushK k - 1) (pushW k was f) n t pa6 sw6 := hX6
      show LT p l e s m below meth c b D tc 184 [(4, .int (nI (f 2))), (3, .int (nI (f 1))), (2, .int (nI 1)), (1, .ref s.heap.size), (0, .ref b)] [.int (nI (pushK k - 1))] M6
      refine LW.if_lt (tgt := 210) (pc' := 187) C0 (q_d dL_law_2 22 rfl) (by decide) rfl (by omega) ?_
      refine LW.aload_n (pc' := 188) C0 (q_d dL_law_2 23 rfl) rfl rfl 3 rfl ?_
      refine LW.iconst (pc' := 189) (v := nI 3) C0 (q_d dL_law_2 24 rfl) rfl (by decide) ?_
      refine LW.callV (pc' := 192) C0 hK (q_d dL_law_2 25 rfl) rfl uX5_count wM_L_38 (c_cnt hX6 (by omega) (u := 3) (x := f 1) (by decide) rfl) rfl rfl rfl (by decide) (Nat.le_of_ble_eq_true rfl) (fun v M7 q => ?_)
      obtain ⟨rfl, pa7, sw7, hX7⟩ := q
      replace hX7 : RX M7 (bb + 1) f (pushK k - 1) (pushW k was f) n t pa7 sw7 := hX7
      show LT p l e s m below meth c b D tc 192 [(4, .int (nI (f 2))), (3, .int (nI (f 1))), (2, .int (nI 1)), (1, .ref s.heap.size), (0, .ref b)] [.int (nI (f 1))] M7
      refine LW.iload_n (pc' := 193) C0 (q_d dL_law_2 26 rfl) rfl rfl 1 rfl ?_
      refine LW.icmp_ne (tgt := 210) (pc' := 196) C0 (q_d dL_law_2 27 rfl) (by decide) rfl rfl ?_
      refine LW.aload_n (pc' := 197) C0 (q_d dL_law_2 28 rfl) rfl rfl 3 rfl ?_
      refine LW.iconst (pc' := 198) (v := nI 4) C0 (q_d dL_law_2 29 rfl) rfl (by decide) ?_
      refine LW.callV (pc' := 201) C0 hK (q_d dL_law_2 30 rfl) rfl uX5_count wM_L_38 (c_cnt hX7 (by omega) (u := 4) (x := f 2) (by decide) rfl) rfl rfl rfl (by decide) (Nat.le_of_ble_eq_true rfl) (fun v M8 q => ?_)
      obtain ⟨rfl, pa8, sw8, hX8⟩ := q
      show LT p l e s m below meth c b D tc 201 [(4, .int (nI (f 2))), (3, .int (nI (f 1))), (2, .int (nI 1)), (1, .ref s.heap.size), (0, .ref b)] [.int (nI (f 2))] M8
      refine LW.iload (pc' := 203) C0 (q_d dL_law_2 31 rfl) rfl 0 rfl ?_
      refine LW.icmp_ne (tgt := 210) (pc' := 206) C0 (q_d dL_law_2 32 rfl) (by decide) rfl rfl ?_
      refine LW.iconst (pc' := 207) (v := nI 1) C0 (q_d dL_law_2 33 rfl) rfl (by decide) ?_
      refine LW.goto (tgt := 211) C0 (q_d dL_law_2 34 rfl) (by decide) ?_
      exact LW.ret C0 (q_d dL_law_2 36 rfl)
theorem law_loop (C0 : lw_At p s m meth c b L xs) (hK : va_K D vwCl (qT tc) s) (hL9 : L ≤ 260) : ∀ d i (M : qM) (f : Nat → Nat) (k : Nat) (was : Nat → Nat → Nat) (n : Nat) (t pa : Nat → Nat) (sw : Bool), i + d = 16 → RX M (127 * i) f k was n t pa sw → IN f → 3 ≤ f 0 →
    LT p l e s m below meth c b D tc 77 [(3, .int (nI i)), (2, .int (nI 1)), (1, .ref s.heap.size), (0, .ref b)] [] M := by
  intro d
  induction d with
  | zero =>
    intro i M f k was n t pa sw hi hX hI h3
    have e : i = 16 := by omega
    subst e
    refine LW.iload_n (pc' := 78) C0 (q_d dL_law_1 5 rfl) rfl rfl 0 rfl ?_
    refine LW.bipush (pc' := 80) (v := nI 16) C0 (q_d dL_law_1 6 rfl) rfl (by decide) ?_
    refine LW.icmp_ge (tgt := 144) (pc' := 83) C0 (q_d dL_law_1 7 rfl) (by decide) rfl (by omega) (by omega) (fun h80 => ?_) (fun h80 => ?_)
    · exact law_end C0 hK (by decide) hX
    · exact absurd h80 (by decide)
  | succ d ih =>
    intro i M f k was n t pa sw hi hX hI h3
    have act : ∀ (y y4 : Nat), y < 2147483648 → LT p l e s m below meth c b D tc 119 [(4, .int (nI y4)), (3, .int (nI i)), (2, .int (nI 1)), (1, .ref s.heap.size), (0, .ref b)] [.int (nI y), .ref s.heap.size] M := by
      intro y y4 hy
      refine LW.callS (pc' := 122) C0 hK (q_d dL_law_1 29 rfl) rfl uL_acts wM_L_80 (c_acts (by omega) hX hI h3 hy) rfl rfl (by decide) (Nat.le_of_ble_eq_true rfl) (fun v M2 q => ?_)
      obtain ⟨rfl, f', k', was', hI', h3', pa2, sw2, hX2⟩ := q
      show LT p l e s m below meth c b D tc 122 [(4, .int (nI y4)), (3, .int (nI i)), (2, .int (nI 1)), (1, .ref s.heap.size), (0, .ref b)] [.int (nI 1)] M2
      refine LW.if_eq (tgt := 136) (pc' := 125) C0 (q_d dL_law_1 30 rfl) (by decide) rfl (by omega) (fun h122 => ?_) (fun h122 => ?_)
      · exact absurd h122 (by decide)
      · refine LW.aload_n (pc' := 126) C0 (q_d dL_law_1 31 rfl) rfl rfl 3 rfl ?_
        refine LW.callS (pc' := 129) C0 hK (q_d dL_law_1 32 rfl) rfl uL_holds wM_L_76 (c_holds (by omega) hX2 hI') rfl rfl (by decide) (Nat.le_of_ble_eq_true rfl) (fun v M3 q => ?_)
        obtain ⟨rfl, pa3, sw3, hX3⟩ := q
        replace hX3 : RX M3 (127 * i + 127) f' k' was' n t pa3 sw3 := hX3
        show LT p l e s m below meth c b D tc 129 [(4, .int (nI y4)), (3, .int (nI i)), (2, .int (nI 1)), (1, .ref s.heap.size), (0, .ref b)] [.int (nI 1)] M3
        refine LW.if_eq (tgt := 136) (pc' := 132) C0 (q_d dL_law_1 33 rfl) (by decide) rfl (by omega) (fun h129 => ?_) (fun h129 => ?_)
        · exact absurd h129 (by decide)
        · refine LW.iconst (pc' := 133) (v := nI 1) C0 (q_d dL_law_1 34 rfl) rfl (by decide) ?_
          refine LW.goto (tgt := 137) C0 (q_d dL_law_1 35 rfl) (by decide) ?_
          refine LW.istore_n (pc' := 138) (lv' := [(2, .int (nI 1)), (4, .int (nI y4)), (3, .int (nI i)), (1, .ref s.heap.size), (0, .ref b)]) C0 (q_d dL_law_1 37 rfl) rfl rfl (by decide) rfl ?_
          refine LW.iinc (pc' := 141) (j := 2) (lv' := [(3, .int (nI (i + 1))), (2, .int (nI 1)), (4, .int (nI y4)), (1, .ref s.heap.size), (0, .ref b)]) C0 (q_d dL_law_1 38 rfl) rfl rfl (nN_p i 1) (by decide) rfl ?_
          refine LW.goto (tgt := 77) C0 (q_d dL_law_1 39 rfl) (by decide) ?_
          refine LW.sub (lv' := [(3, .int (nI (i + 1))), (2, .int (nI 1)), (1, .ref s.heap.size), (0, .ref b)]) [0, 1, 3, 4] rfl ?_
          exact ih (i + 1) M3 f' k' was' n t pa3 sw3 (by omega) (by rw [show 127 * (i + 1) = 127 * i + 127 by omega]; exact hX3) hI' h3'
    refine LW.iload_n (pc' := 78) C0 (q_d dL_law_1 5 rfl) rfl rfl 0 rfl ?_
    refine LW.bipush (pc' := 80) (v := nI 16) C0 (q_d dL_law_1 6 rfl) rfl (by decide) ?_
    refine LW.icmp_ge (tgt := 144) (pc' := 83) C0 (q_d dL_law_1 7 rfl) (by decide) rfl (by omega) (by omega) (fun h80 => ?_) (fun h80 => ?_)
    · exact absurd h80 (by omega)
    · refine LW.iload_n (pc' := 84) C0 (q_d dL_law_1 8 rfl) rfl rfl 1 rfl ?_
      refine LW.if_eq (tgt := 144) (pc' := 87) C0 (q_d dL_law_1 9 rfl) (by decide) rfl (by omega) (fun h84 => ?_) (fun h84 => ?_)
      · exact absurd h84 (by decide)
      · refine LW.aload_n (pc' := 88) C0 (q_d dL_law_1 10 rfl) rfl rfl 3 rfl ?_
        refine LW.iconst (pc' := 89) (v := nI 3) C0 (q_d dL_law_1 11 rfl) rfl (by decide) ?_
        refine LW.iload_n (pc' := 90) C0 (q_d dL_law_1 12 rfl) rfl rfl 0 rfl ?_
        refine LW.iadd (pc' := 91) C0 (q_d dL_law_1 13 rfl) rfl (nI_add 3 i) ?_
        refine LW.cell (pc' := 94) C0 hL9 (show 3 + i < 1000 by omega) (q_d dL_law_1 14 rfl) rfl (Nat.le_of_ble_eq_true rfl) (fun y hy => ?_)
        refine LW.istore (pc' := 96) (lv' := [(4, .int (nI y)), (3, .int (nI i)), (2, .int (nI 1)), (1, .ref s.heap.size), (0, .ref b)]) C0 (q_d dL_law_1 15 rfl) rfl (by decide) rfl ?_
        refine LW.aload_n (pc' := 97) C0 (q_d dL_law_1 16 rfl) rfl rfl 3 rfl ?_
        refine LW.iload (pc' := 99) C0 (q_d dL_law_1 17 rfl) rfl 0 rfl ?_
        refine LW.bipush (pc' := 101) (v := nI 8) C0 (q_d dL_law_1 18 rfl) rfl (by decide) ?_
        refine LW.irem (pc' := 102) C0 (q_d dL_law_1 19 rfl) rfl (by decide) (pk_rem (by omega) (by decide) (by decide)) ?_
        refine LW.if_ne (tgt := 117) (pc' := 105) C0 (q_d dL_law_1 20 rfl) (by decide) rfl (by omega) (fun h102 => ?_) (fun h102 => ?_)
        · refine LW.iload (pc' := 119) C0 (q_d dL_law_1 28 rfl) rfl 0 rfl ?_
          first
          | exact act y y hy
          | exact act (y + 5) y (by omega)
        · refine LW.iload_n (pc' := 106) C0 (q_d dL_law_1 21 rfl) rfl rfl 1 rfl ?_
          refine LW.iconst (pc' := 107) (v := nI 5) C0 (q_d dL_law_1 22 rfl) rfl (by decide) ?_
          refine LW.icmp_le (tgt := 117) (pc' := 110) C0 (q_d dL_law_1 23 rfl) (by decide) rfl (by omega) (by omega) (fun h107 => ?_) (fun h107 => ?_)
          · refine LW.iload (pc' := 119) C0 (q_d dL_law_1 28 rfl) rfl 0 rfl ?_
            first
            | exact act y y hy
            | exact act (y + 5) y (by omega)
          · refine LW.iload (pc' := 112) C0 (q_d dL_law_1 24 rfl) rfl 0 rfl ?_
            refine LW.iconst (pc' := 113) (v := nI 5) C0 (q_d dL_law_1 25 rfl) rfl (by decide) ?_
            refine LW.iadd (pc' := 114) C0 (q_d dL_law_1 26 rfl) rfl (nI_add y 5) ?_
            refine LW.goto (tgt := 119) C0 (q_d dL_law_1 27 rfl) (by decide) ?_
            first
            | exact act y y hy
            | exact act (y + 5) y (by omega)
end LawWalk
theorem q_arrC {s : State} {A : Array Value} {ty : FieldType} (h : (Cond.arrayClass ty).before A s = true) : ∃ cA, ArrOfT s cA ty ∧ s.vm.findClass ("[" ++ ty.toString) = some cA := by
  obtain ⟨cA, kA, comp, h1, h2, h3⟩ := Cond.arrayClass_spec h
  exact ⟨cA, fun n z => ⟨(fun k h => by cases h), kA, h2, comp, h3⟩, h1⟩
theorem q_words {p : Program} {s : State} {m : MethodId} {meth : Method} {c : Code} {b L : Nat} {xs : Nat → Int32} (C0 : lw_At p s m meth c b L xs) : qN s ∧ ∃ (D : va_G) (tc : Nat → ClassId), va_K D vwCl (qT tc) s := by
  obtain ⟨hx, hb, hr, hml, hown, hts, hX, hbl, hlocks, hgv⟩ := id C0
  have hts9 : ∀ w ∈ WS, w.before #[.ref b] s = true := fun w h => hts w (List.mem_filter.mp h).1
  have o1 : (Cond.arrayOver (.object "BlindHunts$State")).before #[.ref b] s = true := hts _ (List.mem_of_getElem? (i := 82) (by decide +kernel))
  have o2 : (Cond.arrayOver (.array .int)).before #[.ref b] s = true := hts _ (List.mem_of_getElem? (i := 118) (by decide +kernel))
  have n1 : (Cond.methodLinkNest RX5 25 yX2_init "BlindHunts").before #[.ref b] s = true := hts _ (List.mem_of_getElem? (i := 85) (by decide +kernel))
  have n2 : (Cond.methodLinkNest RX5 32 yX1_init "BlindHunts").before #[.ref b] s = true := hts _ (List.mem_of_getElem? (i := 113) (by decide +kernel))
  have n3 : (Cond.methodLinkNest RX5 51 yX4_init "BlindHunts").before #[.ref b] s = true := hts _ (List.mem_of_getElem? (i := 164) (by decide +kernel))
  refine ⟨⟨va_AO.of o1, o2, va_Nw.of rfl n1, va_Nw.of rfl n2, va_Nw.of rfl n3⟩, ?_⟩
  obtain ⟨c0, i0, k0⟩ := u_known (C := RX0) (T := TX0) (N := 4) (n := 4) hts9 inX0 (hts9 _ wO_X0)
  obtain ⟨c1, i1, k1⟩ := u_known (C := RX1) (T := TX1) (N := 6) (n := 6) hts9 inX1 (hts9 _ wO_X1)
  obtain ⟨c2, i2, k2⟩ := u_known (C := RX2) (T := TX2) (N := 9) (n := 9) hts9 inX2 (hts9 _ wO_X2)
  obtain ⟨c3, i3, k3⟩ := u_known (C := RX3) (T := TX3) (N := 10) (n := 10) hts9 inX3 (hts9 _ wO_X3)
  obtain ⟨c4, i4, k4⟩ := u_known (C := RX4) (T := TX4) (N := 2) (n := 2) hts9 inX4 (hts9 _ wO_X4)
  obtain ⟨c5, i5, k5⟩ := u_known (C := RX5) (T := TX5) (N := 13) (n := 13) hts9 inX5 (hts9 _ wO_X5)
  obtain ⟨t0, a0, b0⟩ := q_arrC (hts9 _ wA_int)
  obtain ⟨t1, a1, b1⟩ := q_arrC (hts9 _ wA_boolean)
  obtain ⟨t2, a2, b2⟩ := q_arrC (hts9 _ wA_char)
  obtain ⟨t3, a3, b3⟩ := q_arrC (hts9 _ wA_long)
  obtain ⟨cm4, t4, kA4, p1, p2, p3, p4, p5⟩ := Cond.arrayOver_spec o1
  obtain ⟨cm5, t5, kA5, r1, r2, r3, r4, r5⟩ := arrayOverA_spec o2
  refine ⟨(fun k => [c0, c1, c2, c3, c4, c5].getD k c0, fun k => [i0, i1, i2, i3, i4, i5].getD k i0), fun k => [t0, t1, t2, t3, t4, t5].getD k t0, fun k q hq => ?_, fun k q hq => ?_⟩
  · match k, hq with
    | 0, hq => cases hq; exact k0
    | 1, hq => cases hq; exact k1
    | 2, hq => cases hq; exact k2
    | 3, hq => cases hq; exact k3
    | 4, hq => cases hq; exact k4
    | 5, hq => cases hq; exact k5
    | k + 6, hq => simp [vwCl] at hq
  · match k, hq with
    | 0, hq => cases hq; exact ⟨a0, b0⟩
    | 1, hq => cases hq; exact ⟨a1, b1⟩
    | 2, hq => cases hq; exact ⟨a2, b2⟩
    | 3, hq => cases hq; exact ⟨a3, b3⟩
    | 4, hq => cases hq; exact ⟨fun n z => ⟨(fun k h => by cases h), kA4, p3, cm4, p4⟩, kA4, cm4, p3, p4, p1, p5⟩
    | 5, hq => cases hq; exact ⟨fun n z => ⟨(fun k h => by cases h), kA5, r3, cm5, r4⟩, r5⟩
    | k + 6, hq => simp [qT] at hq
theorem hX_fs : ∀ j, j < 13 → ((qK 5)[j]? = some true ∧ defaultValue (tyX5 j) = .null) ∨ ((qK 5)[j]? = some false ∧ defaultValue (tyX5 j) = .int 0) := by decide +kernel
section LawStart
variable {p : Program} {l : Launch} {e : Env} {s : State} {m : MethodId} {below : List Frame} {meth : Method} {c : Code} {b L : Nat} {xs : Nat → Int32} {D : va_G} {tc : Nat → ClassId}
theorem law_begin (C0 : lw_At p s m meth c b L xs) (hK : va_K D vwCl (qT tc) s) (hL9 : L ≤ 260) : LT p l e s m below meth c b D tc 8 [(1, .ref s.heap.size), (0, .ref b)] [] (MM wiX wrX) := by
  have hX := RX_new (fun _ _ => 0) (fun _ => 0)
  have e0 : s00 0 = 0 := rfl
  refine LW.aload_n (pc' := 9) C0 (q_d dL_law_0 4 rfl) rfl rfl 0 rfl ?_
  refine LW.aload_n (pc' := 10) C0 (q_d dL_law_0 5 rfl) rfl rfl 1 rfl ?_
  refine LW.iconst (pc' := 11) (v := nI 0) C0 (q_d dL_law_0 6 rfl) rfl (by decide) ?_
  refine LW.cell (pc' := 14) C0 hL9 (by decide) (q_d dL_law_0 7 rfl) rfl (Nat.le_of_ble_eq_true rfl) (fun y0 hy0 => ?_)
  refine LW.iconst (pc' := 15) (v := nI 4) C0 (q_d dL_law_0 8 rfl) rfl (by decide) ?_
  refine LW.irem (pc' := 16) C0 (q_d dL_law_0 9 rfl) rfl (by decide) (pk_rem (by omega) (by decide) (by decide)) ?_
  refine LW.callV (pc' := 19) C0 hK (q_d dL_law_0 10 rfl) rfl uX5_place wM_L_54 (c_placeY hX (by decide) (show y0 % 4 ≤ 3 by omega)) rfl rfl rfl (by decide) (Nat.le_of_ble_eq_true rfl) (fun v M2 q => ?_)
  obtain ⟨rfl, pa2, sw2, hX2⟩ := q
  obtain ⟨f1, k1, was1, hX2, z1, n1, i1⟩ : ∃ f1 k1 was1, RX M2 0 f1 k1 was1 0 (fun _ => 0) pa2 sw2 ∧ (∀ x, 14 ≤ x → x < 28 → f1 x = 0) ∧ f1 0 = 1 ∧ IN f1 := ⟨sPlace s00 (y0 % 4), _, _, hX2, Z_place Z_00 (by decide), rfl, IN_00.place (by decide)⟩
  show LT p l e s m below meth c b D tc 19 [(1, .ref s.heap.size), (0, .ref b)] [.int (nI (s00 0))] M2
  refine LW.if_ne (tgt := 73) (pc' := 22) C0 (q_d dL_law_0 11 rfl) (by decide) rfl (by decide) (fun h19 => ?_) (fun h19 => ?_)
  · exact absurd e0 h19
  · refine LW.aload_n (pc' := 23) C0 (q_d dL_law_0 12 rfl) rfl rfl 0 rfl ?_
    refine LW.aload_n (pc' := 24) C0 (q_d dL_law_0 13 rfl) rfl rfl 1 rfl ?_
    refine LW.iconst (pc' := 25) (v := nI 1) C0 (q_d dL_law_0 14 rfl) rfl (by decide) ?_
    refine LW.cell (pc' := 28) C0 hL9 (by decide) (q_d dL_law_0 15 rfl) rfl (Nat.le_of_ble_eq_true rfl) (fun y1 hy1 => ?_)
    refine LW.iconst (pc' := 29) (v := nI 4) C0 (q_d dL_law_0 16 rfl) rfl (by decide) ?_
    refine LW.irem (pc' := 30) C0 (q_d dL_law_0 17 rfl) rfl (by decide) (pk_rem (by omega) (by decide) (by decide)) ?_
    refine LW.callV (pc' := 33) C0 hK (q_d dL_law_0 18 rfl) rfl uX5_place wM_L_54 (c_placeY hX2 (by omega) (show y1 % 4 ≤ 3 by omega)) rfl rfl rfl (by decide) (Nat.le_of_ble_eq_true rfl) (fun v M3 q => ?_)
    obtain ⟨rfl, pa3, sw3, hX3⟩ := q
    obtain ⟨f2, k2, was2, hX3, z2, n2, i2⟩ : ∃ f2 k2 was2, RX M3 0 f2 k2 was2 0 (fun _ => 0) pa3 sw3 ∧ (∀ x, 14 ≤ x → x < 28 → f2 x = 0) ∧ f2 0 = 2 ∧ IN f2 := ⟨sPlace f1 (y1 % 4), _, _, hX3, Z_place z1 (by omega), congrArg (· + 1) n1, i1.place (by omega)⟩
    show LT p l e s m below meth c b D tc 33 [(1, .ref s.heap.size), (0, .ref b)] [.int (nI (f1 0))] M3
    refine LW.iconst (pc' := 34) (v := nI 1) C0 (q_d dL_law_0 19 rfl) rfl (by decide) ?_
    refine LW.icmp_ne (tgt := 73) (pc' := 37) C0 (q_d dL_law_0 20 rfl) (by decide) rfl n1 ?_
    refine LW.aload_n (pc' := 38) C0 (q_d dL_law_0 21 rfl) rfl rfl 0 rfl ?_
    refine LW.aload_n (pc' := 39) C0 (q_d dL_law_0 22 rfl) rfl rfl 1 rfl ?_
    refine LW.iconst (pc' := 40) (v := nI 2) C0 (q_d dL_law_0 23 rfl) rfl (by decide) ?_
    refine LW.cell (pc' := 43) C0 hL9 (by decide) (q_d dL_law_0 24 rfl) rfl (Nat.le_of_ble_eq_true rfl) (fun y2 hy2 => ?_)
    refine LW.iconst (pc' := 44) (v := nI 4) C0 (q_d dL_law_0 25 rfl) rfl (by decide) ?_
    refine LW.irem (pc' := 45) C0 (q_d dL_law_0 26 rfl) rfl (by decide) (pk_rem (by omega) (by decide) (by decide)) ?_
    refine LW.callV (pc' := 48) C0 hK (q_d dL_law_0 27 rfl) rfl uX5_place wM_L_54 (c_placeY hX3 (by omega) (show y2 % 4 ≤ 3 by omega)) rfl rfl rfl (by decide) (Nat.le_of_ble_eq_true rfl) (fun v M4 q => ?_)
    obtain ⟨rfl, pa4, sw4, hX4⟩ := q
    obtain ⟨f3, k3, was3, hX4, z3, n3, i3⟩ : ∃ f3 k3 was3, RX M4 0 f3 k3 was3 0 (fun _ => 0) pa4 sw4 ∧ (∀ x, 14 ≤ x → x < 28 → f3 x = 0) ∧ f3 0 = 3 ∧ IN f3 := ⟨sPlace f2 (y2 % 4), _, _, hX4, Z_place z2 (by omega), congrArg (· + 1) n2, i2.place (by omega)⟩
    show LT p l e s m below meth c b D tc 48 [(1, .ref s.heap.size), (0, .ref b)] [.int (nI (f2 0))] M4
    refine LW.iconst (pc' := 49) (v := nI 2) C0 (q_d dL_law_0 28 rfl) rfl (by decide) ?_
    refine LW.icmp_ne (tgt := 73) (pc' := 52) C0 (q_d dL_law_0 29 rfl) (by decide) rfl n2 ?_
    refine LW.aload_n (pc' := 53) C0 (q_d dL_law_0 30 rfl) rfl rfl 0 rfl ?_
    refine LW.iconst (pc' := 54) (v := nI 0) C0 (q_d dL_law_0 31 rfl) rfl (by decide) ?_
    refine LW.iconst (pc' := 55) (v := nI 1) C0 (q_d dL_law_0 32 rfl) rfl (by decide) ?_
    refine LW.callV (pc' := 58) C0 hK (q_d dL_law_0 33 rfl) rfl uX5_road wM_L_58 (c_roadY hX4 (u := 0) (v := 1) (by omega) (by omega) ⟨by decide, by rw [z3 (14 + 0) (by decide) (by decide)]; decide⟩) rfl rfl rfl (by decide) (Nat.le_of_ble_eq_true rfl) (fun v M5 q => ?_)
    obtain ⟨rfl, pa5, sw5, hX5⟩ := q
    have er := Z_rd z3 (by omega)
    obtain ⟨f4, k4, was4, hX5, n4, i4⟩ : ∃ f4 k4 was4, RX M5 0 f4 k4 was4 0 (fun _ => 0) pa5 sw5 ∧ f4 0 = 3 ∧ IN f4 := ⟨sRoad f3 0 1, _, _, hX5, (sRoad_out (s := f3) (i := 0) (j := 1) (x := 0) (by decide)).trans n3, i3.road (by decide)⟩
    show LT p l e s m below meth c b D tc 58 [(1, .ref s.heap.size), (0, .ref b)] [.int (nI (rdN f3 14 + 1))] M5
    refine LW.iconst (pc' := 59) (v := nI 1) C0 (q_d dL_law_0 34 rfl) rfl (by decide) ?_
    refine LW.icmp_ne (tgt := 73) (pc' := 62) C0 (q_d dL_law_0 35 rfl) (by decide) rfl (by omega) ?_
    refine LW.aload_n (pc' := 63) C0 (q_d dL_law_0 36 rfl) rfl rfl 0 rfl ?_
    refine LW.callS (pc' := 66) C0 hK (q_d dL_law_0 37 rfl) rfl uL_holds wM_L_76 (c_holds (by decide) hX5 i4) rfl rfl (by decide) (Nat.le_of_ble_eq_true rfl) (fun v M6 q => ?_)
    obtain ⟨rfl, pa6, sw6, hX6⟩ := q
    replace hX6 : RX M6 0 f4 k4 was4 0 (fun _ => 0) pa6 sw6 := hX6
    show LT p l e s m below meth c b D tc 66 [(1, .ref s.heap.size), (0, .ref b)] [.int (nI 1)] M6
    refine LW.if_eq (tgt := 73) (pc' := 69) C0 (q_d dL_law_0 38 rfl) (by decide) rfl (by decide) (fun h66 => ?_) (fun h66 => ?_)
    · exact absurd h66 (by decide)
    · refine LW.iconst (pc' := 70) (v := nI 1) C0 (q_d dL_law_0 39 rfl) rfl (by decide) ?_
      refine LW.goto (tgt := 74) C0 (q_d dL_law_1 0 rfl) (by decide) ?_
      refine LW.istore_n (pc' := 75) (lv' := [(2, .int (nI 1)), (1, .ref s.heap.size), (0, .ref b)]) C0 (q_d dL_law_1 2 rfl) rfl rfl (by decide) rfl ?_
      refine LW.iconst (pc' := 76) (v := nI 0) C0 (q_d dL_law_1 3 rfl) rfl (by decide) ?_
      refine LW.istore_n (pc' := 77) (lv' := [(3, .int (nI 0)), (2, .int (nI 1)), (1, .ref s.heap.size), (0, .ref b)]) C0 (q_d dL_law_1 4 rfl) rfl rfl (by decide) rfl ?_
      exact law_loop C0 hK hL9 16 0 M6 f4 k4 was4 0 (fun _ => 0) pa6 sw6 (by decide) hX6 i4 (by omega)
theorem whole_start {p : Program} {e : Env} {s : State} {m : MethodId} {below : List Frame} {meth : Method} {c : Code} (l : Launch) (hflags : l.flags = flags0) {b L : Nat} {xs : Nat → Int32} (hL : L ≤ 260) (C0 : lw_At p s m meth c b L xs) : W p l e room_1 s m #[Value.ref b] below meth c s.heap [] 0 0 (lw_Z below #[Value.ref b] s) (entryFrame m ([Value.ref b] : List Value).toArray 5) := by
  obtain ⟨hx, hb, hr, hml, hown, hts, hX, hbl, hlocks, hgv⟩ := id C0
  obtain ⟨hN, D, tc, hK⟩ := q_words C0
  have hl := lv_entry ([.ref b]) (n := 5) (Nat.le_of_ble_eq_true rfl)
  rw [lg_entry_eq]
  generalize (lg_sl ([.ref b]) ++ List.replicate (5 - (lg_sl ([.ref b])).length) Slot.unset).toArray = ls at hl ⊢
  have hl : lv_has ls 5 [(0, .ref b)] := hl
  refine lw_make C0 hK hN (q_d dL_law_0 0 rfl) (q_d dL_law_0 1 rfl) (q_d dL_law_0 2 rfl) uX5_init wM_L_71 i_X5 rfl rfl inX5 tyX5 tyX5_ok wL_L_10 wO_X5 hX_fs hl.1 (by decide) (Nat.le_of_ble_eq_true rfl) rfl va_S.rf (fun v M1 H1 locs1 hq hP1 hS1 hz1 _ => ?_)
  obtain ⟨rfl, rfl⟩ := hq
  refine lv_astore_n (lv' := [(1, .ref s.heap.size), (0, .ref b)]) hx hb (q_d dL_law_0 3 rfl) rfl hl (by decide) rfl (fun ls hl => ?_)
  exact law_begin C0 hK hL H1 locs1 ls hS1 hP1 hl
end LawStart
end
section
set_option maxHeartbeats 4000000 in
theorem lw_walk (l : Launch) (hflags : l.flags = flags0) (b : Addr) (xs : List Int32) : MetFree l x (headSpec (Jvm.Cond.code x code maxLocals ret :: tables_1) room_1) (lw_P b xs) (fun _ _ _ _ _ => True) lw_Q := by
  refine MetFree.of_bodyS (code := code) (maxLocals := maxLocals) (ret := ret) (by decide) ?_ ?_
  · intro args s m h hn
    obtain ⟨meth, c, h1, h2, h3, h4, h5, h6, -, -⟩ := Cond.code_spec hn (atoms_spec (ws := Jvm.Cond.code x code maxLocals ret :: tables_1) h _ List.mem_cons_self)
    exact ⟨meth, c, h1, h2, h3, h4, h5, h6⟩
  · intro p e s m args below meth c s₁ B hml0 hP _
    obtain ⟨rfl, hx, hbd, hgv⟩ := hP
    obtain ⟨scr, harrAt, hlist, hof, hsmall⟩ := hx
    obtain ⟨hcb, hkn, -, -⟩ := State.arrayAt?_spec harrAt
    have hown : s.vm.findClass R_law = some m.cls := findClass_of_methodNamed B.named
    have hts0 : ∀ c ∈ (Jvm.Cond.code x code maxLocals ret :: tables_1), c.before #[Value.ref b] s = true := atoms_spec (ws := Jvm.Cond.code x code maxLocals ret :: tables_1) B.pre
    have hts : ∀ w ∈ lw_tbl, w.before #[Value.ref b] s = true := k2_hts_sels lw_privs (fun w hw => hts0 w (List.mem_cons_of_mem _ hw)) lw_privs_ok
    have hml : c.maxLocals = 5 := B.maxLocals_eq (hts0 _ List.mem_cons_self)
    have X₀ : Stand p l e room_1 s m #[Value.ref b] below meth c s₁ [] 0 0 := Stand.of_body B
    have hh0 : s₁.heap = s.heap := by rw [B.state]; rfl
    have hsz : scr.slots.size = xs.length := by rw [← Array.length_toList, hlist, List.length_map]
    have hval : ∀ j : Nat, j < xs.length → scr.slots[j]? = some (.int (xs.getD j 0)) := fun j hj => by
      rw [← Array.getElem?_toList, hlist]
      simp [hj]
    have hbl : b < s.heap.size := (Array.getElem?_eq_some_iff.mp hcb).1
    have hX : va_X b xs.length (fun j => xs.getD j 0) s s.heap := ⟨scr, hcb, hof, hkn, hsz, hval⟩
    have K : W p l e room_1 s m #[Value.ref b] below meth c s₁.heap [] 0 0 (lw_Z below #[Value.ref b] s) (entryFrame m ([Value.ref b] : List Value).toArray 5) := by
      rw [hh0]
      exact whole_start l hflags hbd ⟨B.exec, B.bytes, B.returns, hml, hown, hts, hX, hbl, B.notSynchronized, hgv⟩
    obtain ⟨t, a1, o, b1, b2, b3⟩ := K s₁ rfl X₀
    exact ⟨t, o, a1, b1, b2, b3⟩
theorem lw_pre_spec {args : Array Value} {s : State} (h : (Jvm.Cond.and given_1 narrow_1).before args s = true) (hr : rest_1_c.before args s = true) : ∃ (b : Addr) (xs : List Int32), lw_P b xs args s := by
  have hs := flat_of_before _ h
  have hq := flat_of_before _ hr
  have hc : (Cond.count 1).before args s = true := hs _ (by decide +kernel)
  have harr : (Cond.arrayOf (.arg 0) .int).before args s = true := hs _ (by decide +kernel)
  have hle : (Cond.le (.length (.arg 0)) (.int 260)).before args s = true := hs _ (by decide +kernel)
  have hlen : (Cond.isInt (.length (.arg 0))).before args s = true := hq _ (by decide +kernel)
  have hall : (Cond.all (.arg 0) (.isInt (.elem (.arg 0) (.index 0)))).before args s = true := hq _ (by decide +kernel)
  obtain ⟨b, xs, hb, hx⟩ := State.ints_of_pre rfl harr hlen hall
  have hsm : xs.length < 2 ^ 31 := hx.choose_spec.2.2.2
  have hev : (Term.length (.arg 0)).eval args s none [] s = some (.int xs.length.toInt32) := hx.length_eval hb
  have hv := Cond.le_ints hev (show (Term.int 260).eval args s none [] s = some (.int 260) from rfl)
  have hd : xs.length.toInt32 ≤ 260 := by
    simpa [Cond.before, Cond.holds, hv] using hle
  have hN : xs.length ≤ 260 := (Int32.ofNat_le_ofNat hsm (by decide)).mp (show Int32.ofNat xs.length ≤ Int32.ofNat 260 from hd)
  exact ⟨b, xs, Cond.one_arg hc (show args[0]? = some (.ref b) from hb), hx, hN, h⟩
theorem lw_comes (l : Launch) (hflags : l.flags = flags0) : Comes l x (Jvm.Cond.code x code maxLocals ret :: tables_1) room_1 (fun tb e args s => Calls_1 tb e args s ∧ rest_1 tb e args s ∧ Pre_1 tb e args s)
    (fun _ _ args s o t => lw_Q args s o t) := by
  intro p e ha hc hk s m args below hf hfit hheap happ hpre
  obtain ⟨b, xs, hP⟩ := lw_pre_spec hpre.2.2 hpre.2.1
  obtain ⟨k, o, h1, h2, h3, hQ⟩ := lw_walk l hflags b xs p e ha hc hk s m args below hf ((Spec.applies_iff_loose hf).mp happ).1 hP trivial
  exact ⟨k, o, h1, h2, h3, hQ⟩
theorem lw_frame {s t : State} {o : Outcome} {args : Array Value} (h : Framed s o t [] 600000 7302250) :
    Framed s o t (fieldLocs frame_1_writes args s ++ arrayLocs frame_1_arrays args s ++ staticLocs frame_1_statics s) 600000 7302250 := h
theorem lw_limb (L : Cond) (hL : ∀ (args : Array Value) (s t : State), L.after args s (.returned (some (.int 1))) t = true) :
    ArmFor flags0 classFile x code maxLocals ret World_1 tables_1 room_1 Calls_1 rest_1 Pre_1
      (fun tb e a s o t => postC L tb e a s o t ∧ Framed s o t (fieldLocs frame_1_writes a s ++ arrayLocs frame_1_arrays a s ++ staticLocs frame_1_statics s) 600000 7302250) := by
  intro l hflags _ _ p e ha hc hk s m args below hf hfit hheap happ hpre
  obtain ⟨k, o, h1, h2, h3, rfl, hF⟩ := lw_comes l hflags p e ha hc hk s m args below hf hfit hheap happ hpre
  exact ⟨k, _, h1, h2, h3, hL args s _, lw_frame hF⟩
theorem i_vc : Claimed_1_1 ∧ Claimed_1_2 := ⟨lw_limb limb_1_1 (fun args s t => by simp [limb_1_1, Cond.after, Cond.holds, Cond.value]), lw_limb limb_1_2 (fun args s t => Cond.after_iff.mpr (by
  first | (rw [show limb_1_2 = Cond.eq .result (.int 1) from rfl, Cond.eq_ints (x := 1) (y := 1) rfl rfl]; simp; done) | (simp [limb_1_2, Cond.value, Term.eval]; done)))⟩
end

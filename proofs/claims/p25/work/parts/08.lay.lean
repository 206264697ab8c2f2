abbrev mX0_init : qMI := (cX0_init, yX0_init, 3, none, { frames := 1, cells := 2, slots := 256, locals := 20 })
theorem uX0_init : qCtor mX0_init 2 := ⟨wI_X0_init, rfl, rfl, ⟨wC_X0_init, wZ_X0, by decide +kernel, by decide +kernel, by decide +kernel⟩⟩
abbrev mX0_solve : qMI := (cX0_solve, yX0_solve, 4, none, { frames := 4, cells := 0, slots := 0, locals := 98 })
theorem uX0_solve : qVirt mX0_solve 1 := ⟨wI_X0_solve, wS_X0_solve, ⟨wC_X0_solve, wZ_X0, by decide +kernel, by decide +kernel, by decide +kernel⟩⟩
abbrev mX0_solveLevel : qMI := (cX0_solveLevel, yX0_solveLevel, 5, (some .boolean), { frames := 3, cells := 0, slots := 0, locals := 74 })
theorem uX0_solveLevel : qVirt mX0_solveLevel 2 := ⟨wI_X0_solveLevel, wS_X0_solveLevel, ⟨wC_X0_solveLevel, wZ_X0, by decide +kernel, by decide +kernel, by decide +kernel⟩⟩
abbrev mX0_partsAreSure : qMI := (cX0_partsAreSure, yX0_partsAreSure, 4, (some .boolean), { frames := 0, cells := 0, slots := 0, locals := 0 })
theorem uX0_partsAreSure : qVirt mX0_partsAreSure 1 := ⟨wI_X0_partsAreSure, wS_X0_partsAreSure, ⟨wC_X0_partsAreSure, wZ_X0, by decide +kernel, by decide +kernel, by decide +kernel⟩⟩
abbrev mX0_settle : qMI := (cX0_settle, yX0_settle, 5, (some .boolean), { frames := 2, cells := 0, slots := 0, locals := 50 })
theorem uX0_settle : qVirt mX0_settle 3 := ⟨wI_X0_settle, wS_X0_settle, ⟨wC_X0_settle, wZ_X0, by decide +kernel, by decide +kernel, by decide +kernel⟩⟩
abbrev mX0_leadsLower : qMI := (cX0_leadsLower, yX0_leadsLower, 7, (some .boolean), { frames := 1, cells := 0, slots := 0, locals := 24 })
theorem uX0_leadsLower : qVirt mX0_leadsLower 4 := ⟨wI_X0_leadsLower, wS_X0_leadsLower, ⟨wC_X0_leadsLower, wZ_X0, by decide +kernel, by decide +kernel, by decide +kernel⟩⟩
abbrev mX0_countSure : qMI := (cX0_countSure, yX0_countSure, 4, (some .int), { frames := 0, cells := 0, slots := 0, locals := 0 })
theorem uX0_countSure : qVirt mX0_countSure 1 := ⟨wI_X0_countSure, wS_X0_countSure, ⟨wC_X0_countSure, wZ_X0, by decide +kernel, by decide +kernel, by decide +kernel⟩⟩
abbrev mX0_hardestBelief : qMI := (cX0_hardestBelief, yX0_hardestBelief, 4, (some .int), { frames := 2, cells := 0, slots := 0, locals := 44 })
theorem uX0_hardestBelief : qVirt mX0_hardestBelief 1 := ⟨wI_X0_hardestBelief, wS_X0_hardestBelief, ⟨wC_X0_hardestBelief, wZ_X0, by decide +kernel, by decide +kernel, by decide +kernel⟩⟩
abbrev mX0_mostNeeded : qMI := (cX0_mostNeeded, yX0_mostNeeded, 4, (some .int), { frames := 1, cells := 0, slots := 0, locals := 21 })
theorem uX0_mostNeeded : qVirt mX0_mostNeeded 1 := ⟨wI_X0_mostNeeded, wS_X0_mostNeeded, ⟨wC_X0_mostNeeded, wZ_X0, by decide +kernel, by decide +kernel, by decide +kernel⟩⟩
abbrev mX1_init : qMI := (cX1_init, yX1_init, 1, none, { frames := 1, cells := 8, slots := 778, locals := 20 })
theorem uX1_init : qCtor mX1_init 0 := ⟨wI_X1_init, rfl, rfl, ⟨wC_X1_init, wZ_X1, by decide +kernel, by decide +kernel, by decide +kernel⟩⟩
abbrev mX1_build : qMI := (cX1_build, yX1_build, 3, none, { frames := 3, cells := 0, slots := 0, locals := 67 })
theorem uX1_build : qVirt mX1_build 1 := ⟨wI_X1_build, wS_X1_build, ⟨wC_X1_build, wZ_X1, by decide +kernel, by decide +kernel, by decide +kernel⟩⟩
abbrev mX1_buildPlace : qMI := (cX1_buildPlace, yX1_buildPlace, 5, none, { frames := 2, cells := 0, slots := 0, locals := 43 })
theorem uX1_buildPlace : qVirt mX1_buildPlace 2 := ⟨wI_X1_buildPlace, wS_X1_buildPlace, ⟨wC_X1_buildPlace, wZ_X1, by decide +kernel, by decide +kernel, by decide +kernel⟩⟩
abbrev mX1_spread : qMI := (cX1_spread, yX1_spread, 4, none, { frames := 0, cells := 0, slots := 0, locals := 0 })
theorem uX1_spread : qVirt mX1_spread 2 := ⟨wI_X1_spread, wS_X1_spread, ⟨wC_X1_spread, wZ_X1, by decide +kernel, by decide +kernel, by decide +kernel⟩⟩
abbrev mX1_listChecks : qMI := (cX1_listChecks, yX1_listChecks, 3, none, { frames := 1, cells := 0, slots := 0, locals := 20 })
theorem uX1_listChecks : qVirt mX1_listChecks 1 := ⟨wI_X1_listChecks, wS_X1_listChecks, ⟨wC_X1_listChecks, wZ_X1, by decide +kernel, by decide +kernel, by decide +kernel⟩⟩
abbrev mX1_after : qMI := (cX1_after, yX1_after, 5, (some .int), { frames := 0, cells := 0, slots := 0, locals := 0 })
theorem uX1_after : qVirt mX1_after 3 := ⟨wI_X1_after, wS_X1_after, ⟨wC_X1_after, wZ_X1, by decide +kernel, by decide +kernel, by decide +kernel⟩⟩
abbrev mX2_init : qMI := (cX2_init, yX2_init, 1, none, { frames := 1, cells := 1, slots := 60, locals := 20 })
theorem uX2_init : qCtor mX2_init 0 := ⟨wI_X2_init, rfl, rfl, ⟨wC_X2_init, wZ_X2, by decide +kernel, by decide +kernel, by decide +kernel⟩⟩
abbrev mX3_init : qMI := (cX3_init, yX3_init, 1, none, { frames := 1, cells := 7, slots := 48, locals := 20 })
theorem uX3_init : qCtor mX3_init 0 := ⟨wI_X3_init, rfl, rfl, ⟨wC_X3_init, wZ_X3, by decide +kernel, by decide +kernel, by decide +kernel⟩⟩
abbrev mX3_takeFrom : qMI := (cX3_takeFrom, yX3_takeFrom, 3, none, { frames := 0, cells := 0, slots := 0, locals := 0 })
theorem uX3_takeFrom : qVirt mX3_takeFrom 1 := ⟨wI_X3_takeFrom, wS_X3_takeFrom, ⟨wC_X3_takeFrom, wZ_X3, by decide +kernel, by decide +kernel, by decide +kernel⟩⟩
abbrev mX3_sets : qMI := (cX3_sets, yX3_sets, 1, (some .int), { frames := 0, cells := 0, slots := 0, locals := 0 })
theorem uX3_sets : qVirt mX3_sets 0 := ⟨wI_X3_sets, wS_X3_sets, ⟨wC_X3_sets, wZ_X3, by decide +kernel, by decide +kernel, by decide +kernel⟩⟩
abbrev mX3_addPlace : qMI := (cX3_addPlace, yX3_addPlace, 2, (some .int), { frames := 0, cells := 0, slots := 0, locals := 0 })
theorem uX3_addPlace : qVirt mX3_addPlace 1 := ⟨wI_X3_addPlace, wS_X3_addPlace, ⟨wC_X3_addPlace, wZ_X3, by decide +kernel, by decide +kernel, by decide +kernel⟩⟩
abbrev mX3_hasRoad : qMI := (cX3_hasRoad, yX3_hasRoad, 3, (some .boolean), { frames := 0, cells := 0, slots := 0, locals := 0 })
theorem uX3_hasRoad : qVirt mX3_hasRoad 2 := ⟨wI_X3_hasRoad, wS_X3_hasRoad, ⟨wC_X3_hasRoad, wZ_X3, by decide +kernel, by decide +kernel, by decide +kernel⟩⟩
abbrev mX3_hasOpenRoad : qMI := (cX3_hasOpenRoad, yX3_hasOpenRoad, 3, (some .boolean), { frames := 0, cells := 0, slots := 0, locals := 0 })
theorem uX3_hasOpenRoad : qVirt mX3_hasOpenRoad 2 := ⟨wI_X3_hasOpenRoad, wS_X3_hasOpenRoad, ⟨wC_X3_hasOpenRoad, wZ_X3, by decide +kernel, by decide +kernel, by decide +kernel⟩⟩
abbrev mX3_addRoad : qMI := (cX3_addRoad, yX3_addRoad, 3, none, { frames := 1, cells := 0, slots := 0, locals := 22 })
theorem uX3_addRoad : qVirt mX3_addRoad 2 := ⟨wI_X3_addRoad, wS_X3_addRoad, ⟨wC_X3_addRoad, wZ_X3, by decide +kernel, by decide +kernel, by decide +kernel⟩⟩
abbrev mX3_turnRoad : qMI := (cX3_turnRoad, yX3_turnRoad, 3, none, { frames := 0, cells := 0, slots := 0, locals := 0 })
theorem uX3_turnRoad : qVirt mX3_turnRoad 2 := ⟨wI_X3_turnRoad, wS_X3_turnRoad, ⟨wC_X3_turnRoad, wZ_X3, by decide +kernel, by decide +kernel, by decide +kernel⟩⟩
abbrev mX3_countRoads : qMI := (cX3_countRoads, yX3_countRoads, 4, (some .int), { frames := 1, cells := 0, slots := 0, locals := 20 })
theorem uX3_countRoads : qVirt mX3_countRoads 1 := ⟨wI_X3_countRoads, wS_X3_countRoads, ⟨wC_X3_countRoads, wZ_X3, by decide +kernel, by decide +kernel, by decide +kernel⟩⟩
abbrev mX3_reach : qMI := (cX3_reach, yX3_reach, 7, (some .int), { frames := 0, cells := 0, slots := 0, locals := 0 })
theorem uX3_reach : qVirt mX3_reach 1 := ⟨wI_X3_reach, wS_X3_reach, ⟨wC_X3_reach, wZ_X3, by decide +kernel, by decide +kernel, by decide +kernel⟩⟩
abbrev mX3_signalOf : qMI := (cX3_signalOf, yX3_signalOf, 3, (some .int), { frames := 1, cells := 0, slots := 0, locals := 21 })
theorem uX3_signalOf : qVirt mX3_signalOf 2 := ⟨wI_X3_signalOf, wS_X3_signalOf, ⟨wC_X3_signalOf, wZ_X3, by decide +kernel, by decide +kernel, by decide +kernel⟩⟩
abbrev mX3_isCaught : qMI := (cX3_isCaught, yX3_isCaught, 1, (some .boolean), { frames := 0, cells := 0, slots := 0, locals := 0 })
theorem uX3_isCaught : qVirt mX3_isCaught 0 := ⟨wI_X3_isCaught, wS_X3_isCaught, ⟨wC_X3_isCaught, wZ_X3, by decide +kernel, by decide +kernel, by decide +kernel⟩⟩
abbrev mX3_rowOfRound : qMI := (cX3_rowOfRound, yX3_rowOfRound, 1, (some .int), { frames := 0, cells := 0, slots := 0, locals := 0 })
theorem uX3_rowOfRound : qStat mX3_rowOfRound 1 := ⟨wT_X3_rowOfRound, ⟨wC_X3_rowOfRound, wZ_X3, by decide +kernel, by decide +kernel, by decide +kernel⟩⟩
abbrev mX3_canBeRound : qMI := (cX3_canBeRound, yX3_canBeRound, 5, (some .boolean), { frames := 1, cells := 0, slots := 0, locals := 24 })
theorem uX3_canBeRound : qVirt mX3_canBeRound 3 := ⟨wI_X3_canBeRound, wS_X3_canBeRound, ⟨wC_X3_canBeRound, wZ_X3, by decide +kernel, by decide +kernel, by decide +kernel⟩⟩
abbrev mX3_addRound : qMI := (cX3_addRound, yX3_addRound, 5, none, { frames := 1, cells := 0, slots := 0, locals := 24 })
theorem uX3_addRound : qVirt mX3_addRound 3 := ⟨wI_X3_addRound, wS_X3_addRound, ⟨wC_X3_addRound, wZ_X3, by decide +kernel, by decide +kernel, by decide +kernel⟩⟩
abbrev mX4_init : qMI := (cX4_init, yX4_init, 1, none, { frames := 1, cells := 2, slots := 14, locals := 20 })
theorem uX4_init : qCtor mX4_init 0 := ⟨wI_X4_init, rfl, rfl, ⟨wC_X4_init, wZ_X4, by decide +kernel, by decide +kernel, by decide +kernel⟩⟩
abbrev mX5_init : qMI := (cX5_init, yX5_init, 2, none, { frames := 2, cells := 70, slots := 1869, locals := 42 })
theorem uX5_init : qCtor mX5_init 0 := ⟨wI_X5_init, rfl, rfl, ⟨wC_X5_init, wZ_X5, by decide +kernel, by decide +kernel, by decide +kernel⟩⟩
abbrev mX5_place : qMI := (cX5_place, yX5_place, 2, (some .int), { frames := 2, cells := 0, slots := 0, locals := 42 })
theorem uX5_place : qVirt mX5_place 1 := ⟨wI_X5_place, wS_X5_place, ⟨wC_X5_place, wZ_X5, by decide +kernel, by decide +kernel, by decide +kernel⟩⟩
abbrev mX5_road : qMI := (cX5_road, yX5_road, 3, (some .int), { frames := 3, cells := 0, slots := 0, locals := 65 })
theorem uX5_road : qVirt mX5_road 2 := ⟨wI_X5_road, wS_X5_road, ⟨wC_X5_road, wZ_X5, by decide +kernel, by decide +kernel, by decide +kernel⟩⟩
abbrev mX5_shut : qMI := (cX5_shut, yX5_shut, 5, (some .int), { frames := 3, cells := 0, slots := 0, locals := 65 })
theorem uX5_shut : qVirt mX5_shut 3 := ⟨wI_X5_shut, wS_X5_shut, ⟨wC_X5_shut, wZ_X5, by decide +kernel, by decide +kernel, by decide +kernel⟩⟩
abbrev mX5_set : qMI := (cX5_set, yX5_set, 4, (some .int), { frames := 2, cells := 0, slots := 0, locals := 43 })
theorem uX5_set : qVirt mX5_set 2 := ⟨wI_X5_set, wS_X5_set, ⟨wC_X5_set, wZ_X5, by decide +kernel, by decide +kernel, by decide +kernel⟩⟩
abbrev mX5_believe : qMI := (cX5_believe, yX5_believe, 2, (some .int), { frames := 2, cells := 0, slots := 0, locals := 43 })
theorem uX5_believe : qVirt mX5_believe 1 := ⟨wI_X5_believe, wS_X5_believe, ⟨wC_X5_believe, wZ_X5, by decide +kernel, by decide +kernel, by decide +kernel⟩⟩
abbrev mX5_check : qMI := (cX5_check, yX5_check, 4, (some .int), { frames := 5, cells := 0, slots := 0, locals := 109 })
theorem uX5_check : qVirt mX5_check 2 := ⟨wI_X5_check, wS_X5_check, ⟨wC_X5_check, wZ_X5, by decide +kernel, by decide +kernel, by decide +kernel⟩⟩
abbrev mX5_placeOf : qMI := (cX5_placeOf, yX5_placeOf, 3, (some .int), { frames := 2, cells := 0, slots := 0, locals := 43 })
theorem uX5_placeOf : qVirt mX5_placeOf 2 := ⟨wI_X5_placeOf, wS_X5_placeOf, ⟨wC_X5_placeOf, wZ_X5, by decide +kernel, by decide +kernel, by decide +kernel⟩⟩
abbrev mX5_behind : qMI := (cX5_behind, yX5_behind, 4, (some .int), { frames := 5, cells := 0, slots := 0, locals := 109 })
theorem uX5_behind : qVirt mX5_behind 3 := ⟨wI_X5_behind, wS_X5_behind, ⟨wC_X5_behind, wZ_X5, by decide +kernel, by decide +kernel, by decide +kernel⟩⟩
abbrev mX5_sure : qMI := (cX5_sure, yX5_sure, 4, (some .int), { frames := 6, cells := 0, slots := 0, locals := 141 })
theorem uX5_sure : qVirt mX5_sure 2 := ⟨wI_X5_sure, wS_X5_sure, ⟨wC_X5_sure, wZ_X5, by decide +kernel, by decide +kernel, by decide +kernel⟩⟩
abbrev mX5_deaf : qMI := (cX5_deaf, yX5_deaf, 3, (some .int), { frames := 6, cells := 0, slots := 0, locals := 141 })
theorem uX5_deaf : qVirt mX5_deaf 1 := ⟨wI_X5_deaf, wS_X5_deaf, ⟨wC_X5_deaf, wZ_X5, by decide +kernel, by decide +kernel, by decide +kernel⟩⟩
abbrev mX5_memory : qMI := (cX5_memory, yX5_memory, 3, (some .int), { frames := 6, cells := 0, slots := 0, locals := 141 })
theorem uX5_memory : qVirt mX5_memory 1 := ⟨wI_X5_memory, wS_X5_memory, ⟨wC_X5_memory, wZ_X5, by decide +kernel, by decide +kernel, by decide +kernel⟩⟩
abbrev mX5_beliefs : qMI := (cX5_beliefs, yX5_beliefs, 2, (some .int), { frames := 6, cells := 0, slots := 0, locals := 141 })
theorem uX5_beliefs : qVirt mX5_beliefs 1 := ⟨wI_X5_beliefs, wS_X5_beliefs, ⟨wC_X5_beliefs, wZ_X5, by decide +kernel, by decide +kernel, by decide +kernel⟩⟩
abbrev mX5_count : qMI := (cX5_count, yX5_count, 2, (some .int), { frames := 2, cells := 0, slots := 0, locals := 43 })
theorem uX5_count : qVirt mX5_count 1 := ⟨wI_X5_count, wS_X5_count, ⟨wC_X5_count, wZ_X5, by decide +kernel, by decide +kernel, by decide +kernel⟩⟩
abbrev mX5_undo : qMI := (cX5_undo, yX5_undo, 1, (some .int), { frames := 1, cells := 0, slots := 0, locals := 22 })
theorem uX5_undo : qVirt mX5_undo 0 := ⟨wI_X5_undo, wS_X5_undo, ⟨wC_X5_undo, wZ_X5, by decide +kernel, by decide +kernel, by decide +kernel⟩⟩
abbrev mX5_isWithin : qMI := (cX5_isWithin, yX5_isWithin, 3, (some .boolean), { frames := 0, cells := 0, slots := 0, locals := 0 })
theorem uX5_isWithin : qStat mX5_isWithin 3 := ⟨wT_X5_isWithin, ⟨wC_X5_isWithin, wZ_X5, by decide +kernel, by decide +kernel, by decide +kernel⟩⟩
abbrev mX5_isPlace : qMI := (cX5_isPlace, yX5_isPlace, 2, (some .boolean), { frames := 1, cells := 0, slots := 0, locals := 22 })
theorem uX5_isPlace : qVirt mX5_isPlace 1 := ⟨wI_X5_isPlace, wS_X5_isPlace, ⟨wC_X5_isPlace, wZ_X5, by decide +kernel, by decide +kernel, by decide +kernel⟩⟩
abbrev mX5_arePlaces : qMI := (cX5_arePlaces, yX5_arePlaces, 3, (some .boolean), { frames := 2, cells := 0, slots := 0, locals := 43 })
theorem uX5_arePlaces : qVirt mX5_arePlaces 2 := ⟨wI_X5_arePlaces, wS_X5_arePlaces, ⟨wC_X5_arePlaces, wZ_X5, by decide +kernel, by decide +kernel, by decide +kernel⟩⟩
abbrev mX5_isSet : qMI := (cX5_isSet, yX5_isSet, 2, (some .boolean), { frames := 1, cells := 0, slots := 0, locals := 22 })
theorem uX5_isSet : qVirt mX5_isSet 1 := ⟨wI_X5_isSet, wS_X5_isSet, ⟨wC_X5_isSet, wZ_X5, by decide +kernel, by decide +kernel, by decide +kernel⟩⟩
abbrev mX5_isSetting : qMI := (cX5_isSetting, yX5_isSetting, 2, (some .boolean), { frames := 1, cells := 0, slots := 0, locals := 22 })
theorem uX5_isSetting : qStat mX5_isSetting 2 := ⟨wT_X5_isSetting, ⟨wC_X5_isSetting, wZ_X5, by decide +kernel, by decide +kernel, by decide +kernel⟩⟩
abbrev mX5_record : qMI := (cX5_record, yX5_record, 1, none, { frames := 1, cells := 0, slots := 0, locals := 22 })
theorem uX5_record : qVirt mX5_record 0 := ⟨wI_X5_record, wS_X5_record, ⟨wC_X5_record, wZ_X5, by decide +kernel, by decide +kernel, by decide +kernel⟩⟩
abbrev mX5_dropOldest : qMI := (cX5_dropOldest, yX5_dropOldest, 3, none, { frames := 0, cells := 0, slots := 0, locals := 0 })
theorem uX5_dropOldest : qVirt mX5_dropOldest 0 := ⟨wI_X5_dropOldest, wS_X5_dropOldest, ⟨wC_X5_dropOldest, wZ_X5, by decide +kernel, by decide +kernel, by decide +kernel⟩⟩
abbrev mX5_forgetTables : qMI := (cX5_forgetTables, yX5_forgetTables, 1, none, { frames := 0, cells := 0, slots := 0, locals := 0 })
theorem uX5_forgetTables : qVirt mX5_forgetTables 0 := ⟨wI_X5_forgetTables, wS_X5_forgetTables, ⟨wC_X5_forgetTables, wZ_X5, by decide +kernel, by decide +kernel, by decide +kernel⟩⟩
abbrev mX5_standingMoves : qMI := (cX5_standingMoves, yX5_standingMoves, 1, (some (.object "BlindHunts$Moves")), { frames := 4, cells := 0, slots := 0, locals := 89 })
theorem uX5_standingMoves : qVirt mX5_standingMoves 0 := ⟨wI_X5_standingMoves, wS_X5_standingMoves, ⟨wC_X5_standingMoves, wZ_X5, by decide +kernel, by decide +kernel, by decide +kernel⟩⟩
abbrev mX5_standingHearing : qMI := (cX5_standingHearing, yX5_standingHearing, 1, (some (.object "BlindHunts$Hunt")), { frames := 5, cells := 0, slots := 0, locals := 121 })
theorem uX5_standingHearing : qVirt mX5_standingHearing 0 := ⟨wI_X5_standingHearing, wS_X5_standingHearing, ⟨wC_X5_standingHearing, wZ_X5, by decide +kernel, by decide +kernel, by decide +kernel⟩⟩
abbrev mX5_standingUnhearing : qMI := (cX5_standingUnhearing, yX5_standingUnhearing, 1, (some (.object "BlindHunts$Hunt")), { frames := 5, cells := 0, slots := 0, locals := 121 })
theorem uX5_standingUnhearing : qVirt mX5_standingUnhearing 0 := ⟨wI_X5_standingUnhearing, wS_X5_standingUnhearing, ⟨wC_X5_standingUnhearing, wZ_X5, by decide +kernel, by decide +kernel, by decide +kernel⟩⟩
abbrev mX5_countComing : qMI := (cX5_countComing, yX5_countComing, 6, (some .int), { frames := 2, cells := 0, slots := 0, locals := 47 })
theorem uX5_countComing : qVirt mX5_countComing 2 := ⟨wI_X5_countComing, wS_X5_countComing, ⟨wC_X5_countComing, wZ_X5, by decide +kernel, by decide +kernel, by decide +kernel⟩⟩
abbrev mX5_markNext : qMI := (cX5_markNext, yX5_markNext, 4, none, { frames := 1, cells := 0, slots := 0, locals := 24 })
theorem uX5_markNext : qVirt mX5_markNext 2 := ⟨wI_X5_markNext, wS_X5_markNext, ⟨wC_X5_markNext, wZ_X5, by decide +kernel, by decide +kernel, by decide +kernel⟩⟩
abbrev mJ6_bitCount_0f7a4 : qMI := (cJ6_bitCount_0f7a4, yJ6_bitCount_0f7a4, 1, (some .int), { frames := 0, cells := 0, slots := 0, locals := 0 })
theorem uJ6_bitCount_0f7a4 : qStat mJ6_bitCount_0f7a4 1 := ⟨wT_J6_bitCount_0f7a4, ⟨wC_J6_bitCount_0f7a4, wZ_J6, by decide +kernel, by decide +kernel, by decide +kernel⟩⟩
abbrev mL_cell : qMI := (cL_cell, yL_cell, 2, (some .int), { frames := 0, cells := 0, slots := 0, locals := 0 })
theorem uL_cell : qStat mL_cell 2 := ⟨wT_L_cell, ⟨wC_L_cell, wZ_L, by decide +kernel, by decide +kernel, by decide +kernel⟩⟩
abbrev mL_bits : qMI := (cL_bits, yL_bits, 3, (some .int), { frames := 0, cells := 0, slots := 0, locals := 0 })
theorem uL_bits : qStat mL_bits 1 := ⟨wT_L_bits, ⟨wC_L_bits, wZ_L, by decide +kernel, by decide +kernel, by decide +kernel⟩⟩
abbrev mL_nth : qMI := (cL_nth, yL_nth, 4, (some .int), { frames := 0, cells := 0, slots := 0, locals := 0 })
theorem uL_nth : qStat mL_nth 2 := ⟨wT_L_nth, ⟨wC_L_nth, wZ_L, by decide +kernel, by decide +kernel, by decide +kernel⟩⟩
abbrev mL_signal : qMI := (cL_signal, yL_signal, 5, (some .int), { frames := 6, cells := 0, slots := 0, locals := 132 })
theorem uL_signal : qStat mL_signal 4 := ⟨wT_L_signal, ⟨wC_L_signal, wZ_L, by decide +kernel, by decide +kernel, by decide +kernel⟩⟩
abbrev mL_hunts : qMI := (cL_hunts, yL_hunts, 15, (some .boolean), { frames := 7, cells := 0, slots := 0, locals := 164 })
theorem uL_hunts : qStat mL_hunts 3 := ⟨wT_L_hunts, ⟨wC_L_hunts, wZ_L, by decide +kernel, by decide +kernel, by decide +kernel⟩⟩
abbrev mL_holds : qMI := (cL_holds, yL_holds, 8, (some .boolean), { frames := 7, cells := 0, slots := 0, locals := 162 })
theorem uL_holds : qStat mL_holds 1 := ⟨wT_L_holds, ⟨wC_L_holds, wZ_L, by decide +kernel, by decide +kernel, by decide +kernel⟩⟩
abbrev mL_acts : qMI := (cL_acts, yL_acts, 9, (some .boolean), { frames := 8, cells := 0, slots := 0, locals := 198 })
theorem uL_acts : qStat mL_acts 2 := ⟨wT_L_acts, ⟨wC_L_acts, wZ_L, by decide +kernel, by decide +kernel, by decide +kernel⟩⟩
/-- the cells of a BlindHunts: 0 itself, states from 1, 9, 39, 47, 55, 63 on, 17 past, 18 text, 20 tables, 29 and 32 hunts, 35 walks, 38 comes -/
def hdX : qH := fun a => match a with
  | 0 => .inl 5
  | 1 => .inl 3 | 2 => .inr (0, 7) | 3 => .inr (0, 7) | 4 => .inr (0, 7) | 5 => .inr (0, 3) | 6 => .inr (0, 8) | 7 => .inr (0, 8) | 8 => .inr (0, 8)
  | 9 => .inl 3 | 10 => .inr (0, 7) | 11 => .inr (0, 7) | 12 => .inr (0, 7) | 13 => .inr (0, 3) | 14 => .inr (0, 8) | 15 => .inr (0, 8) | 16 => .inr (0, 8)
  | 17 => .inr (4, 4)
  | 18 => .inl 2 | 19 => .inr (2, 60)
  | 20 => .inl 1 | 21 => .inr (5, 5) | 22 => .inr (0, 128) | 23 => .inr (0, 128) | 24 => .inr (0, 128) | 25 => .inr (0, 128) | 26 => .inr (0, 128) | 27 => .inr (0, 5) | 28 => .inr (0, 128)
  | 29 => .inl 0 | 30 => .inr (0, 128) | 31 => .inr (0, 128)
  | 32 => .inl 0 | 33 => .inr (0, 128) | 34 => .inr (0, 128)
  | 35 => .inl 4 | 36 => .inr (3, 7) | 37 => .inr (3, 7)
  | 38 => .inr (1, 128)
  | 39 => .inl 3 | 40 => .inr (0, 7) | 41 => .inr (0, 7) | 42 => .inr (0, 7) | 43 => .inr (0, 3) | 44 => .inr (0, 8) | 45 => .inr (0, 8) | 46 => .inr (0, 8)
  | 47 => .inl 3 | 48 => .inr (0, 7) | 49 => .inr (0, 7) | 50 => .inr (0, 7) | 51 => .inr (0, 3) | 52 => .inr (0, 8) | 53 => .inr (0, 8) | 54 => .inr (0, 8)
  | 55 => .inl 3 | 56 => .inr (0, 7) | 57 => .inr (0, 7) | 58 => .inr (0, 7) | 59 => .inr (0, 3) | 60 => .inr (0, 8) | 61 => .inr (0, 8) | 62 => .inr (0, 8)
  | 63 => .inl 3 | 64 => .inr (0, 7) | 65 => .inr (0, 7) | 66 => .inr (0, 7) | 67 => .inr (0, 3) | 68 => .inr (0, 8) | 69 => .inr (0, 8) | 70 => .inr (0, 8)
  | _ => .inl 9
/-- the references in a BlindHunts: pa, the states of the past; sw, whether the walks' rows stand turned -/
def pX (pa : Nat → Nat) (sw : Bool) (a k : Nat) : Option Nat := match a with
  | 0 => [some 1, some 9, some 17, none, some 18, some 20, some 29, some 32, none, none, none, some 35, some 38].getD k none
  | 1 | 9 | 39 | 47 | 55 | 63 => [none, some (a + 1), some (a + 2), some (a + 3), some (a + 4), none, none, some (a + 5), some (a + 6), some (a + 7)].getD k none
  | 17 => if k < 4 then some (pa k) else none
  | 18 => if k = 0 then some 19 else none
  | 20 => [some 21, some 27, some 28].getD k none
  | 21 => if k < 5 then some (22 + k) else none
  | 29 => [some 30, some 31].getD k none
  | 32 => [some 33, some 34].getD k none
  | 35 => if sw then [some 37, some 36].getD k none else [some 36, some 37].getD k none
  | _ => none
abbrev kX : qG := (71, false, 0, 0)
/-- a state's own cell -/
def SO (o : Nat) : Prop := o = 1 ∨ o = 9 ∨ o = 39 ∨ o = 47 ∨ o = 55 ∨ o = 63
theorem SO.o {o : Nat} (h : SO o) : hdX o = .inl 3 := by rcases h with rfl | rfl | rfl | rfl | rfl | rfl <;> rfl
theorem SO.a1 {o : Nat} (h : SO o) : hdX (o + 1) = .inr (0, 7) := by rcases h with rfl | rfl | rfl | rfl | rfl | rfl <;> rfl
theorem SO.a2 {o : Nat} (h : SO o) : hdX (o + 2) = .inr (0, 7) := by rcases h with rfl | rfl | rfl | rfl | rfl | rfl <;> rfl
theorem SO.a3 {o : Nat} (h : SO o) : hdX (o + 3) = .inr (0, 7) := by rcases h with rfl | rfl | rfl | rfl | rfl | rfl <;> rfl
theorem SO.a4 {o : Nat} (h : SO o) : hdX (o + 4) = .inr (0, 3) := by rcases h with rfl | rfl | rfl | rfl | rfl | rfl <;> rfl
theorem SO.a5 {o : Nat} (h : SO o) : hdX (o + 5) = .inr (0, 8) := by rcases h with rfl | rfl | rfl | rfl | rfl | rfl <;> rfl
theorem SO.a6 {o : Nat} (h : SO o) : hdX (o + 6) = .inr (0, 8) := by rcases h with rfl | rfl | rfl | rfl | rfl | rfl <;> rfl
theorem SO.a7 {o : Nat} (h : SO o) : hdX (o + 7) = .inr (0, 8) := by rcases h with rfl | rfl | rfl | rfl | rfl | rfl <;> rfl
theorem SO.lt {o : Nat} (h : SO o) : o + 7 < 71 := by rcases h with rfl | rfl | rfl | rfl | rfl | rfl <;> decide
theorem SO.p1 {o : Nat} (h : SO o) {pa : Nat → Nat} {sw : Bool} : pX pa sw o 1 = some (o + 1) := by rcases h with rfl | rfl | rfl | rfl | rfl | rfl <;> rfl
theorem SO.p2 {o : Nat} (h : SO o) {pa : Nat → Nat} {sw : Bool} : pX pa sw o 2 = some (o + 2) := by rcases h with rfl | rfl | rfl | rfl | rfl | rfl <;> rfl
theorem SO.p3 {o : Nat} (h : SO o) {pa : Nat → Nat} {sw : Bool} : pX pa sw o 3 = some (o + 3) := by rcases h with rfl | rfl | rfl | rfl | rfl | rfl <;> rfl
theorem SO.p4 {o : Nat} (h : SO o) {pa : Nat → Nat} {sw : Bool} : pX pa sw o 4 = some (o + 4) := by rcases h with rfl | rfl | rfl | rfl | rfl | rfl <;> rfl
theorem SO.p7 {o : Nat} (h : SO o) {pa : Nat → Nat} {sw : Bool} : pX pa sw o 7 = some (o + 5) := by rcases h with rfl | rfl | rfl | rfl | rfl | rfl <;> rfl
theorem SO.p8 {o : Nat} (h : SO o) {pa : Nat → Nat} {sw : Bool} : pX pa sw o 8 = some (o + 6) := by rcases h with rfl | rfl | rfl | rfl | rfl | rfl <;> rfl
theorem SO.p9 {o : Nat} (h : SO o) {pa : Nat → Nat} {sw : Bool} : pX pa sw o 9 = some (o + 7) := by rcases h with rfl | rfl | rfl | rfl | rfl | rfl <;> rfl
theorem rP {M : qM} {P : Nat → Nat → Option Nat} {a k b : Nat} (h : M.2.2 = P) (e : P a k = some b) : M.2.2 a k = some b := by rw [h]; exact e
theorem hd_row {g : Nat} (h : g < 5) : hdX (22 + g) = .inr (0, 128) := by
  rcases (by omega : g = 0 ∨ g = 1 ∨ g = 2 ∨ g = 3 ∨ g = 4) with rfl | rfl | rfl | rfl | rfl <;> rfl
theorem pX_21 {pa : Nat → Nat} {sw : Bool} {g : Nat} (h : g < 5) : pX pa sw 21 g = some (22 + g) := by
  show (if g < 5 then some (22 + g) else none) = _
  rw [if_pos h]

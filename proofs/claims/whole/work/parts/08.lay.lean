abbrev mX0_init : qMI := (cX0_init, yX0_init, 3, none, { frames := 1, cells := 2, slots := 256, locals := 20 })
theorem uX0_init : qCtor mX0_init 2 := ⟨wI_X0_init, rfl, rfl, ⟨wC_X0_init, wZ_X0, by decide +kernel, by decide +kernel, by decide +kernel⟩⟩
abbrev mX0_solve : qMI := (cX0_solve, yX0_solve, 4, none, { frames := 4, cells := 0, slots := 0, locals := 98 })
theorem uX0_solve : qVirt mX0_solve 1 := ⟨wI_X0_solve, wS_X0_solve, ⟨wC_X0_solve, wZ_X0, by decide +kernel, by decide +kernel, by decide +kernel⟩⟩
abbrev mX0_solveLevel : qMI := (cX0_solveLevel, yX0_solveLevel, 5, (some .boolean), { frames := 3, cells := 0, slots := 0, locals := 74 })
theorem uX0_solveLevel : qVirt mX0_solveLevel 2 := ⟨wI_X0_solveLevel, wS_X0_solveLevel, ⟨wC_X0_solveLevel, wZ_X0, by decide +kernel, by decide +kernel, by decide +kernel⟩⟩
abbrev mX0_partsAreSure : qMI := (cX0_partsAreSure, yX0_partsAreSure, 4, (some .boolean), { frames := 0, cells := 0, slots := 0, locals := 0 })
theorem uX0_partsAreSure : qVirt mX0_partsAreSure 1 := ⟨wI_X0_partsAreSure, wS_X0_partsAreSure, ⟨wC_X0_partsAreSure, wZ_X0, by decide +kernel, by decide +kernel, by decide +kernel⟩⟩
abbrev mX0_settle : qMI := (cX0_settle, yX0_settle, 5, (some .boolean), { frames := 2, cells := 0, slots := 0, locals := 50 })
theorem uX0_settle : qVirt mX0_settle 3 := ⟨wI_X0_settle, wS_X0_settle, ⟨wC_X0_settle, wZ_X0, by decide +kernel, by decide +kernel, by decide +kernel⟩⟩
abbrev mX0_leadsLower : qMI := (cX0_leadsLower, yX0_leadsLower, 7, (some .boolean), { frames := 1, cells := 0, slots := 0, locals := 24 })
theorem uX0_leadsLower : qVirt mX0_leadsLower 4 := ⟨wI_X0_leadsLower, wS_X0_leadsLower, ⟨wC_X0_leadsLower, wZ_X0, by decide +kernel, by decide +kernel, by decide +kernel⟩⟩
abbrev mX0_countSure : qMI := (cX0_countSure, yX0_countSure, 4, (some .int), { frames := 0, cells := 0, slots := 0, locals := 0 })
theorem uX0_countSure : qVirt mX0_countSure 1 := ⟨wI_X0_countSure, wS_X0_countSure, ⟨wC_X0_countSure, wZ_X0, by decide +kernel, by decide +kernel, by decide +kernel⟩⟩
abbrev mX0_hardestBelief : qMI := (cX0_hardestBelief, yX0_hardestBelief, 4, (some .int), { frames := 2, cells := 0, slots := 0, locals := 44 })
theorem uX0_hardestBelief : qVirt mX0_hardestBelief 1 := ⟨wI_X0_hardestBelief, wS_X0_hardestBelief, ⟨wC_X0_hardestBelief, wZ_X0, by decide +kernel, by decide +kernel, by decide +kernel⟩⟩
abbrev mX0_mostNeeded : qMI := (cX0_mostNeeded, yX0_mostNeeded, 4, (some .int), { frames := 1, cells := 0, slots := 0, locals := 21 })
theorem uX0_mostNeeded : qVirt mX0_mostNeeded 1 := ⟨wI_X0_mostNeeded, wS_X0_mostNeeded, ⟨wC_X0_mostNeeded, wZ_X0, by decide +kernel, by decide +kernel, by decide +kernel⟩⟩
abbrev mX1_init : qMI := (cX1_init, yX1_init, 1, none, { frames := 1, cells := 8, slots := 778, locals := 20 })
theorem uX1_init : qCtor mX1_init 0 := ⟨wI_X1_init, rfl, rfl, ⟨wC_X1_init, wZ_X1, by decide +kernel, by decide +kernel, by decide +kernel⟩⟩
abbrev mX1_build : qMI := (cX1_build, yX1_build, 3, none, { frames := 3, cells := 0, slots := 0, locals := 67 })
theorem uX1_build : qVirt mX1_build 1 := ⟨wI_X1_build, wS_X1_build, ⟨wC_X1_build, wZ_X1, by decide +kernel, by decide +kernel, by decide +kernel⟩⟩
abbrev mX1_buildPlace : qMI := (cX1_buildPlace, yX1_buildPlace, 5, none, { frames := 2, cells := 0, slots := 0, locals := 43 })
theorem uX1_buildPlace : qVirt mX1_buildPlace 2 := ⟨wI_X1_buildPlace, wS_X1_buildPlace, ⟨wC_X1_buildPlace, wZ_X1, by decide +kernel, by decide +kernel, by decide +kernel⟩⟩
abbrev mX1_spread : qMI := (cX1_spread, yX1_spread, 4, none, { frames := 0, cells := 0, slots := 0, locals := 0 })
theorem uX1_spread : qVirt mX1_spread 2 := ⟨wI_X1_spread, wS_X1_spread, ⟨wC_X1_spread, wZ_X1, by decide +kernel, by decide +kernel, by decide +kernel⟩⟩
abbrev mX1_listChecks : qMI := (cX1_listChecks, yX1_listChecks, 3, none, { frames := 1, cells := 0, slots := 0, locals := 20 })
theorem uX1_listChecks : qVirt mX1_listChecks 1 := ⟨wI_X1_listChecks, wS_X1_listChecks, ⟨wC_X1_listChecks, wZ_X1, by decide +kernel, by decide +kernel, by decide +kernel⟩⟩
abbrev mX1_after : qMI := (cX1_after, yX1_after, 5, (some .int), { frames := 0, cells := 0, slots := 0, locals := 0 })
theorem uX1_after : qVirt mX1_after 3 := ⟨wI_X1_after, wS_X1_after, ⟨wC_X1_after, wZ_X1, by decide +kernel, by decide +kernel, by decide +kernel⟩⟩
abbrev mX2_init : qMI := (cX2_init, yX2_init, 1, none, { frames := 1, cells := 1, slots := 60, locals := 20 })
theorem uX2_init : qCtor mX2_init 0 := ⟨wI_X2_init, rfl, rfl, ⟨wC_X2_init, wZ_X2, by decide +kernel, by decide +kernel, by decide +kernel⟩⟩
abbrev mX2_append : qMI := (cX2_append, yX2_append, 2, none, { frames := 0, cells := 0, slots := 0, locals := 0 })
theorem uX2_append : qVirt mX2_append 1 := ⟨wI_X2_append, wS_X2_append, ⟨wC_X2_append, wZ_X2, by decide +kernel, by decide +kernel, by decide +kernel⟩⟩
abbrev mX2_readRound : qMI := (cX2_readRound, yX2_readRound, 2, (some .boolean), { frames := 2, cells := 0, slots := 0, locals := 42 })
theorem uX2_readRound : qVirt mX2_readRound 0 := ⟨wI_X2_readRound, wS_X2_readRound, ⟨wC_X2_readRound, wZ_X2, by decide +kernel, by decide +kernel, by decide +kernel⟩⟩
abbrev mX2_hasGoodPlaces : qMI := (cX2_hasGoodPlaces, yX2_hasGoodPlaces, 5, (some .boolean), { frames := 0, cells := 0, slots := 0, locals := 0 })
theorem uX2_hasGoodPlaces : qVirt mX2_hasGoodPlaces 2 := ⟨wI_X2_hasGoodPlaces, wS_X2_hasGoodPlaces, ⟨wC_X2_hasGoodPlaces, wZ_X2, by decide +kernel, by decide +kernel, by decide +kernel⟩⟩
abbrev mX2_placesRead : qMI := (cX2_placesRead, yX2_placesRead, 2, (some .int), { frames := 0, cells := 0, slots := 0, locals := 0 })
theorem uX2_placesRead : qVirt mX2_placesRead 0 := ⟨wI_X2_placesRead, wS_X2_placesRead, ⟨wC_X2_placesRead, wZ_X2, by decide +kernel, by decide +kernel, by decide +kernel⟩⟩
abbrev mX2_goOn : qMI := (cX2_goOn, yX2_goOn, 1, none, { frames := 0, cells := 0, slots := 0, locals := 0 })
theorem uX2_goOn : qVirt mX2_goOn 0 := ⟨wI_X2_goOn, wS_X2_goOn, ⟨wC_X2_goOn, wZ_X2, by decide +kernel, by decide +kernel, by decide +kernel⟩⟩
abbrev mX2_isSign : qMI := (cX2_isSign, yX2_isSign, 3, (some .boolean), { frames := 0, cells := 0, slots := 0, locals := 0 })
theorem uX2_isSign : qVirt mX2_isSign 2 := ⟨wI_X2_isSign, wS_X2_isSign, ⟨wC_X2_isSign, wZ_X2, by decide +kernel, by decide +kernel, by decide +kernel⟩⟩
abbrev mX2_isDigit : qMI := (cX2_isDigit, yX2_isDigit, 2, (some .boolean), { frames := 0, cells := 0, slots := 0, locals := 0 })
theorem uX2_isDigit : qVirt mX2_isDigit 1 := ⟨wI_X2_isDigit, wS_X2_isDigit, ⟨wC_X2_isDigit, wZ_X2, by decide +kernel, by decide +kernel, by decide +kernel⟩⟩
abbrev mX2_digitAt : qMI := (cX2_digitAt, yX2_digitAt, 2, (some .int), { frames := 1, cells := 0, slots := 0, locals := 21 })
theorem uX2_digitAt : qVirt mX2_digitAt 1 := ⟨wI_X2_digitAt, wS_X2_digitAt, ⟨wC_X2_digitAt, wZ_X2, by decide +kernel, by decide +kernel, by decide +kernel⟩⟩
abbrev mX3_init : qMI := (cX3_init, yX3_init, 1, none, { frames := 1, cells := 7, slots := 48, locals := 20 })
theorem uX3_init : qCtor mX3_init 0 := ⟨wI_X3_init, rfl, rfl, ⟨wC_X3_init, wZ_X3, by decide +kernel, by decide +kernel, by decide +kernel⟩⟩
abbrev mX3_takeFrom : qMI := (cX3_takeFrom, yX3_takeFrom, 3, none, { frames := 0, cells := 0, slots := 0, locals := 0 })
theorem uX3_takeFrom : qVirt mX3_takeFrom 1 := ⟨wI_X3_takeFrom, wS_X3_takeFrom, ⟨wC_X3_takeFrom, wZ_X3, by decide +kernel, by decide +kernel, by decide +kernel⟩⟩
abbrev mX3_sets : qMI := (cX3_sets, yX3_sets, 1, (some .int), { frames := 0, cells := 0, slots := 0, locals := 0 })
theorem uX3_sets : qVirt mX3_sets 0 := ⟨wI_X3_sets, wS_X3_sets, ⟨wC_X3_sets, wZ_X3, by decide +kernel, by decide +kernel, by decide +kernel⟩⟩
abbrev mX3_addPlace : qMI := (cX3_addPlace, yX3_addPlace, 2, (some .int), { frames := 0, cells := 0, slots := 0, locals := 0 })
theorem uX3_addPlace : qVirt mX3_addPlace 1 := ⟨wI_X3_addPlace, wS_X3_addPlace, ⟨wC_X3_addPlace, wZ_X3, by decide +kernel, by decide +kernel, by decide +kernel⟩⟩
abbrev mX3_hasRoad : qMI := (cX3_hasRoad, yX3_hasRoad, 3, (some .boolean), { frames := 0, cells := 0, slots := 0, locals := 0 })
theorem uX3_hasRoad : qVirt mX3_hasRoad 2 := ⟨wI_X3_hasRoad, wS_X3_hasRoad, ⟨wC_X3_hasRoad, wZ_X3, by decide +kernel, by decide +kernel, by decide +kernel⟩⟩
abbrev mX3_hasOpenRoad : qMI := (cX3_hasOpenRoad, yX3_hasOpenRoad, 3, (some .boolean), { frames := 0, cells := 0, slots := 0, locals := 0 })
theorem uX3_hasOpenRoad : qVirt mX3_hasOpenRoad 2 := ⟨wI_X3_hasOpenRoad, wS_X3_hasOpenRoad, ⟨wC_X3_hasOpenRoad, wZ_X3, by decide +kernel, by decide +kernel, by decide +kernel⟩⟩
abbrev mX3_addRoad : qMI := (cX3_addRoad, yX3_addRoad, 3, none, { frames := 1, cells := 0, slots := 0, locals := 22 })
theorem uX3_addRoad : qVirt mX3_addRoad 2 := ⟨wI_X3_addRoad, wS_X3_addRoad, ⟨wC_X3_addRoad, wZ_X3, by decide +kernel, by decide +kernel, by decide +kernel⟩⟩
abbrev mX3_turnRoad : qMI := (cX3_turnRoad, yX3_turnRoad, 3, none, { frames := 0, cells := 0, slots := 0, locals := 0 })
theorem uX3_turnRoad : qVirt mX3_turnRoad 2 := ⟨wI_X3_turnRoad, wS_X3_turnRoad, ⟨wC_X3_turnRoad, wZ_X3, by decide +kernel, by decide +kernel, by decide +kernel⟩⟩
abbrev mX3_countRoads : qMI := (cX3_countRoads, yX3_countRoads, 4, (some .int), { frames := 1, cells := 0, slots := 0, locals := 20 })
theorem uX3_countRoads : qVirt mX3_countRoads 1 := ⟨wI_X3_countRoads, wS_X3_countRoads, ⟨wC_X3_countRoads, wZ_X3, by decide +kernel, by decide +kernel, by decide +kernel⟩⟩
abbrev mX3_reach : qMI := (cX3_reach, yX3_reach, 7, (some .int), { frames := 0, cells := 0, slots := 0, locals := 0 })
theorem uX3_reach : qVirt mX3_reach 1 := ⟨wI_X3_reach, wS_X3_reach, ⟨wC_X3_reach, wZ_X3, by decide +kernel, by decide +kernel, by decide +kernel⟩⟩
abbrev mX3_signalOf : qMI := (cX3_signalOf, yX3_signalOf, 3, (some .int), { frames := 1, cells := 0, slots := 0, locals := 21 })
theorem uX3_signalOf : qVirt mX3_signalOf 2 := ⟨wI_X3_signalOf, wS_X3_signalOf, ⟨wC_X3_signalOf, wZ_X3, by decide +kernel, by decide +kernel, by decide +kernel⟩⟩
abbrev mX3_isCaught : qMI := (cX3_isCaught, yX3_isCaught, 1, (some .boolean), { frames := 0, cells := 0, slots := 0, locals := 0 })
theorem uX3_isCaught : qVirt mX3_isCaught 0 := ⟨wI_X3_isCaught, wS_X3_isCaught, ⟨wC_X3_isCaught, wZ_X3, by decide +kernel, by decide +kernel, by decide +kernel⟩⟩
abbrev mX3_rowOfRound : qMI := (cX3_rowOfRound, yX3_rowOfRound, 1, (some .int), { frames := 0, cells := 0, slots := 0, locals := 0 })
theorem uX3_rowOfRound : qStat mX3_rowOfRound 1 := ⟨wT_X3_rowOfRound, ⟨wC_X3_rowOfRound, wZ_X3, by decide +kernel, by decide +kernel, by decide +kernel⟩⟩
abbrev mX3_canBeRound : qMI := (cX3_canBeRound, yX3_canBeRound, 5, (some .boolean), { frames := 1, cells := 0, slots := 0, locals := 24 })
theorem uX3_canBeRound : qVirt mX3_canBeRound 3 := ⟨wI_X3_canBeRound, wS_X3_canBeRound, ⟨wC_X3_canBeRound, wZ_X3, by decide +kernel, by decide +kernel, by decide +kernel⟩⟩
abbrev mX3_addRound : qMI := (cX3_addRound, yX3_addRound, 5, none, { frames := 1, cells := 0, slots := 0, locals := 24 })
theorem uX3_addRound : qVirt mX3_addRound 3 := ⟨wI_X3_addRound, wS_X3_addRound, ⟨wC_X3_addRound, wZ_X3, by decide +kernel, by decide +kernel, by decide +kernel⟩⟩
abbrev mX4_init : qMI := (cX4_init, yX4_init, 1, none, { frames := 1, cells := 2, slots := 14, locals := 20 })
theorem uX4_init : qCtor mX4_init 0 := ⟨wI_X4_init, rfl, rfl, ⟨wC_X4_init, wZ_X4, by decide +kernel, by decide +kernel, by decide +kernel⟩⟩
abbrev mX4_walk : qMI := (cX4_walk, yX4_walk, 6, none, { frames := 2, cells := 0, slots := 0, locals := 52 })
theorem uX4_walk : qVirt mX4_walk 3 := ⟨wI_X4_walk, wS_X4_walk, ⟨wC_X4_walk, wZ_X4, by decide +kernel, by decide +kernel, by decide +kernel⟩⟩
abbrev mX4_step : qMI := (cX4_step, yX4_step, 7, none, { frames := 1, cells := 0, slots := 0, locals := 26 })
theorem uX4_step : qVirt mX4_step 2 := ⟨wI_X4_step, wS_X4_step, ⟨wC_X4_step, wZ_X4, by decide +kernel, by decide +kernel, by decide +kernel⟩⟩
abbrev mX4_sum : qMI := (cX4_sum, yX4_sum, 4, (some .long), { frames := 0, cells := 0, slots := 0, locals := 0 })
theorem uX4_sum : qStat mX4_sum 2 := ⟨wT_X4_sum, ⟨wC_X4_sum, wZ_X4, by decide +kernel, by decide +kernel, by decide +kernel⟩⟩
abbrev mX4_total : qMI := (cX4_total, yX4_total, 5, (some .long), { frames := 1, cells := 0, slots := 0, locals := 23 })
theorem uX4_total : qVirt mX4_total 1 := ⟨wI_X4_total, wS_X4_total, ⟨wC_X4_total, wZ_X4, by decide +kernel, by decide +kernel, by decide +kernel⟩⟩
abbrev mX5_init : qMI := (cX5_init, yX5_init, 2, none, { frames := 2, cells := 70, slots := 1869, locals := 42 })
theorem uX5_init : qCtor mX5_init 0 := ⟨wI_X5_init, rfl, rfl, ⟨wC_X5_init, wZ_X5, by decide +kernel, by decide +kernel, by decide +kernel⟩⟩
abbrev mX5_place : qMI := (cX5_place, yX5_place, 2, (some .int), { frames := 2, cells := 0, slots := 0, locals := 42 })
theorem uX5_place : qVirt mX5_place 1 := ⟨wI_X5_place, wS_X5_place, ⟨wC_X5_place, wZ_X5, by decide +kernel, by decide +kernel, by decide +kernel⟩⟩
abbrev mX5_road : qMI := (cX5_road, yX5_road, 3, (some .int), { frames := 3, cells := 0, slots := 0, locals := 65 })
theorem uX5_road : qVirt mX5_road 2 := ⟨wI_X5_road, wS_X5_road, ⟨wC_X5_road, wZ_X5, by decide +kernel, by decide +kernel, by decide +kernel⟩⟩
abbrev mX5_shut : qMI := (cX5_shut, yX5_shut, 5, (some .int), { frames := 3, cells := 0, slots := 0, locals := 65 })
theorem uX5_shut : qVirt mX5_shut 3 := ⟨wI_X5_shut, wS_X5_shut, ⟨wC_X5_shut, wZ_X5, by decide +kernel, by decide +kernel, by decide +kernel⟩⟩
abbrev mX5_set : qMI := (cX5_set, yX5_set, 4, (some .int), { frames := 2, cells := 0, slots := 0, locals := 43 })
theorem uX5_set : qVirt mX5_set 2 := ⟨wI_X5_set, wS_X5_set, ⟨wC_X5_set, wZ_X5, by decide +kernel, by decide +kernel, by decide +kernel⟩⟩
abbrev mX5_believe : qMI := (cX5_believe, yX5_believe, 2, (some .int), { frames := 2, cells := 0, slots := 0, locals := 43 })
theorem uX5_believe : qVirt mX5_believe 1 := ⟨wI_X5_believe, wS_X5_believe, ⟨wC_X5_believe, wZ_X5, by decide +kernel, by decide +kernel, by decide +kernel⟩⟩
abbrev mX5_check : qMI := (cX5_check, yX5_check, 4, (some .int), { frames := 5, cells := 0, slots := 0, locals := 109 })
theorem uX5_check : qVirt mX5_check 2 := ⟨wI_X5_check, wS_X5_check, ⟨wC_X5_check, wZ_X5, by decide +kernel, by decide +kernel, by decide +kernel⟩⟩
abbrev mX5_placeOf : qMI := (cX5_placeOf, yX5_placeOf, 3, (some .int), { frames := 2, cells := 0, slots := 0, locals := 43 })
theorem uX5_placeOf : qVirt mX5_placeOf 2 := ⟨wI_X5_placeOf, wS_X5_placeOf, ⟨wC_X5_placeOf, wZ_X5, by decide +kernel, by decide +kernel, by decide +kernel⟩⟩
abbrev mX5_roundOf : qMI := (cX5_roundOf, yX5_roundOf, 4, (some .int), { frames := 1, cells := 0, slots := 0, locals := 22 })
theorem uX5_roundOf : qVirt mX5_roundOf 2 := ⟨wI_X5_roundOf, wS_X5_roundOf, ⟨wC_X5_roundOf, wZ_X5, by decide +kernel, by decide +kernel, by decide +kernel⟩⟩
abbrev mX5_behind : qMI := (cX5_behind, yX5_behind, 4, (some .int), { frames := 5, cells := 0, slots := 0, locals := 109 })
theorem uX5_behind : qVirt mX5_behind 3 := ⟨wI_X5_behind, wS_X5_behind, ⟨wC_X5_behind, wZ_X5, by decide +kernel, by decide +kernel, by decide +kernel⟩⟩
abbrev mX5_sure : qMI := (cX5_sure, yX5_sure, 4, (some .int), { frames := 6, cells := 0, slots := 0, locals := 141 })
theorem uX5_sure : qVirt mX5_sure 2 := ⟨wI_X5_sure, wS_X5_sure, ⟨wC_X5_sure, wZ_X5, by decide +kernel, by decide +kernel, by decide +kernel⟩⟩
abbrev mX5_deaf : qMI := (cX5_deaf, yX5_deaf, 3, (some .int), { frames := 6, cells := 0, slots := 0, locals := 141 })
theorem uX5_deaf : qVirt mX5_deaf 1 := ⟨wI_X5_deaf, wS_X5_deaf, ⟨wC_X5_deaf, wZ_X5, by decide +kernel, by decide +kernel, by decide +kernel⟩⟩
abbrev mX5_memory : qMI := (cX5_memory, yX5_memory, 3, (some .int), { frames := 6, cells := 0, slots := 0, locals := 141 })
theorem uX5_memory : qVirt mX5_memory 1 := ⟨wI_X5_memory, wS_X5_memory, ⟨wC_X5_memory, wZ_X5, by decide +kernel, by decide +kernel, by decide +kernel⟩⟩
abbrev mX5_beliefs : qMI := (cX5_beliefs, yX5_beliefs, 2, (some .int), { frames := 6, cells := 0, slots := 0, locals := 141 })
theorem uX5_beliefs : qVirt mX5_beliefs 1 := ⟨wI_X5_beliefs, wS_X5_beliefs, ⟨wC_X5_beliefs, wZ_X5, by decide +kernel, by decide +kernel, by decide +kernel⟩⟩
abbrev mX5_dangers : qMI := (cX5_dangers, yX5_dangers, 6, (some .int), { frames := 6, cells := 0, slots := 0, locals := 141 })
theorem uX5_dangers : qVirt mX5_dangers 1 := ⟨wI_X5_dangers, wS_X5_dangers, ⟨wC_X5_dangers, wZ_X5, by decide +kernel, by decide +kernel, by decide +kernel⟩⟩
abbrev mX5_ways : qMI := (cX5_ways, yX5_ways, 5, (some .long), { frames := 3, cells := 0, slots := 0, locals := 77 })
theorem uX5_ways : qVirt mX5_ways 2 := ⟨wI_X5_ways, wS_X5_ways, ⟨wC_X5_ways, wZ_X5, by decide +kernel, by decide +kernel, by decide +kernel⟩⟩
abbrev mX5_met : qMI := (cX5_met, yX5_met, 6, (some .long), { frames := 3, cells := 0, slots := 0, locals := 77 })
theorem uX5_met : qVirt mX5_met 3 := ⟨wI_X5_met, wS_X5_met, ⟨wC_X5_met, wZ_X5, by decide +kernel, by decide +kernel, by decide +kernel⟩⟩
abbrev mX5_count : qMI := (cX5_count, yX5_count, 2, (some .int), { frames := 2, cells := 0, slots := 0, locals := 43 })
theorem uX5_count : qVirt mX5_count 1 := ⟨wI_X5_count, wS_X5_count, ⟨wC_X5_count, wZ_X5, by decide +kernel, by decide +kernel, by decide +kernel⟩⟩
abbrev mX5_undo : qMI := (cX5_undo, yX5_undo, 1, (some .int), { frames := 1, cells := 0, slots := 0, locals := 22 })
theorem uX5_undo : qVirt mX5_undo 0 := ⟨wI_X5_undo, wS_X5_undo, ⟨wC_X5_undo, wZ_X5, by decide +kernel, by decide +kernel, by decide +kernel⟩⟩
abbrev mX5_type : qMI := (cX5_type, yX5_type, 2, (some .int), { frames := 1, cells := 0, slots := 0, locals := 22 })
theorem uX5_type : qVirt mX5_type 1 := ⟨wI_X5_type, wS_X5_type, ⟨wC_X5_type, wZ_X5, by decide +kernel, by decide +kernel, by decide +kernel⟩⟩
abbrev mX5_clearText : qMI := (cX5_clearText, yX5_clearText, 2, (some .int), { frames := 0, cells := 0, slots := 0, locals := 0 })
theorem uX5_clearText : qVirt mX5_clearText 0 := ⟨wI_X5_clearText, wS_X5_clearText, ⟨wC_X5_clearText, wZ_X5, by decide +kernel, by decide +kernel, by decide +kernel⟩⟩
abbrev mX5_fault : qMI := (cX5_fault, yX5_fault, 3, (some .int), { frames := 6, cells := 0, slots := 0, locals := 132 })
theorem uX5_fault : qVirt mX5_fault 1 := ⟨wI_X5_fault, wS_X5_fault, ⟨wC_X5_fault, wZ_X5, by decide +kernel, by decide +kernel, by decide +kernel⟩⟩
abbrev mX5_play : qMI := (cX5_play, yX5_play, 1, (some .int), { frames := 6, cells := 0, slots := 0, locals := 132 })
theorem uX5_play : qVirt mX5_play 0 := ⟨wI_X5_play, wS_X5_play, ⟨wC_X5_play, wZ_X5, by decide +kernel, by decide +kernel, by decide +kernel⟩⟩
abbrev mX5_isWithin : qMI := (cX5_isWithin, yX5_isWithin, 3, (some .boolean), { frames := 0, cells := 0, slots := 0, locals := 0 })
theorem uX5_isWithin : qStat mX5_isWithin 3 := ⟨wT_X5_isWithin, ⟨wC_X5_isWithin, wZ_X5, by decide +kernel, by decide +kernel, by decide +kernel⟩⟩
abbrev mX5_isPlace : qMI := (cX5_isPlace, yX5_isPlace, 2, (some .boolean), { frames := 1, cells := 0, slots := 0, locals := 22 })
theorem uX5_isPlace : qVirt mX5_isPlace 1 := ⟨wI_X5_isPlace, wS_X5_isPlace, ⟨wC_X5_isPlace, wZ_X5, by decide +kernel, by decide +kernel, by decide +kernel⟩⟩
abbrev mX5_arePlaces : qMI := (cX5_arePlaces, yX5_arePlaces, 3, (some .boolean), { frames := 2, cells := 0, slots := 0, locals := 43 })
theorem uX5_arePlaces : qVirt mX5_arePlaces 2 := ⟨wI_X5_arePlaces, wS_X5_arePlaces, ⟨wC_X5_arePlaces, wZ_X5, by decide +kernel, by decide +kernel, by decide +kernel⟩⟩
abbrev mX5_isSet : qMI := (cX5_isSet, yX5_isSet, 2, (some .boolean), { frames := 1, cells := 0, slots := 0, locals := 22 })
theorem uX5_isSet : qVirt mX5_isSet 1 := ⟨wI_X5_isSet, wS_X5_isSet, ⟨wC_X5_isSet, wZ_X5, by decide +kernel, by decide +kernel, by decide +kernel⟩⟩
abbrev mX5_isSetting : qMI := (cX5_isSetting, yX5_isSetting, 2, (some .boolean), { frames := 1, cells := 0, slots := 0, locals := 22 })
theorem uX5_isSetting : qStat mX5_isSetting 2 := ⟨wT_X5_isSetting, ⟨wC_X5_isSetting, wZ_X5, by decide +kernel, by decide +kernel, by decide +kernel⟩⟩
abbrev mX5_record : qMI := (cX5_record, yX5_record, 1, none, { frames := 1, cells := 0, slots := 0, locals := 22 })
theorem uX5_record : qVirt mX5_record 0 := ⟨wI_X5_record, wS_X5_record, ⟨wC_X5_record, wZ_X5, by decide +kernel, by decide +kernel, by decide +kernel⟩⟩
abbrev mX5_dropOldest : qMI := (cX5_dropOldest, yX5_dropOldest, 3, none, { frames := 0, cells := 0, slots := 0, locals := 0 })
theorem uX5_dropOldest : qVirt mX5_dropOldest 0 := ⟨wI_X5_dropOldest, wS_X5_dropOldest, ⟨wC_X5_dropOldest, wZ_X5, by decide +kernel, by decide +kernel, by decide +kernel⟩⟩
abbrev mX5_forgetTables : qMI := (cX5_forgetTables, yX5_forgetTables, 1, none, { frames := 0, cells := 0, slots := 0, locals := 0 })
theorem uX5_forgetTables : qVirt mX5_forgetTables 0 := ⟨wI_X5_forgetTables, wS_X5_forgetTables, ⟨wC_X5_forgetTables, wZ_X5, by decide +kernel, by decide +kernel, by decide +kernel⟩⟩
abbrev mX5_standingMoves : qMI := (cX5_standingMoves, yX5_standingMoves, 1, (some (.object "BlindHunts$Moves")), { frames := 4, cells := 0, slots := 0, locals := 89 })
theorem uX5_standingMoves : qVirt mX5_standingMoves 0 := ⟨wI_X5_standingMoves, wS_X5_standingMoves, ⟨wC_X5_standingMoves, wZ_X5, by decide +kernel, by decide +kernel, by decide +kernel⟩⟩
abbrev mX5_standingHearing : qMI := (cX5_standingHearing, yX5_standingHearing, 1, (some (.object "BlindHunts$Hunt")), { frames := 5, cells := 0, slots := 0, locals := 121 })
theorem uX5_standingHearing : qVirt mX5_standingHearing 0 := ⟨wI_X5_standingHearing, wS_X5_standingHearing, ⟨wC_X5_standingHearing, wZ_X5, by decide +kernel, by decide +kernel, by decide +kernel⟩⟩
abbrev mX5_standingUnhearing : qMI := (cX5_standingUnhearing, yX5_standingUnhearing, 1, (some (.object "BlindHunts$Hunt")), { frames := 5, cells := 0, slots := 0, locals := 121 })
theorem uX5_standingUnhearing : qVirt mX5_standingUnhearing 0 := ⟨wI_X5_standingUnhearing, wS_X5_standingUnhearing, ⟨wC_X5_standingUnhearing, wZ_X5, by decide +kernel, by decide +kernel, by decide +kernel⟩⟩
abbrev mX5_countComing : qMI := (cX5_countComing, yX5_countComing, 6, (some .int), { frames := 2, cells := 0, slots := 0, locals := 47 })
theorem uX5_countComing : qVirt mX5_countComing 2 := ⟨wI_X5_countComing, wS_X5_countComing, ⟨wC_X5_countComing, wZ_X5, by decide +kernel, by decide +kernel, by decide +kernel⟩⟩
abbrev mX5_markNext : qMI := (cX5_markNext, yX5_markNext, 4, none, { frames := 1, cells := 0, slots := 0, locals := 24 })
theorem uX5_markNext : qVirt mX5_markNext 2 := ⟨wI_X5_markNext, wS_X5_markNext, ⟨wC_X5_markNext, wZ_X5, by decide +kernel, by decide +kernel, by decide +kernel⟩⟩
abbrev mX5_tryText : qMI := (cX5_tryText, yX5_tryText, 4, (some .int), { frames := 5, cells := 0, slots := 0, locals := 109 })
theorem uX5_tryText : qVirt mX5_tryText 0 := ⟨wI_X5_tryText, wS_X5_tryText, ⟨wC_X5_tryText, wZ_X5, by decide +kernel, by decide +kernel, by decide +kernel⟩⟩
abbrev mX5_tryRound : qMI := (cX5_tryRound, yX5_tryRound, 3, (some .int), { frames := 3, cells := 0, slots := 0, locals := 63 })
theorem uX5_tryRound : qVirt mX5_tryRound 1 := ⟨wI_X5_tryRound, wS_X5_tryRound, ⟨wC_X5_tryRound, wZ_X5, by decide +kernel, by decide +kernel, by decide +kernel⟩⟩
abbrev mX6_init : qMI := (cX6_init, yX6_init, 1, none, { frames := 1, cells := 10, slots := 822, locals := 20 })
theorem uX6_init : qCtor mX6_init 0 := ⟨wI_X6_init, rfl, rfl, ⟨wC_X6_init, wZ_X6, by decide +kernel, by decide +kernel, by decide +kernel⟩⟩
abbrev mX6_in : qMI := (cX6_in, yX6_in, 3, (some .boolean), { frames := 0, cells := 0, slots := 0, locals := 0 })
theorem uX6_in : qStat mX6_in 3 := ⟨wT_X6_in, ⟨wC_X6_in, wZ_X6, by decide +kernel, by decide +kernel, by decide +kernel⟩⟩
abbrev mX6_isPlace : qMI := (cX6_isPlace, yX6_isPlace, 2, (some .boolean), { frames := 1, cells := 0, slots := 0, locals := 22 })
theorem uX6_isPlace : qVirt mX6_isPlace 1 := ⟨wI_X6_isPlace, wS_X6_isPlace, ⟨wC_X6_isPlace, wZ_X6, by decide +kernel, by decide +kernel, by decide +kernel⟩⟩
abbrev mX6_isSet : qMI := (cX6_isSet, yX6_isSet, 2, (some .boolean), { frames := 1, cells := 0, slots := 0, locals := 22 })
theorem uX6_isSet : qVirt mX6_isSet 1 := ⟨wI_X6_isSet, wS_X6_isSet, ⟨wC_X6_isSet, wZ_X6, by decide +kernel, by decide +kernel, by decide +kernel⟩⟩
abbrev mX6_ones : qMI := (cX6_ones, yX6_ones, 3, (some .int), { frames := 0, cells := 0, slots := 0, locals := 0 })
theorem uX6_ones : qStat mX6_ones 1 := ⟨wT_X6_ones, ⟨wC_X6_ones, wZ_X6, by decide +kernel, by decide +kernel, by decide +kernel⟩⟩
abbrev mX6_keeps : qMI := (cX6_keeps, yX6_keeps, 2, none, { frames := 0, cells := 0, slots := 0, locals := 0 })
theorem uX6_keeps : qVirt mX6_keeps 0 := ⟨wI_X6_keeps, wS_X6_keeps, ⟨wC_X6_keeps, wZ_X6, by decide +kernel, by decide +kernel, by decide +kernel⟩⟩
abbrev mX6_acted : qMI := (cX6_acted, yX6_acted, 3, (some .int), { frames := 0, cells := 0, slots := 0, locals := 0 })
theorem uX6_acted : qVirt mX6_acted 1 := ⟨wI_X6_acted, wS_X6_acted, ⟨wC_X6_acted, wZ_X6, by decide +kernel, by decide +kernel, by decide +kernel⟩⟩
abbrev mX6_place : qMI := (cX6_place, yX6_place, 3, (some .int), { frames := 1, cells := 0, slots := 0, locals := 22 })
theorem uX6_place : qVirt mX6_place 1 := ⟨wI_X6_place, wS_X6_place, ⟨wC_X6_place, wZ_X6, by decide +kernel, by decide +kernel, by decide +kernel⟩⟩
abbrev mX6_roads : qMI := (cX6_roads, yX6_roads, 4, (some .int), { frames := 1, cells := 0, slots := 0, locals := 22 })
theorem uX6_roads : qVirt mX6_roads 1 := ⟨wI_X6_roads, wS_X6_roads, ⟨wC_X6_roads, wZ_X6, by decide +kernel, by decide +kernel, by decide +kernel⟩⟩
abbrev mX6_road : qMI := (cX6_road, yX6_road, 3, (some .int), { frames := 2, cells := 0, slots := 0, locals := 45 })
theorem uX6_road : qVirt mX6_road 2 := ⟨wI_X6_road, wS_X6_road, ⟨wC_X6_road, wZ_X6, by decide +kernel, by decide +kernel, by decide +kernel⟩⟩
abbrev mX6_shut : qMI := (cX6_shut, yX6_shut, 4, (some .int), { frames := 2, cells := 0, slots := 0, locals := 45 })
theorem uX6_shut : qVirt mX6_shut 3 := ⟨wI_X6_shut, wS_X6_shut, ⟨wC_X6_shut, wZ_X6, by decide +kernel, by decide +kernel, by decide +kernel⟩⟩
abbrev mX6_set : qMI := (cX6_set, yX6_set, 4, (some .int), { frames := 1, cells := 0, slots := 0, locals := 22 })
theorem uX6_set : qVirt mX6_set 2 := ⟨wI_X6_set, wS_X6_set, ⟨wC_X6_set, wZ_X6, by decide +kernel, by decide +kernel, by decide +kernel⟩⟩
abbrev mX6_goes : qMI := (cX6_goes, yX6_goes, 6, (some .int), { frames := 0, cells := 0, slots := 0, locals := 0 })
theorem uX6_goes : qVirt mX6_goes 2 := ⟨wI_X6_goes, wS_X6_goes, ⟨wC_X6_goes, wZ_X6, by decide +kernel, by decide +kernel, by decide +kernel⟩⟩
abbrev mX6_hears : qMI := (cX6_hears, yX6_hears, 4, (some .int), { frames := 1, cells := 0, slots := 0, locals := 22 })
theorem uX6_hears : qVirt mX6_hears 2 := ⟨wI_X6_hears, wS_X6_hears, ⟨wC_X6_hears, wZ_X6, by decide +kernel, by decide +kernel, by decide +kernel⟩⟩
abbrev mX6_then : qMI := (cX6_then, yX6_then, 10, (some .int), { frames := 2, cells := 0, slots := 0, locals := 45 })
theorem uX6_then : qVirt mX6_then 3 := ⟨wI_X6_then, wS_X6_then, ⟨wC_X6_then, wZ_X6, by decide +kernel, by decide +kernel, by decide +kernel⟩⟩
abbrev mX6_believes : qMI := (cX6_believes, yX6_believes, 2, (some .int), { frames := 1, cells := 0, slots := 0, locals := 22 })
theorem uX6_believes : qVirt mX6_believes 1 := ⟨wI_X6_believes, wS_X6_believes, ⟨wC_X6_believes, wZ_X6, by decide +kernel, by decide +kernel, by decide +kernel⟩⟩
abbrev mX6_believe : qMI := (cX6_believe, yX6_believe, 2, (some .int), { frames := 2, cells := 0, slots := 0, locals := 43 })
theorem uX6_believe : qVirt mX6_believe 1 := ⟨wI_X6_believe, wS_X6_believe, ⟨wC_X6_believe, wZ_X6, by decide +kernel, by decide +kernel, by decide +kernel⟩⟩
abbrev mX6_checks : qMI := (cX6_checks, yX6_checks, 6, (some .int), { frames := 3, cells := 0, slots := 0, locals := 74 })
theorem uX6_checks : qVirt mX6_checks 2 := ⟨wI_X6_checks, wS_X6_checks, ⟨wC_X6_checks, wZ_X6, by decide +kernel, by decide +kernel, by decide +kernel⟩⟩
abbrev mX6_check : qMI := (cX6_check, yX6_check, 3, (some .int), { frames := 4, cells := 0, slots := 0, locals := 99 })
theorem uX6_check : qVirt mX6_check 2 := ⟨wI_X6_check, wS_X6_check, ⟨wC_X6_check, wZ_X6, by decide +kernel, by decide +kernel, by decide +kernel⟩⟩
abbrev mX6_placeOf : qMI := (cX6_placeOf, yX6_placeOf, 3, (some .int), { frames := 2, cells := 0, slots := 0, locals := 43 })
theorem uX6_placeOf : qVirt mX6_placeOf 2 := ⟨wI_X6_placeOf, wS_X6_placeOf, ⟨wC_X6_placeOf, wZ_X6, by decide +kernel, by decide +kernel, by decide +kernel⟩⟩
abbrev mX6_roundOf : qMI := (cX6_roundOf, yX6_roundOf, 3, (some .int), { frames := 1, cells := 0, slots := 0, locals := 22 })
theorem uX6_roundOf : qVirt mX6_roundOf 2 := ⟨wI_X6_roundOf, wS_X6_roundOf, ⟨wC_X6_roundOf, wZ_X6, by decide +kernel, by decide +kernel, by decide +kernel⟩⟩
abbrev mX6_behind : qMI := (cX6_behind, yX6_behind, 4, (some .int), { frames := 3, cells := 0, slots := 0, locals := 74 })
theorem uX6_behind : qVirt mX6_behind 3 := ⟨wI_X6_behind, wS_X6_behind, ⟨wC_X6_behind, wZ_X6, by decide +kernel, by decide +kernel, by decide +kernel⟩⟩
abbrev mX6_isEnough : qMI := (cX6_isEnough, yX6_isEnough, 7, (some .boolean), { frames := 3, cells := 0, slots := 0, locals := 74 })
theorem uX6_isEnough : qVirt mX6_isEnough 4 := ⟨wI_X6_isEnough, wS_X6_isEnough, ⟨wC_X6_isEnough, wZ_X6, by decide +kernel, by decide +kernel, by decide +kernel⟩⟩
abbrev mX6_solves : qMI := (cX6_solves, yX6_solves, 7, none, { frames := 4, cells := 0, slots := 0, locals := 100 })
theorem uX6_solves : qVirt mX6_solves 1 := ⟨wI_X6_solves, wS_X6_solves, ⟨wC_X6_solves, wZ_X6, by decide +kernel, by decide +kernel, by decide +kernel⟩⟩
abbrev mX6_sure : qMI := (cX6_sure, yX6_sure, 3, (some .int), { frames := 5, cells := 0, slots := 0, locals := 126 })
theorem uX6_sure : qVirt mX6_sure 2 := ⟨wI_X6_sure, wS_X6_sure, ⟨wC_X6_sure, wZ_X6, by decide +kernel, by decide +kernel, by decide +kernel⟩⟩
abbrev mX6_deaf : qMI := (cX6_deaf, yX6_deaf, 2, (some .int), { frames := 5, cells := 0, slots := 0, locals := 126 })
theorem uX6_deaf : qVirt mX6_deaf 1 := ⟨wI_X6_deaf, wS_X6_deaf, ⟨wC_X6_deaf, wZ_X6, by decide +kernel, by decide +kernel, by decide +kernel⟩⟩
abbrev mX6_memory : qMI := (cX6_memory, yX6_memory, 7, (some .int), { frames := 5, cells := 0, slots := 0, locals := 126 })
theorem uX6_memory : qVirt mX6_memory 1 := ⟨wI_X6_memory, wS_X6_memory, ⟨wC_X6_memory, wZ_X6, by decide +kernel, by decide +kernel, by decide +kernel⟩⟩
abbrev mX6_surely : qMI := (cX6_surely, yX6_surely, 3, (some .int), { frames := 0, cells := 0, slots := 0, locals := 0 })
theorem uX6_surely : qVirt mX6_surely 0 := ⟨wI_X6_surely, wS_X6_surely, ⟨wC_X6_surely, wZ_X6, by decide +kernel, by decide +kernel, by decide +kernel⟩⟩
abbrev mX6_beliefs : qMI := (cX6_beliefs, yX6_beliefs, 6, (some .int), { frames := 5, cells := 0, slots := 0, locals := 126 })
theorem uX6_beliefs : qVirt mX6_beliefs 1 := ⟨wI_X6_beliefs, wS_X6_beliefs, ⟨wC_X6_beliefs, wZ_X6, by decide +kernel, by decide +kernel, by decide +kernel⟩⟩
abbrev mX6_dangers : qMI := (cX6_dangers, yX6_dangers, 4, (some .int), { frames := 5, cells := 0, slots := 0, locals := 126 })
theorem uX6_dangers : qVirt mX6_dangers 1 := ⟨wI_X6_dangers, wS_X6_dangers, ⟨wC_X6_dangers, wZ_X6, by decide +kernel, by decide +kernel, by decide +kernel⟩⟩
abbrev mX6_counts : qMI := (cX6_counts, yX6_counts, 8, none, { frames := 1, cells := 0, slots := 0, locals := 25 })
theorem uX6_counts : qVirt mX6_counts 2 := ⟨wI_X6_counts, wS_X6_counts, ⟨wC_X6_counts, wZ_X6, by decide +kernel, by decide +kernel, by decide +kernel⟩⟩
abbrev mX6_ways : qMI := (cX6_ways, yX6_ways, 3, (some .long), { frames := 2, cells := 0, slots := 0, locals := 52 })
theorem uX6_ways : qVirt mX6_ways 2 := ⟨wI_X6_ways, wS_X6_ways, ⟨wC_X6_ways, wZ_X6, by decide +kernel, by decide +kernel, by decide +kernel⟩⟩
abbrev mX6_allWays : qMI := (cX6_allWays, yX6_allWays, 6, (some .long), { frames := 2, cells := 0, slots := 0, locals := 52 })
theorem uX6_allWays : qVirt mX6_allWays 2 := ⟨wI_X6_allWays, wS_X6_allWays, ⟨wC_X6_allWays, wZ_X6, by decide +kernel, by decide +kernel, by decide +kernel⟩⟩
abbrev mX6_met : qMI := (cX6_met, yX6_met, 6, (some .long), { frames := 3, cells := 0, slots := 0, locals := 77 })
theorem uX6_met : qVirt mX6_met 3 := ⟨wI_X6_met, wS_X6_met, ⟨wC_X6_met, wZ_X6, by decide +kernel, by decide +kernel, by decide +kernel⟩⟩
abbrev mX6_count : qMI := (cX6_count, yX6_count, 2, (some .int), { frames := 2, cells := 0, slots := 0, locals := 45 })
theorem uX6_count : qVirt mX6_count 1 := ⟨wI_X6_count, wS_X6_count, ⟨wC_X6_count, wZ_X6, by decide +kernel, by decide +kernel, by decide +kernel⟩⟩
abbrev mX6_undo : qMI := (cX6_undo, yX6_undo, 2, (some .int), { frames := 0, cells := 0, slots := 0, locals := 0 })
theorem uX6_undo : qVirt mX6_undo 0 := ⟨wI_X6_undo, wS_X6_undo, ⟨wC_X6_undo, wZ_X6, by decide +kernel, by decide +kernel, by decide +kernel⟩⟩
abbrev mX6_type : qMI := (cX6_type, yX6_type, 2, (some .int), { frames := 1, cells := 0, slots := 0, locals := 22 })
theorem uX6_type : qVirt mX6_type 1 := ⟨wI_X6_type, wS_X6_type, ⟨wC_X6_type, wZ_X6, by decide +kernel, by decide +kernel, by decide +kernel⟩⟩
abbrev mX6_clearText : qMI := (cX6_clearText, yX6_clearText, 2, (some .int), { frames := 0, cells := 0, slots := 0, locals := 0 })
theorem uX6_clearText : qVirt mX6_clearText 0 := ⟨wI_X6_clearText, wS_X6_clearText, ⟨wC_X6_clearText, wZ_X6, by decide +kernel, by decide +kernel, by decide +kernel⟩⟩
abbrev mX6_sign : qMI := (cX6_sign, yX6_sign, 1, (some .int), { frames := 0, cells := 0, slots := 0, locals := 0 })
theorem uX6_sign : qVirt mX6_sign 0 := ⟨wI_X6_sign, wS_X6_sign, ⟨wC_X6_sign, wZ_X6, by decide +kernel, by decide +kernel, by decide +kernel⟩⟩
abbrev mX6_takes : qMI := (cX6_takes, yX6_takes, 3, (some .boolean), { frames := 1, cells := 0, slots := 0, locals := 20 })
theorem uX6_takes : qVirt mX6_takes 1 := ⟨wI_X6_takes, wS_X6_takes, ⟨wC_X6_takes, wZ_X6, by decide +kernel, by decide +kernel, by decide +kernel⟩⟩
abbrev mX6_doesNext : qMI := (cX6_doesNext, yX6_doesNext, 5, (some .int), { frames := 4, cells := 0, slots := 0, locals := 99 })
theorem uX6_doesNext : qVirt mX6_doesNext 0 := ⟨wI_X6_doesNext, wS_X6_doesNext, ⟨wC_X6_doesNext, wZ_X6, by decide +kernel, by decide +kernel, by decide +kernel⟩⟩
abbrev mX6_faulty : qMI := (cX6_faulty, yX6_faulty, 3, (some .int), { frames := 5, cells := 0, slots := 0, locals := 123 })
theorem uX6_faulty : qVirt mX6_faulty 0 := ⟨wI_X6_faulty, wS_X6_faulty, ⟨wC_X6_faulty, wZ_X6, by decide +kernel, by decide +kernel, by decide +kernel⟩⟩
abbrev mX6_fault : qMI := (cX6_fault, yX6_fault, 3, (some .int), { frames := 6, cells := 0, slots := 0, locals := 145 })
theorem uX6_fault : qVirt mX6_fault 1 := ⟨wI_X6_fault, wS_X6_fault, ⟨wC_X6_fault, wZ_X6, by decide +kernel, by decide +kernel, by decide +kernel⟩⟩
abbrev mX6_play : qMI := (cX6_play, yX6_play, 1, (some .int), { frames := 6, cells := 0, slots := 0, locals := 145 })
theorem uX6_play : qVirt mX6_play 0 := ⟨wI_X6_play, wS_X6_play, ⟨wC_X6_play, wZ_X6, by decide +kernel, by decide +kernel, by decide +kernel⟩⟩
abbrev mJ6_bitCount_0f7a4 : qMI := (cJ6_bitCount_0f7a4, yJ6_bitCount_0f7a4, 1, (some .int), { frames := 0, cells := 0, slots := 0, locals := 0 })
theorem uJ6_bitCount_0f7a4 : qStat mJ6_bitCount_0f7a4 1 := ⟨wT_J6_bitCount_0f7a4, ⟨wC_J6_bitCount_0f7a4, wZ_J6, by decide +kernel, by decide +kernel, by decide +kernel⟩⟩
/-- the cells of a BlindHunts: 0 itself, states from 1, 9, 39, 47, 55, 63 on, 17 past, 18 text, 20 tables, 29 and 32 hunts, 35 walks, 38 comes -/
def hdX : qH := fun a => match a with
  | 0 => .inl 5
  | 1 => .inl 3 | 2 => .inr (0, 7) | 3 => .inr (0, 7) | 4 => .inr (0, 7) | 5 => .inr (0, 3) | 6 => .inr (0, 8) | 7 => .inr (0, 8) | 8 => .inr (0, 8)
  | 9 => .inl 3 | 10 => .inr (0, 7) | 11 => .inr (0, 7) | 12 => .inr (0, 7) | 13 => .inr (0, 3) | 14 => .inr (0, 8) | 15 => .inr (0, 8) | 16 => .inr (0, 8)
  | 17 => .inr (4, 4)
  | 18 => .inl 2 | 19 => .inr (2, 60)
  | 20 => .inl 1 | 21 => .inr (5, 5) | 22 => .inr (0, 128) | 23 => .inr (0, 128) | 24 => .inr (0, 128) | 25 => .inr (0, 128) | 26 => .inr (0, 128) | 27 => .inr (0, 5) | 28 => .inr (0, 128)
  | 29 => .inl 0 | 30 => .inr (0, 128) | 31 => .inr (0, 128)
  | 32 => .inl 0 | 33 => .inr (0, 128) | 34 => .inr (0, 128)
  | 35 => .inl 4 | 36 => .inr (3, 7) | 37 => .inr (3, 7)
  | 38 => .inr (1, 128)
  | 39 => .inl 3 | 40 => .inr (0, 7) | 41 => .inr (0, 7) | 42 => .inr (0, 7) | 43 => .inr (0, 3) | 44 => .inr (0, 8) | 45 => .inr (0, 8) | 46 => .inr (0, 8)
  | 47 => .inl 3 | 48 => .inr (0, 7) | 49 => .inr (0, 7) | 50 => .inr (0, 7) | 51 => .inr (0, 3) | 52 => .inr (0, 8) | 53 => .inr (0, 8) | 54 => .inr (0, 8)
  | 55 => .inl 3 | 56 => .inr (0, 7) | 57 => .inr (0, 7) | 58 => .inr (0, 7) | 59 => .inr (0, 3) | 60 => .inr (0, 8) | 61 => .inr (0, 8) | 62 => .inr (0, 8)
  | 63 => .inl 3 | 64 => .inr (0, 7) | 65 => .inr (0, 7) | 66 => .inr (0, 7) | 67 => .inr (0, 3) | 68 => .inr (0, 8) | 69 => .inr (0, 8) | 70 => .inr (0, 8)
  | _ => .inl 9
/-- the cells of a BlindHuntsModel: itself, s, was, begun, aside, text, needs, best, seen, many, more -/
def hdM : qH := fun a => match a with
  | 0 => .inl 6
  | 1 => .inr (0, 52) | 2 => .inr (0, 208) | 3 => .inr (0, 52) | 4 => .inr (0, 52) | 5 => .inr (2, 60) | 6 => .inr (0, 128) | 7 => .inr (0, 128) | 8 => .inr (1, 128) | 9 => .inr (3, 7) | 10 => .inr (3, 7)
  | _ => .inl 9
/-- the references in a BlindHunts: pa, the states of the past; sw, whether the walks' rows stand turned -/
def pX (pa : Nat → Nat) (sw : Bool) (a k : Nat) : Option Nat := match a with
  | 0 => [some 1, some 9, some 17, none, some 18, some 20, some 29, some 32, none, none, none, some 35, some 38].getD k none
  | 1 | 9 | 39 | 47 | 55 | 63 => [none, some (a + 1), some (a + 2), some (a + 3), some (a + 4), none, none, some (a + 5), some (a + 6), some (a + 7)].getD k none
  | 17 => if k < 4 then some (pa k) else none
  | 18 => if k = 0 then some 19 else none
  | 20 => [some 21, some 27, some 28].getD k none
  | 21 => if k < 5 then some (22 + k) else none
  | 29 => [some 30, some 31].getD k none
  | 32 => [some 33, some 34].getD k none
  | 35 => if sw then [some 37, some 36].getD k none else [some 36, some 37].getD k none
  | _ => none
def pM (a k : Nat) : Option Nat := match a with
  | 0 => [some 1, some 2, some 3, some 4, none, some 5, none, none, none, none, some 6, some 7, some 8, some 9, some 10].getD k none
  | _ => none
abbrev kX : qG := (71, false, 0, 0)
abbrev kM : qG := (11, false, 0, 0)
/-- a state's own cell -/
def SO (o : Nat) : Prop := o = 1 ∨ o = 9 ∨ o = 39 ∨ o = 47 ∨ o = 55 ∨ o = 63
theorem SO.o {o : Nat} (h : SO o) : hdX o = .inl 3 := by rcases h with rfl | rfl | rfl | rfl | rfl | rfl <;> rfl
theorem SO.a1 {o : Nat} (h : SO o) : hdX (o + 1) = .inr (0, 7) := by rcases h with rfl | rfl | rfl | rfl | rfl | rfl <;> rfl
theorem SO.a2 {o : Nat} (h : SO o) : hdX (o + 2) = .inr (0, 7) := by rcases h with rfl | rfl | rfl | rfl | rfl | rfl <;> rfl
theorem SO.a3 {o : Nat} (h : SO o) : hdX (o + 3) = .inr (0, 7) := by rcases h with rfl | rfl | rfl | rfl | rfl | rfl <;> rfl
theorem SO.a4 {o : Nat} (h : SO o) : hdX (o + 4) = .inr (0, 3) := by rcases h with rfl | rfl | rfl | rfl | rfl | rfl <;> rfl
theorem SO.a5 {o : Nat} (h : SO o) : hdX (o + 5) = .inr (0, 8) := by rcases h with rfl | rfl | rfl | rfl | rfl | rfl <;> rfl
theorem SO.a6 {o : Nat} (h : SO o) : hdX (o + 6) = .inr (0, 8) := by rcases h with rfl | rfl | rfl | rfl | rfl | rfl <;> rfl
theorem SO.a7 {o : Nat} (h : SO o) : hdX (o + 7) = .inr (0, 8) := by rcases h with rfl | rfl | rfl | rfl | rfl | rfl <;> rfl
theorem SO.lt {o : Nat} (h : SO o) : o + 7 < 71 := by rcases h with rfl | rfl | rfl | rfl | rfl | rfl <;> decide
theorem SO.p1 {o : Nat} (h : SO o) {pa : Nat → Nat} {sw : Bool} : pX pa sw o 1 = some (o + 1) := by rcases h with rfl | rfl | rfl | rfl | rfl | rfl <;> rfl
theorem SO.p2 {o : Nat} (h : SO o) {pa : Nat → Nat} {sw : Bool} : pX pa sw o 2 = some (o + 2) := by rcases h with rfl | rfl | rfl | rfl | rfl | rfl <;> rfl
theorem SO.p3 {o : Nat} (h : SO o) {pa : Nat → Nat} {sw : Bool} : pX pa sw o 3 = some (o + 3) := by rcases h with rfl | rfl | rfl | rfl | rfl | rfl <;> rfl
theorem SO.p4 {o : Nat} (h : SO o) {pa : Nat → Nat} {sw : Bool} : pX pa sw o 4 = some (o + 4) := by rcases h with rfl | rfl | rfl | rfl | rfl | rfl <;> rfl
theorem SO.p7 {o : Nat} (h : SO o) {pa : Nat → Nat} {sw : Bool} : pX pa sw o 7 = some (o + 5) := by rcases h with rfl | rfl | rfl | rfl | rfl | rfl <;> rfl
theorem SO.p8 {o : Nat} (h : SO o) {pa : Nat → Nat} {sw : Bool} : pX pa sw o 8 = some (o + 6) := by rcases h with rfl | rfl | rfl | rfl | rfl | rfl <;> rfl
theorem SO.p9 {o : Nat} (h : SO o) {pa : Nat → Nat} {sw : Bool} : pX pa sw o 9 = some (o + 7) := by rcases h with rfl | rfl | rfl | rfl | rfl | rfl <;> rfl
theorem rP {M : qM} {P : Nat → Nat → Option Nat} {a k b : Nat} (h : M.2.2 = P) (e : P a k = some b) : M.2.2 a k = some b := by rw [h]; exact e
theorem hd_row {g : Nat} (h : g < 5) : hdX (22 + g) = .inr (0, 128) := by
  rcases (by omega : g = 0 ∨ g = 1 ∨ g = 2 ∨ g = 3 ∨ g = 4) with rfl | rfl | rfl | rfl | rfl <;> rfl
theorem pX_21 {pa : Nat → Nat} {sw : Bool} {g : Nat} (h : g < 5) : pX pa sw 21 g = some (22 + g) := by
  show (if g < 5 then some (22 + g) else none) = _
  rw [if_pos h]

def mL_about : MD := (yL_about, cL_about, 4, (some .int), 8, 133)
def mL_append : MD := (yL_append, cL_append, 4, (some .int), 8, 133)
def mL_boat : MD := (yL_boat, cL_boat, 6, (some .int), 8, 153)
def mL_boatOf : MD := (yL_boatOf, cL_boatOf, 5, (some .int), 8, 134)
def mL_claim : MD := (yL_claim, cL_claim, 5, (some .int), 8, 153)
def mL_endsIn : MD := (yL_endsIn, cL_endsIn, 5, (some .int), 8, 142)
def mL_gutter : MD := (yL_gutter, cL_gutter, 7, (some .int), 8, 154)
def mL_gutterOf : MD := (yL_gutterOf, cL_gutterOf, 5, (some .int), 8, 134)
def mL_hook : MD := (yL_hook, cL_hook, 6, (some .int), 8, 153)
def mL_launch : MD := (yL_launch, cL_launch, 5, (some .int), 8, 152)
def mL_leastFolds : MD := (yL_leastFolds, cL_leastFolds, 5, (some .int), 8, 142)
def mL_load : MD := (yL_load, cL_load, 3, (some .int), 8, 164)
def mL_minutes : MD := (yL_minutes, cL_minutes, 4, (some .int), 8, 151)
def mL_ownerOf : MD := (yL_ownerOf, cL_ownerOf, 5, (some .int), 8, 137)
def mL_restore : MD := (yL_restore, cL_restore, 4, (some .int), 8, 133)
def mL_runScript : MD := (yL_runScript, cL_runScript, 6, (some .int), 8, 171)
def mL_save : MD := (yL_save, cL_save, 4, (some .int), 8, 133)
def mL_set : MD := (yL_set, cL_set, 5, (some .int), 8, 152)
def mL_setting : MD := (yL_setting, cL_setting, 4, (some .int), 8, 133)
def mL_simulate : MD := (yL_simulate, cL_simulate, 6, (some .int), 8, 169)
def mL_undo : MD := (yL_undo, cL_undo, 3, (some .int), 8, 150)
def mL_way : MD := (yL_way, cL_way, 6, (some .int), 8, 135)
def mL_why : MD := (yL_why, cL_why, 5, (some .int), 8, 134)
def mX0_forget : MD := (yX0_forget, cX0_forget, 1, none, 0, 0)
def mX0_init : MD := (yX0_init, cX0_init, 1, none, 4, 89)
def mX0_remember : MD := (yX0_remember, cX0_remember, 2, none, 4, 109)
def mX0_takeBack : MD := (yX0_takeBack, cX0_takeBack, 2, (some .int), 4, 109)
def mX1_clear : MD := (yX1_clear, cX1_clear, 2, none, 0, 0)
def mX1_copyTo : MD := (yX1_copyTo, cX1_copyTo, 4, none, 3, 86)
def mX1_holds : MD := (yX1_holds, cX1_holds, 2, (some .boolean), 0, 0)
def mX1_init : MD := (yX1_init, cX1_init, 4, none, 3, 66)
def mX1_keptAt : MD := (yX1_keptAt, cX1_keptAt, 2, (some (.object "GutterBoats$Tournament")), 0, 0)
def mX1_put : MD := (yX1_put, cX1_put, 4, none, 3, 86)
def mX2_addRow : MD := (yX2_addRow, cX2_addRow, 2, (some .int), 0, 0)
def mX2_at : MD := (yX2_at, cX2_at, 4, (some .int), 0, 0)
def mX2_copyFrom : MD := (yX2_copyFrom, cX2_copyFrom, 2, none, 1, 44)
def mX2_count : MD := (yX2_count, cX2_count, 5, (some .int), 1, 23)
def mX2_increase : MD := (yX2_increase, cX2_increase, 4, none, 1, 24)
def mX2_init : MD := (yX2_init, cX2_init, 3, none, 1, 21)
def mX2_put : MD := (yX2_put, cX2_put, 5, none, 0, 0)
def mX2_sum : MD := (yX2_sum, cX2_sum, 4, (some .int), 1, 23)
def mX3_add : MD := (yX3_add, cX3_add, 2, (some .int), 0, 0)
def mX3_atHand : MD := (yX3_atHand, cX3_atHand, 1, (some .int), 0, 0)
def mX3_firstError : MD := (yX3_firstError, cX3_firstError, 2, (some .int), 3, 69)
def mX3_init : MD := (yX3_init, cX3_init, 1, none, 1, 20)
def mX3_isFull : MD := (yX3_isFull, cX3_isFull, 1, (some .boolean), 0, 0)
def mX3_makeEmpty : MD := (yX3_makeEmpty, cX3_makeEmpty, 2, (some .int), 0, 0)
def mX3_numberAt : MD := (yX3_numberAt, cX3_numberAt, 2, (some .int), 0, 0)
def mX3_numbersBehind : MD := (yX3_numbersBehind, cX3_numbersBehind, 1, (some (.array .int)), 0, 0)
def mX3_readCommand : MD := (yX3_readCommand, cX3_readCommand, 4, (some .boolean), 2, 46)
def mX3_readNumber : MD := (yX3_readNumber, cX3_readNumber, 7, (some .int), 1, 20)
def mX3_runCommands : MD := (yX3_runCommands, cX3_runCommands, 4, (some .int), 5, 121)
def mX4_addBoat : MD := (yX4_addBoat, cX4_addBoat, 5, (some .int), 2, 46)
def mX4_addGutter : MD := (yX4_addGutter, cX4_addGutter, 6, (some .int), 1, 24)
def mX4_arrive : MD := (yX4_arrive, cX4_arrive, 3, none, 2, 47)
def mX4_boatFault : MD := (yX4_boatFault, cX4_boatFault, 4, (some .int), 1, 21)
def mX4_changeSetting : MD := (yX4_changeSetting, cX4_changeSetting, 4, (some .int), 1, 21)
def mX4_claimFault : MD := (yX4_claimFault, cX4_claimFault, 3, (some .int), 1, 21)
def mX4_copyFrom : MD := (yX4_copyFrom, cX4_copyFrom, 2, none, 2, 65)
def mX4_countClaimable : MD := (yX4_countClaimable, cX4_countClaimable, 4, (some .int), 3, 70)
def mX4_countInGutter : MD := (yX4_countInGutter, cX4_countInGutter, 5, (some .int), 1, 23)
def mX4_driftsIntoDrain : MD := (yX4_driftsIntoDrain, cX4_driftsIntoDrain, 6, (some .boolean), 2, 47)
def mX4_endHeat : MD := (yX4_endHeat, cX4_endHeat, 2, none, 2, 47)
def mX4_gutterFault : MD := (yX4_gutterFault, cX4_gutterFault, 5, (some .int), 2, 45)
def mX4_hasBoat : MD := (yX4_hasBoat, cX4_hasBoat, 2, (some .boolean), 0, 0)
def mX4_hasCell : MD := (yX4_hasCell, cX4_hasCell, 3, (some .boolean), 1, 23)
def mX4_hasGutter : MD := (yX4_hasGutter, cX4_hasGutter, 2, (some .boolean), 0, 0)
def mX4_hasOwner : MD := (yX4_hasOwner, cX4_hasOwner, 2, (some .boolean), 0, 0)
def mX4_hasWreck : MD := (yX4_hasWreck, cX4_hasWreck, 4, (some .boolean), 1, 23)
def mX4_hookDistance : MD := (yX4_hookDistance, cX4_hookDistance, 3, (some .int), 1, 23)
def mX4_hookFault : MD := (yX4_hookFault, cX4_hookFault, 4, (some .int), 2, 45)
def mX4_init : MD := (yX4_init, cX4_init, 1, none, 2, 46)
def mX4_launchBoat : MD := (yX4_launchBoat, cX4_launchBoat, 3, (some .int), 2, 49)
def mX4_launchFault : MD := (yX4_launchFault, cX4_launchFault, 3, (some .int), 1, 23)
def mX4_letHeatEnd : MD := (yX4_letHeatEnd, cX4_letHeatEnd, 2, none, 4, 96)
def mX4_lowestWreck : MD := (yX4_lowestWreck, cX4_lowestWreck, 3, (some .int), 2, 46)
def mX4_makeNew : MD := (yX4_makeNew, cX4_makeNew, 3, none, 1, 24)
def mX4_minutesFault : MD := (yX4_minutesFault, cX4_minutesFault, 2, (some .int), 0, 0)
def mX4_minutesUntilEnd : MD := (yX4_minutesUntilEnd, cX4_minutesUntilEnd, 3, (some .int), 4, 96)
def mX4_nextCell : MD := (yX4_nextCell, cX4_nextCell, 3, (some .int), 1, 23)
def mX4_nextGutter : MD := (yX4_nextGutter, cX4_nextGutter, 3, (some .int), 1, 23)
def mX4_number : MD := (yX4_number, cX4_number, 2, (some .int), 2, 47)
def mX4_numberOfGutter : MD := (yX4_numberOfGutter, cX4_numberOfGutter, 3, (some .int), 3, 68)
def mX4_numberOfOwner : MD := (yX4_numberOfOwner, cX4_numberOfOwner, 3, (some .int), 4, 93)
def mX4_passMinutes : MD := (yX4_passMinutes, cX4_passMinutes, 5, (some .int), 3, 72)
def mX4_perform : MD := (yX4_perform, cX4_perform, 6, (some .boolean), 4, 96)
def mX4_putHook : MD := (yX4_putHook, cX4_putHook, 4, none, 1, 24)
def mX4_reasonAgainst : MD := (yX4_reasonAgainst, cX4_reasonAgainst, 6, (some .int), 2, 45)
def mX4_settingFault : MD := (yX4_settingFault, cX4_settingFault, 5, (some .int), 0, 0)
def mX4_settingNow : MD := (yX4_settingNow, cX4_settingNow, 2, (some .int), 0, 0)
def mX4_soakLimit : MD := (yX4_soakLimit, cX4_soakLimit, 2, (some .int), 1, 23)
def mX4_soakUp : MD := (yX4_soakUp, cX4_soakUp, 2, none, 2, 47)
def mX4_takeOut : MD := (yX4_takeOut, cX4_takeOut, 3, none, 1, 24)
def mX4_takeWreck : MD := (yX4_takeWreck, cX4_takeWreck, 4, (some .int), 2, 47)
def mX4_wayByCells : MD := (yX4_wayByCells, cX4_wayByCells, 7, (some .int), 2, 45)
def mX4_wayByGutters : MD := (yX4_wayByGutters, cX4_wayByGutters, 7, (some .int), 1, 23)
def mX5_about : MD := (yX5_about, cX5_about, 2, (some .int), 7, 112)
def mX5_append : MD := (yX5_append, cX5_append, 2, (some .int), 7, 112)
def mX5_boat : MD := (yX5_boat, cX5_boat, 4, (some .int), 7, 130)
def mX5_boatOf : MD := (yX5_boatOf, cX5_boatOf, 3, (some .int), 7, 112)
def mX5_claim : MD := (yX5_claim, cX5_claim, 4, (some .int), 7, 130)
def mX5_clearText : MD := (yX5_clearText, cX5_clearText, 1, (some .int), 1, 21)
def mX5_endsIn : MD := (yX5_endsIn, cX5_endsIn, 5, (some .int), 7, 118)
def mX5_errorPosition : MD := (yX5_errorPosition, cX5_errorPosition, 1, (some .int), 4, 90)
def mX5_gutter : MD := (yX5_gutter, cX5_gutter, 5, (some .int), 7, 130)
def mX5_gutterOf : MD := (yX5_gutterOf, cX5_gutterOf, 3, (some .int), 7, 112)
def mX5_hook : MD := (yX5_hook, cX5_hook, 4, (some .int), 7, 130)
def mX5_init : MD := (yX5_init, cX5_init, 1, none, 5, 109)
def mX5_launch : MD := (yX5_launch, cX5_launch, 3, (some .int), 7, 130)
def mX5_leastFolds : MD := (yX5_leastFolds, cX5_leastFolds, 5, (some .int), 7, 118)
def mX5_load : MD := (yX5_load, cX5_load, 1, (some .int), 7, 144)
def mX5_minutes : MD := (yX5_minutes, cX5_minutes, 2, (some .int), 7, 130)
def mX5_ownerOf : MD := (yX5_ownerOf, cX5_ownerOf, 3, (some .int), 7, 115)
def mX5_restore : MD := (yX5_restore, cX5_restore, 2, (some .int), 7, 112)
def mX5_runScript : MD := (yX5_runScript, cX5_runScript, 5, (some .int), 7, 147)
def mX5_save : MD := (yX5_save, cX5_save, 2, (some .int), 7, 112)
def mX5_set : MD := (yX5_set, cX5_set, 3, (some .int), 7, 130)
def mX5_setting : MD := (yX5_setting, cX5_setting, 2, (some .int), 7, 112)
def mX5_simulate : MD := (yX5_simulate, cX5_simulate, 7, (some .int), 7, 143)
def mX5_succeeds : MD := (yX5_succeeds, cX5_succeeds, 7, (some .boolean), 5, 121)
def mX5_takeTurn : MD := (yX5_takeTurn, cX5_takeTurn, 3, none, 5, 121)
def mX5_throwFor : MD := (yX5_throwFor, cX5_throwFor, 1, none, 6, 92)
def mX5_undo : MD := (yX5_undo, cX5_undo, 1, (some .int), 7, 130)
def mX5_way : MD := (yX5_way, cX5_way, 4, (some .int), 7, 112)
def mX5_why : MD := (yX5_why, cX5_why, 3, (some .int), 7, 112)
def mX5_winner : MD := (yX5_winner, cX5_winner, 2, (some .int), 5, 117)
def mX5_withoutLowest : MD := (yX5_withoutLowest, cX5_withoutLowest, 6, (some .long), 0, 0)
def mX6_about : MD := (yX6_about, cX6_about, 2, (some .int), 3, 64)
def mX6_abs : MD := (yX6_abs, cX6_abs, 1, (some .int), 0, 0)
def mX6_addBoat : MD := (yX6_addBoat, cX6_addBoat, 6, (some .int), 1, 20)
def mX6_addGutter : MD := (yX6_addGutter, cX6_addGutter, 7, (some .int), 0, 0)
def mX6_append : MD := (yX6_append, cX6_append, 2, (some .int), 1, 25)
def mX6_bears : MD := (yX6_bears, cX6_bears, 2, (some .int), 1, 20)
def mX6_boat : MD := (yX6_boat, cX6_boat, 4, (some .int), 2, 46)
def mX6_boatOf : MD := (yX6_boatOf, cX6_boatOf, 4, (some .int), 2, 46)
def mX6_boatsOf : MD := (yX6_boatsOf, cX6_boatsOf, 4, (some .int), 1, 20)
def mX6_claim : MD := (yX6_claim, cX6_claim, 3, (some .int), 4, 89)
def mX6_claimable : MD := (yX6_claimable, cX6_claimable, 4, (some .int), 3, 66)
def mX6_clearText : MD := (yX6_clearText, cX6_clearText, 2, (some .int), 0, 0)
def mX6_command : MD := (yX6_command, cX6_command, 8, (some .boolean), 8, 180)
def mX6_copy : MD := (yX6_copy, cX6_copy, 3, none, 0, 0)
def mX6_digit : MD := (yX6_digit, cX6_digit, 4, (some .int), 1, 25)
def mX6_drift : MD := (yX6_drift, cX6_drift, 6, none, 4, 89)
def mX6_drifted : MD := (yX6_drifted, cX6_drifted, 3, (some .int), 1, 20)
def mX6_endHeat : MD := (yX6_endHeat, cX6_endHeat, 3, (some .int), 2, 41)
def mX6_endsIn : MD := (yX6_endsIn, cX6_endsIn, 4, (some .int), 7, 159)
def mX6_errorPosition : MD := (yX6_errorPosition, cX6_errorPosition, 1, (some .int), 10, 224)
def mX6_far : MD := (yX6_far, cX6_far, 3, (some .int), 1, 20)
def mX6_flowsInto : MD := (yX6_flowsInto, cX6_flowsInto, 3, (some .boolean), 3, 68)
def mX6_fresh : MD := (yX6_fresh, cX6_fresh, 2, none, 0, 0)
def mX6_goClaim : MD := (yX6_goClaim, cX6_goClaim, 4, (some .int), 3, 66)
def mX6_goHook : MD := (yX6_goHook, cX6_goHook, 4, (some .int), 4, 89)
def mX6_goLaunch : MD := (yX6_goLaunch, cX6_goLaunch, 3, (some .int), 3, 64)
def mX6_goMinute : MD := (yX6_goMinute, cX6_goMinute, 3, (some .int), 5, 114)
def mX6_goMinutes : MD := (yX6_goMinutes, cX6_goMinutes, 4, (some .int), 6, 136)
def mX6_goes : MD := (yX6_goes, cX6_goes, 2, (some .boolean), 0, 0)
def mX6_goesTill : MD := (yX6_goesTill, cX6_goesTill, 4, (some .int), 6, 136)
def mX6_gutter : MD := (yX6_gutter, cX6_gutter, 5, (some .int), 4, 90)
def mX6_gutterOf : MD := (yX6_gutterOf, cX6_gutterOf, 3, (some .int), 4, 87)
def mX6_here : MD := (yX6_here, cX6_here, 1, (some .int), 0, 0)
def mX6_hook : MD := (yX6_hook, cX6_hook, 4, (some .int), 5, 112)
def mX6_in : MD := (yX6_in, cX6_in, 6, (some .boolean), 0, 0)
def mX6_inGutter : MD := (yX6_inGutter, cX6_inGutter, 5, (some .int), 2, 41)
def mX6_inState : MD := (yX6_inState, cX6_inState, 4, (some .int), 2, 41)
def mX6_init : MD := (yX6_init, cX6_init, 1, none, 1, 21)
def mX6_isBoat : MD := (yX6_isBoat, cX6_isBoat, 2, (some .boolean), 1, 25)
def mX6_isCell : MD := (yX6_isCell, cX6_isCell, 3, (some .boolean), 2, 46)
def mX6_isFlow : MD := (yX6_isFlow, cX6_isFlow, 2, (some .boolean), 1, 25)
def mX6_isFolded : MD := (yX6_isFolded, cX6_isFolded, 2, (some .boolean), 1, 25)
def mX6_isGutter : MD := (yX6_isGutter, cX6_isGutter, 2, (some .boolean), 1, 25)
def mX6_isHooked : MD := (yX6_isHooked, cX6_isHooked, 3, (some .boolean), 1, 20)
def mX6_isOwner : MD := (yX6_isOwner, cX6_isOwner, 1, (some .boolean), 1, 25)
def mX6_isSetting : MD := (yX6_isSetting, cX6_isSetting, 2, (some .boolean), 1, 25)
def mX6_isWreck : MD := (yX6_isWreck, cX6_isWreck, 5, (some .boolean), 2, 41)
def mX6_launch : MD := (yX6_launch, cX6_launch, 4, (some .int), 4, 86)
def mX6_leastFolds : MD := (yX6_leastFolds, cX6_leastFolds, 7, (some .int), 7, 159)
def mX6_load : MD := (yX6_load, cX6_load, 1, (some .int), 10, 224)
def mX6_lowestWreck : MD := (yX6_lowestWreck, cX6_lowestWreck, 3, (some .int), 3, 65)
def mX6_minutes : MD := (yX6_minutes, cX6_minutes, 2, (some .int), 7, 159)
def mX6_moves : MD := (yX6_moves, cX6_moves, 5, (some .boolean), 3, 65)
def mX6_ownerOf : MD := (yX6_ownerOf, cX6_ownerOf, 3, (some .int), 4, 89)
def mX6_points : MD := (yX6_points, cX6_points, 3, (some .int), 0, 0)
def mX6_put : MD := (yX6_put, cX6_put, 4, (some .int), 0, 0)
def mX6_readAll : MD := (yX6_readAll, cX6_readAll, 2, (some .int), 9, 203)
def mX6_readBoat : MD := (yX6_readBoat, cX6_readBoat, 4, (some .int), 2, 48)
def mX6_readClaim : MD := (yX6_readClaim, cX6_readClaim, 3, (some .int), 4, 89)
def mX6_readCommand : MD := (yX6_readCommand, cX6_readCommand, 2, (some .int), 8, 182)
def mX6_readGutter : MD := (yX6_readGutter, cX6_readGutter, 5, (some .int), 4, 90)
def mX6_readHook : MD := (yX6_readHook, cX6_readHook, 4, (some .int), 5, 112)
def mX6_readLaunch : MD := (yX6_readLaunch, cX6_readLaunch, 3, (some .int), 4, 86)
def mX6_readRest : MD := (yX6_readRest, cX6_readRest, 4, (some .int), 7, 159)
def mX6_refused : MD := (yX6_refused, cX6_refused, 2, (some .boolean), 0, 0)
def mX6_remember : MD := (yX6_remember, cX6_remember, 2, none, 0, 0)
def mX6_restore : MD := (yX6_restore, cX6_restore, 3, (some .int), 1, 25)
def mX6_runBoat : MD := (yX6_runBoat, cX6_runBoat, 5, (some .boolean), 2, 46)
def mX6_runClaim : MD := (yX6_runClaim, cX6_runClaim, 3, (some .boolean), 4, 89)
def mX6_runGutter : MD := (yX6_runGutter, cX6_runGutter, 6, (some .boolean), 4, 90)
def mX6_runHook : MD := (yX6_runHook, cX6_runHook, 4, (some .boolean), 5, 112)
def mX6_runLaunch : MD := (yX6_runLaunch, cX6_runLaunch, 3, (some .boolean), 4, 86)
def mX6_runMinutes : MD := (yX6_runMinutes, cX6_runMinutes, 2, (some .boolean), 7, 159)
def mX6_runScript : MD := (yX6_runScript, cX6_runScript, 5, (some .int), 9, 207)
def mX6_runSet : MD := (yX6_runSet, cX6_runSet, 3, (some .boolean), 2, 46)
def mX6_save : MD := (yX6_save, cX6_save, 3, (some .int), 1, 25)
def mX6_set : MD := (yX6_set, cX6_set, 3, (some .int), 2, 46)
def mX6_setting : MD := (yX6_setting, cX6_setting, 2, (some .int), 1, 25)
def mX6_simulate : MD := (yX6_simulate, cX6_simulate, 8, (some .int), 9, 203)
def mX6_spot : MD := (yX6_spot, cX6_spot, 1, (some .int), 0, 0)
def mX6_state : MD := (yX6_state, cX6_state, 2, (some .int), 1, 20)
def mX6_stir : MD := (yX6_stir, cX6_stir, 4, none, 8, 180)
def mX6_take : MD := (yX6_take, cX6_take, 2, none, 0, 0)
def mX6_tens : MD := (yX6_tens, cX6_tens, 4, (some .long), 0, 0)
def mX6_thrown : MD := (yX6_thrown, cX6_thrown, 1, (some .int), 0, 0)
def mX6_toDrain : MD := (yX6_toDrain, cX6_toDrain, 6, (some .int), 0, 0)
def mX6_two : MD := (yX6_two, cX6_two, 4, (some .int), 2, 48)
def mX6_undo : MD := (yX6_undo, cX6_undo, 2, (some .int), 1, 21)
def mX6_way : MD := (yX6_way, cX6_way, 4, (some .int), 3, 68)
def mX6_why : MD := (yX6_why, cX6_why, 3, (some .int), 3, 66)
def mX6_whyNot : MD := (yX6_whyNot, cX6_whyNot, 5, (some .int), 2, 42)
def mX6_winner : MD := (yX6_winner, cX6_winner, 2, (some .int), 6, 136)
theorem wsi_X0 : ∀ x ∈ u_ws RX0 TX0 3, x ∈ WA := by
  have h1 : ∀ x ∈ u_ws RX0 TX0 3, x ∈ lw_tbl := by decide +kernel
  have h2 : (u_ws RX0 TX0 3).all goodWord = true := by decide +kernel
  exact fun x hx => List.mem_filter.mpr ⟨h1 x hx, List.all_eq_true.mp h2 x hx⟩
theorem wsi_X1 : ∀ x ∈ u_ws RX1 TX1 2, x ∈ WA := by
  have h1 : ∀ x ∈ u_ws RX1 TX1 2, x ∈ lw_tbl := by decide +kernel
  have h2 : (u_ws RX1 TX1 2).all goodWord = true := by decide +kernel
  exact fun x hx => List.mem_filter.mpr ⟨h1 x hx, List.all_eq_true.mp h2 x hx⟩
theorem wsi_X2 : ∀ x ∈ u_ws RX2 TX2 3, x ∈ WA := by
  have h1 : ∀ x ∈ u_ws RX2 TX2 3, x ∈ lw_tbl := by decide +kernel
  have h2 : (u_ws RX2 TX2 3).all goodWord = true := by decide +kernel
  exact fun x hx => List.mem_filter.mpr ⟨h1 x hx, List.all_eq_true.mp h2 x hx⟩
theorem wsi_X3 : ∀ x ∈ u_ws RX3 TX3 5, x ∈ WA := by
  have h1 : ∀ x ∈ u_ws RX3 TX3 5, x ∈ lw_tbl := by decide +kernel
  have h2 : (u_ws RX3 TX3 5).all goodWord = true := by decide +kernel
  exact fun x hx => List.mem_filter.mpr ⟨h1 x hx, List.all_eq_true.mp h2 x hx⟩
theorem wsi_X4 : ∀ x ∈ u_ws RX4 TX4 10, x ∈ WA := by
  have h1 : ∀ x ∈ u_ws RX4 TX4 10, x ∈ lw_tbl := by decide +kernel
  have h2 : (u_ws RX4 TX4 10).all goodWord = true := by decide +kernel
  exact fun x hx => List.mem_filter.mpr ⟨h1 x hx, List.all_eq_true.mp h2 x hx⟩
theorem wsi_X5 : ∀ x ∈ u_ws RX5 TX5 5, x ∈ WA := by
  have h1 : ∀ x ∈ u_ws RX5 TX5 5, x ∈ lw_tbl := by decide +kernel
  have h2 : (u_ws RX5 TX5 5).all goodWord = true := by decide +kernel
  exact fun x hx => List.mem_filter.mpr ⟨h1 x hx, List.all_eq_true.mp h2 x hx⟩
theorem wsi_X6 : ∀ x ∈ u_ws RX6 TX6 13, x ∈ WA := by
  have h1 : ∀ x ∈ u_ws RX6 TX6 13, x ∈ lw_tbl := by decide +kernel
  have h2 : (u_ws RX6 TX6 13).all goodWord = true := by decide +kernel
  exact fun x hx => List.mem_filter.mpr ⟨h1 x hx, List.all_eq_true.mp h2 x hx⟩
theorem fp_X0_0 : FP 0 0 (.object "GutterBoats$Shelf") true := ⟨RX0, TX0, 3, tyX0, rfl, tyX0_ok, nmX0, rfl, rfl, rfl⟩
theorem fp_X0_1 : FP 0 1 (.int) false := ⟨RX0, TX0, 3, tyX0, rfl, tyX0_ok, nmX0, rfl, rfl, rfl⟩
theorem fp_X0_2 : FP 0 2 (.int) false := ⟨RX0, TX0, 3, tyX0, rfl, tyX0_ok, nmX0, rfl, rfl, rfl⟩
theorem fp_X1_0 : FP 1 0 (.array (.object "GutterBoats$Tournament")) true := ⟨RX1, TX1, 2, tyX1, rfl, tyX1_ok, nmX1, rfl, rfl, rfl⟩
theorem fp_X1_1 : FP 1 1 (.array .boolean) true := ⟨RX1, TX1, 2, tyX1, rfl, tyX1_ok, nmX1, rfl, rfl, rfl⟩
theorem fp_X2_0 : FP 2 0 (.int) true := ⟨RX2, TX2, 3, tyX2, rfl, tyX2_ok, nmX2, rfl, rfl, rfl⟩
theorem fp_X2_1 : FP 2 1 (.array .int) true := ⟨RX2, TX2, 3, tyX2, rfl, tyX2_ok, nmX2, rfl, rfl, rfl⟩
theorem fp_X2_2 : FP 2 2 (.int) false := ⟨RX2, TX2, 3, tyX2, rfl, tyX2_ok, nmX2, rfl, rfl, rfl⟩
theorem fp_X3_0 : FP 3 0 (.array .int) true := ⟨RX3, TX3, 5, tyX3, rfl, tyX3_ok, nmX3, rfl, rfl, rfl⟩
theorem fp_X3_1 : FP 3 1 (.array .int) true := ⟨RX3, TX3, 5, tyX3, rfl, tyX3_ok, nmX3, rfl, rfl, rfl⟩
theorem fp_X3_2 : FP 3 2 (.int) false := ⟨RX3, TX3, 5, tyX3, rfl, tyX3_ok, nmX3, rfl, rfl, rfl⟩
theorem fp_X3_3 : FP 3 3 (.int) false := ⟨RX3, TX3, 5, tyX3, rfl, tyX3_ok, nmX3, rfl, rfl, rfl⟩
theorem fp_X3_4 : FP 3 4 (.int) false := ⟨RX3, TX3, 5, tyX3, rfl, tyX3_ok, nmX3, rfl, rfl, rfl⟩
theorem fp_X4_0 : FP 4 0 (.object "GutterBoats$Table") true := ⟨RX4, TX4, 10, tyX4, rfl, tyX4_ok, nmX4, rfl, rfl, rfl⟩
theorem fp_X4_1 : FP 4 1 (.object "GutterBoats$Table") true := ⟨RX4, TX4, 10, tyX4, rfl, tyX4_ok, nmX4, rfl, rfl, rfl⟩
theorem fp_X4_2 : FP 4 2 (.object "GutterBoats$Table") true := ⟨RX4, TX4, 10, tyX4, rfl, tyX4_ok, nmX4, rfl, rfl, rfl⟩
theorem fp_X4_3 : FP 4 3 (.int) false := ⟨RX4, TX4, 10, tyX4, rfl, tyX4_ok, nmX4, rfl, rfl, rfl⟩
theorem fp_X4_4 : FP 4 4 (.int) false := ⟨RX4, TX4, 10, tyX4, rfl, tyX4_ok, nmX4, rfl, rfl, rfl⟩
theorem fp_X4_5 : FP 4 5 (.int) false := ⟨RX4, TX4, 10, tyX4, rfl, tyX4_ok, nmX4, rfl, rfl, rfl⟩
theorem fp_X4_6 : FP 4 6 (.int) false := ⟨RX4, TX4, 10, tyX4, rfl, tyX4_ok, nmX4, rfl, rfl, rfl⟩
theorem fp_X4_7 : FP 4 7 (.int) false := ⟨RX4, TX4, 10, tyX4, rfl, tyX4_ok, nmX4, rfl, rfl, rfl⟩
theorem fp_X4_8 : FP 4 8 (.boolean) false := ⟨RX4, TX4, 10, tyX4, rfl, tyX4_ok, nmX4, rfl, rfl, rfl⟩
theorem fp_X4_9 : FP 4 9 (.int) false := ⟨RX4, TX4, 10, tyX4, rfl, tyX4_ok, nmX4, rfl, rfl, rfl⟩
theorem fp_X5_0 : FP 5 0 (.object "GutterBoats$Text") true := ⟨RX5, TX5, 5, tyX5, rfl, tyX5_ok, nmX5, rfl, rfl, rfl⟩
theorem fp_X5_1 : FP 5 1 (.object "GutterBoats$Tournament") true := ⟨RX5, TX5, 5, tyX5, rfl, tyX5_ok, nmX5, rfl, rfl, rfl⟩
theorem fp_X5_2 : FP 5 2 (.object "GutterBoats$Tournament") true := ⟨RX5, TX5, 5, tyX5, rfl, tyX5_ok, nmX5, rfl, rfl, rfl⟩
theorem fp_X5_3 : FP 5 3 (.object "GutterBoats$History") true := ⟨RX5, TX5, 5, tyX5, rfl, tyX5_ok, nmX5, rfl, rfl, rfl⟩
theorem fp_X5_4 : FP 5 4 (.object "GutterBoats$Shelf") true := ⟨RX5, TX5, 5, tyX5, rfl, tyX5_ok, nmX5, rfl, rfl, rfl⟩
theorem fp_X6_0 : FP 6 0 (.int) false := ⟨RX6, TX6, 13, tyX6, rfl, tyX6_ok, nmX6, rfl, rfl, rfl⟩
theorem fp_X6_1 : FP 6 1 (.array .int) true := ⟨RX6, TX6, 13, tyX6, rfl, tyX6_ok, nmX6, rfl, rfl, rfl⟩
theorem fp_X6_2 : FP 6 2 (.array .int) true := ⟨RX6, TX6, 13, tyX6, rfl, tyX6_ok, nmX6, rfl, rfl, rfl⟩
theorem fp_X6_3 : FP 6 3 (.array .int) true := ⟨RX6, TX6, 13, tyX6, rfl, tyX6_ok, nmX6, rfl, rfl, rfl⟩
theorem fp_X6_4 : FP 6 4 (.array .int) true := ⟨RX6, TX6, 13, tyX6, rfl, tyX6_ok, nmX6, rfl, rfl, rfl⟩
theorem fp_X6_5 : FP 6 5 (.int) false := ⟨RX6, TX6, 13, tyX6, rfl, tyX6_ok, nmX6, rfl, rfl, rfl⟩
theorem fp_X6_6 : FP 6 6 (.array .int) true := ⟨RX6, TX6, 13, tyX6, rfl, tyX6_ok, nmX6, rfl, rfl, rfl⟩
theorem fp_X6_7 : FP 6 7 (.array .boolean) true := ⟨RX6, TX6, 13, tyX6, rfl, tyX6_ok, nmX6, rfl, rfl, rfl⟩
theorem fp_X6_8 : FP 6 8 (.array .int) true := ⟨RX6, TX6, 13, tyX6, rfl, tyX6_ok, nmX6, rfl, rfl, rfl⟩
theorem fp_X6_9 : FP 6 9 (.int) false := ⟨RX6, TX6, 13, tyX6, rfl, tyX6_ok, nmX6, rfl, rfl, rfl⟩
theorem fp_X6_10 : FP 6 10 (.int) false := ⟨RX6, TX6, 13, tyX6, rfl, tyX6_ok, nmX6, rfl, rfl, rfl⟩
theorem fp_X6_11 : FP 6 11 (.boolean) false := ⟨RX6, TX6, 13, tyX6, rfl, tyX6_ok, nmX6, rfl, rfl, rfl⟩
theorem fp_X6_12 : FP 6 12 (.int) false := ⟨RX6, TX6, 13, tyX6, rfl, tyX6_ok, nmX6, rfl, rfl, rfl⟩
theorem fg_X5_10 : FG RX5 10 5 0 := ⟨RX5, TX5, 5, rfl, by decide, wsi_X5, Or.inl (wa_mem 159 (by decide +kernel) rfl)⟩
theorem fw_X5_10 : ∀ C T N, vwCl[5]? = some (C, T, N) → C = RX5 ∧ Cond.fieldLink RX5 10 (T 0).1 (T 0).2.1 (T 0).2.2.1 ∈ WA := fun C T N h => by
  have e : (RX5, TX5, 5) = (C, T, N) := Option.some.inj h
  cases e
  exact ⟨rfl, wa_mem 159 (by decide +kernel) rfl⟩
theorem fg_X5_19 : FG RX5 19 5 1 := ⟨RX5, TX5, 5, rfl, by decide, wsi_X5, Or.inl (wa_mem 160 (by decide +kernel) rfl)⟩
theorem fw_X5_19 : ∀ C T N, vwCl[5]? = some (C, T, N) → C = RX5 ∧ Cond.fieldLink RX5 19 (T 1).1 (T 1).2.1 (T 1).2.2.1 ∈ WA := fun C T N h => by
  have e : (RX5, TX5, 5) = (C, T, N) := Option.some.inj h
  cases e
  exact ⟨rfl, wa_mem 160 (by decide +kernel) rfl⟩
theorem fg_X5_23 : FG RX5 23 5 2 := ⟨RX5, TX5, 5, rfl, by decide, wsi_X5, Or.inl (wa_mem 161 (by decide +kernel) rfl)⟩
theorem fw_X5_23 : ∀ C T N, vwCl[5]? = some (C, T, N) → C = RX5 ∧ Cond.fieldLink RX5 23 (T 2).1 (T 2).2.1 (T 2).2.2.1 ∈ WA := fun C T N h => by
  have e : (RX5, TX5, 5) = (C, T, N) := Option.some.inj h
  cases e
  exact ⟨rfl, wa_mem 161 (by decide +kernel) rfl⟩
theorem fg_X5_29 : FG RX5 29 5 3 := ⟨RX5, TX5, 5, rfl, by decide, wsi_X5, Or.inl (wa_mem 162 (by decide +kernel) rfl)⟩
theorem fw_X5_29 : ∀ C T N, vwCl[5]? = some (C, T, N) → C = RX5 ∧ Cond.fieldLink RX5 29 (T 3).1 (T 3).2.1 (T 3).2.2.1 ∈ WA := fun C T N h => by
  have e : (RX5, TX5, 5) = (C, T, N) := Option.some.inj h
  cases e
  exact ⟨rfl, wa_mem 162 (by decide +kernel) rfl⟩
theorem fg_X5_38 : FG RX5 38 5 4 := ⟨RX5, TX5, 5, rfl, by decide, wsi_X5, Or.inl (wa_mem 163 (by decide +kernel) rfl)⟩
theorem fw_X5_38 : ∀ C T N, vwCl[5]? = some (C, T, N) → C = RX5 ∧ Cond.fieldLink RX5 38 (T 4).1 (T 4).2.1 (T 4).2.2.1 ∈ WA := fun C T N h => by
  have e : (RX5, TX5, 5) = (C, T, N) := Option.some.inj h
  cases e
  exact ⟨rfl, wa_mem 163 (by decide +kernel) rfl⟩
theorem fg_X5_90 : FG RX5 90 4 1 := ⟨RX4, TX4, 10, rfl, by decide, wsi_X4, Or.inr ⟨"GutterBoats", by decide +kernel⟩⟩
theorem fg_X5_161 : FG RX5 161 4 9 := ⟨RX4, TX4, 10, rfl, by decide, wsi_X4, Or.inr ⟨"GutterBoats", by decide +kernel⟩⟩
theorem fg_X5_177 : FG RX5 177 0 2 := ⟨RX0, TX0, 3, rfl, by decide, wsi_X0, Or.inr ⟨"GutterBoats", by decide +kernel⟩⟩
theorem fg_X5_192 : FG RX5 192 2 2 := ⟨RX2, TX2, 3, rfl, by decide, wsi_X2, Or.inr ⟨"GutterBoats", by decide +kernel⟩⟩
theorem fg_X5_211 : FG RX5 211 4 7 := ⟨RX4, TX4, 10, rfl, by decide, wsi_X4, Or.inr ⟨"GutterBoats", by decide +kernel⟩⟩
theorem fg_X5_214 : FG RX5 214 4 2 := ⟨RX4, TX4, 10, rfl, by decide, wsi_X4, Or.inr ⟨"GutterBoats", by decide +kernel⟩⟩
theorem fg_X5_226 : FG RX5 226 4 6 := ⟨RX4, TX4, 10, rfl, by decide, wsi_X4, Or.inr ⟨"GutterBoats", by decide +kernel⟩⟩
theorem fg_X0_14 : FG RX0 14 0 0 := ⟨RX0, TX0, 3, rfl, by decide, wsi_X0, Or.inl (wa_mem 146 (by decide +kernel) rfl)⟩
theorem fw_X0_14 : ∀ C T N, vwCl[0]? = some (C, T, N) → C = RX0 ∧ Cond.fieldLink RX0 14 (T 0).1 (T 0).2.1 (T 0).2.2.1 ∈ WA := fun C T N h => by
  have e : (RX0, TX0, 3) = (C, T, N) := Option.some.inj h
  cases e
  exact ⟨rfl, wa_mem 146 (by decide +kernel) rfl⟩
theorem fg_X0_20 : FG RX0 20 0 1 := ⟨RX0, TX0, 3, rfl, by decide, wsi_X0, Or.inl (wa_mem 147 (by decide +kernel) rfl)⟩
theorem fg_X0_28 : FG RX0 28 0 2 := ⟨RX0, TX0, 3, rfl, by decide, wsi_X0, Or.inl (wa_mem 148 (by decide +kernel) rfl)⟩
theorem fg_X1_15 : FG RX1 15 1 0 := ⟨RX1, TX1, 2, rfl, by decide, wsi_X1, Or.inl (wa_mem 138 (by decide +kernel) rfl)⟩
theorem fw_X1_15 : ∀ C T N, vwCl[1]? = some (C, T, N) → C = RX1 ∧ Cond.fieldLink RX1 15 (T 0).1 (T 0).2.1 (T 0).2.2.1 ∈ WA := fun C T N h => by
  have e : (RX1, TX1, 2) = (C, T, N) := Option.some.inj h
  cases e
  exact ⟨rfl, wa_mem 138 (by decide +kernel) rfl⟩
theorem fg_X1_21 : FG RX1 21 1 1 := ⟨RX1, TX1, 2, rfl, by decide, wsi_X1, Or.inl (wa_mem 139 (by decide +kernel) rfl)⟩
theorem fw_X1_21 : ∀ C T N, vwCl[1]? = some (C, T, N) → C = RX1 ∧ Cond.fieldLink RX1 21 (T 1).1 (T 1).2.1 (T 1).2.2.1 ∈ WA := fun C T N h => by
  have e : (RX1, TX1, 2) = (C, T, N) := Option.some.inj h
  cases e
  exact ⟨rfl, wa_mem 139 (by decide +kernel) rfl⟩
theorem fg_X2_15 : FG RX2 15 2 0 := ⟨RX2, TX2, 3, rfl, by decide, wsi_X2, Or.inl (wa_mem 62 (by decide +kernel) rfl)⟩
theorem fw_X2_15 : ∀ C T N, vwCl[2]? = some (C, T, N) → C = RX2 ∧ Cond.fieldLink RX2 15 (T 0).1 (T 0).2.1 (T 0).2.2.1 ∈ WA := fun C T N h => by
  have e : (RX2, TX2, 3) = (C, T, N) := Option.some.inj h
  cases e
  exact ⟨rfl, wa_mem 62 (by decide +kernel) rfl⟩
theorem fg_X2_21 : FG RX2 21 2 1 := ⟨RX2, TX2, 3, rfl, by decide, wsi_X2, Or.inl (wa_mem 63 (by decide +kernel) rfl)⟩
theorem fw_X2_21 : ∀ C T N, vwCl[2]? = some (C, T, N) → C = RX2 ∧ Cond.fieldLink RX2 21 (T 1).1 (T 1).2.1 (T 1).2.2.1 ∈ WA := fun C T N h => by
  have e : (RX2, TX2, 3) = (C, T, N) := Option.some.inj h
  cases e
  exact ⟨rfl, wa_mem 63 (by decide +kernel) rfl⟩
theorem fg_X2_25 : FG RX2 25 2 2 := ⟨RX2, TX2, 3, rfl, by decide, wsi_X2, Or.inl (wa_mem 64 (by decide +kernel) rfl)⟩
theorem fg_X3_9 : FG RX3 9 3 0 := ⟨RX3, TX3, 5, rfl, by decide, wsi_X3, Or.inl (wa_mem 30 (by decide +kernel) rfl)⟩
theorem fw_X3_9 : ∀ C T N, vwCl[3]? = some (C, T, N) → C = RX3 ∧ Cond.fieldLink RX3 9 (T 0).1 (T 0).2.1 (T 0).2.2.1 ∈ WA := fun C T N h => by
  have e : (RX3, TX3, 5) = (C, T, N) := Option.some.inj h
  cases e
  exact ⟨rfl, wa_mem 30 (by decide +kernel) rfl⟩
theorem fg_X3_15 : FG RX3 15 3 1 := ⟨RX3, TX3, 5, rfl, by decide, wsi_X3, Or.inl (wa_mem 31 (by decide +kernel) rfl)⟩
theorem fw_X3_15 : ∀ C T N, vwCl[3]? = some (C, T, N) → C = RX3 ∧ Cond.fieldLink RX3 15 (T 1).1 (T 1).2.1 (T 1).2.2.1 ∈ WA := fun C T N h => by
  have e : (RX3, TX3, 5) = (C, T, N) := Option.some.inj h
  cases e
  exact ⟨rfl, wa_mem 31 (by decide +kernel) rfl⟩
theorem fg_X3_18 : FG RX3 18 3 2 := ⟨RX3, TX3, 5, rfl, by decide, wsi_X3, Or.inl (wa_mem 32 (by decide +kernel) rfl)⟩
theorem fg_X3_22 : FG RX3 22 3 3 := ⟨RX3, TX3, 5, rfl, by decide, wsi_X3, Or.inl (wa_mem 33 (by decide +kernel) rfl)⟩
theorem fg_X3_33 : FG RX3 33 3 4 := ⟨RX3, TX3, 5, rfl, by decide, wsi_X3, Or.inl (wa_mem 34 (by decide +kernel) rfl)⟩
theorem fg_X4_14 : FG RX4 14 4 0 := ⟨RX4, TX4, 10, rfl, by decide, wsi_X4, Or.inl (wa_mem 86 (by decide +kernel) rfl)⟩
theorem fw_X4_14 : ∀ C T N, vwCl[4]? = some (C, T, N) → C = RX4 ∧ Cond.fieldLink RX4 14 (T 0).1 (T 0).2.1 (T 0).2.2.1 ∈ WA := fun C T N h => by
  have e : (RX4, TX4, 10) = (C, T, N) := Option.some.inj h
  cases e
  exact ⟨rfl, wa_mem 86 (by decide +kernel) rfl⟩
theorem fg_X4_20 : FG RX4 20 4 1 := ⟨RX4, TX4, 10, rfl, by decide, wsi_X4, Or.inl (wa_mem 87 (by decide +kernel) rfl)⟩
theorem fw_X4_20 : ∀ C T N, vwCl[4]? = some (C, T, N) → C = RX4 ∧ Cond.fieldLink RX4 20 (T 1).1 (T 1).2.1 (T 1).2.2.1 ∈ WA := fun C T N h => by
  have e : (RX4, TX4, 10) = (C, T, N) := Option.some.inj h
  cases e
  exact ⟨rfl, wa_mem 87 (by decide +kernel) rfl⟩
theorem fg_X4_23 : FG RX4 23 4 2 := ⟨RX4, TX4, 10, rfl, by decide, wsi_X4, Or.inl (wa_mem 89 (by decide +kernel) rfl)⟩
theorem fw_X4_23 : ∀ C T N, vwCl[4]? = some (C, T, N) → C = RX4 ∧ Cond.fieldLink RX4 23 (T 2).1 (T 2).2.1 (T 2).2.2.1 ∈ WA := fun C T N h => by
  have e : (RX4, TX4, 10) = (C, T, N) := Option.some.inj h
  cases e
  exact ⟨rfl, wa_mem 89 (by decide +kernel) rfl⟩
theorem fg_X4_29 : FG RX4 29 2 2 := ⟨RX2, TX2, 3, rfl, by decide, wsi_X2, Or.inr ⟨"GutterBoats", by decide +kernel⟩⟩
theorem fg_X4_41 : FG RX4 41 4 3 := ⟨RX4, TX4, 10, rfl, by decide, wsi_X4, Or.inl (wa_mem 91 (by decide +kernel) rfl)⟩
theorem fg_X4_44 : FG RX4 44 4 4 := ⟨RX4, TX4, 10, rfl, by decide, wsi_X4, Or.inl (wa_mem 92 (by decide +kernel) rfl)⟩
theorem fg_X4_47 : FG RX4 47 4 5 := ⟨RX4, TX4, 10, rfl, by decide, wsi_X4, Or.inl (wa_mem 93 (by decide +kernel) rfl)⟩
theorem fg_X4_50 : FG RX4 50 4 6 := ⟨RX4, TX4, 10, rfl, by decide, wsi_X4, Or.inl (wa_mem 94 (by decide +kernel) rfl)⟩
theorem fg_X4_53 : FG RX4 53 4 7 := ⟨RX4, TX4, 10, rfl, by decide, wsi_X4, Or.inl (wa_mem 96 (by decide +kernel) rfl)⟩
theorem fg_X4_56 : FG RX4 56 4 8 := ⟨RX4, TX4, 10, rfl, by decide, wsi_X4, Or.inl (wa_mem 98 (by decide +kernel) rfl)⟩
theorem fg_X4_60 : FG RX4 60 4 9 := ⟨RX4, TX4, 10, rfl, by decide, wsi_X4, Or.inl (wa_mem 99 (by decide +kernel) rfl)⟩
theorem fg_X6_7 : FG RX6 7 6 1 := ⟨RX6, TX6, 13, rfl, by decide, wsi_X6, Or.inl (wa_mem 796 (by decide +kernel) rfl)⟩
theorem fw_X6_7 : ∀ C T N, vwCl[6]? = some (C, T, N) → C = RX6 ∧ Cond.fieldLink RX6 7 (T 1).1 (T 1).2.1 (T 1).2.2.1 ∈ WA := fun C T N h => by
  have e : (RX6, TX6, 13) = (C, T, N) := Option.some.inj h
  cases e
  exact ⟨rfl, wa_mem 796 (by decide +kernel) rfl⟩
theorem fg_X6_13 : FG RX6 13 6 2 := ⟨RX6, TX6, 13, rfl, by decide, wsi_X6, Or.inl (wa_mem 797 (by decide +kernel) rfl)⟩
theorem fw_X6_13 : ∀ C T N, vwCl[6]? = some (C, T, N) → C = RX6 ∧ Cond.fieldLink RX6 13 (T 2).1 (T 2).2.1 (T 2).2.2.1 ∈ WA := fun C T N h => by
  have e : (RX6, TX6, 13) = (C, T, N) := Option.some.inj h
  cases e
  exact ⟨rfl, wa_mem 797 (by decide +kernel) rfl⟩
theorem fg_X6_16 : FG RX6 16 6 3 := ⟨RX6, TX6, 13, rfl, by decide, wsi_X6, Or.inl (wa_mem 798 (by decide +kernel) rfl)⟩
theorem fw_X6_16 : ∀ C T N, vwCl[6]? = some (C, T, N) → C = RX6 ∧ Cond.fieldLink RX6 16 (T 3).1 (T 3).2.1 (T 3).2.2.1 ∈ WA := fun C T N h => by
  have e : (RX6, TX6, 13) = (C, T, N) := Option.some.inj h
  cases e
  exact ⟨rfl, wa_mem 798 (by decide +kernel) rfl⟩
theorem fg_X6_19 : FG RX6 19 6 4 := ⟨RX6, TX6, 13, rfl, by decide, wsi_X6, Or.inl (wa_mem 799 (by decide +kernel) rfl)⟩
theorem fw_X6_19 : ∀ C T N, vwCl[6]? = some (C, T, N) → C = RX6 ∧ Cond.fieldLink RX6 19 (T 4).1 (T 4).2.1 (T 4).2.2.1 ∈ WA := fun C T N h => by
  have e : (RX6, TX6, 13) = (C, T, N) := Option.some.inj h
  cases e
  exact ⟨rfl, wa_mem 799 (by decide +kernel) rfl⟩
theorem fg_X6_22 : FG RX6 22 6 6 := ⟨RX6, TX6, 13, rfl, by decide, wsi_X6, Or.inl (wa_mem 801 (by decide +kernel) rfl)⟩
theorem fw_X6_22 : ∀ C T N, vwCl[6]? = some (C, T, N) → C = RX6 ∧ Cond.fieldLink RX6 22 (T 6).1 (T 6).2.1 (T 6).2.2.1 ∈ WA := fun C T N h => by
  have e : (RX6, TX6, 13) = (C, T, N) := Option.some.inj h
  cases e
  exact ⟨rfl, wa_mem 801 (by decide +kernel) rfl⟩
theorem fg_X6_25 : FG RX6 25 6 7 := ⟨RX6, TX6, 13, rfl, by decide, wsi_X6, Or.inl (wa_mem 802 (by decide +kernel) rfl)⟩
theorem fw_X6_25 : ∀ C T N, vwCl[6]? = some (C, T, N) → C = RX6 ∧ Cond.fieldLink RX6 25 (T 7).1 (T 7).2.1 (T 7).2.2.1 ∈ WA := fun C T N h => by
  have e : (RX6, TX6, 13) = (C, T, N) := Option.some.inj h
  cases e
  exact ⟨rfl, wa_mem 802 (by decide +kernel) rfl⟩
theorem fg_X6_29 : FG RX6 29 6 8 := ⟨RX6, TX6, 13, rfl, by decide, wsi_X6, Or.inl (wa_mem 803 (by decide +kernel) rfl)⟩
theorem fw_X6_29 : ∀ C T N, vwCl[6]? = some (C, T, N) → C = RX6 ∧ Cond.fieldLink RX6 29 (T 8).1 (T 8).2.1 (T 8).2.2.1 ∈ WA := fun C T N h => by
  have e : (RX6, TX6, 13) = (C, T, N) := Option.some.inj h
  cases e
  exact ⟨rfl, wa_mem 803 (by decide +kernel) rfl⟩
theorem fg_X6_36 : FG RX6 36 6 0 := ⟨RX6, TX6, 13, rfl, by decide, wsi_X6, Or.inl (wa_mem 795 (by decide +kernel) rfl)⟩
theorem fg_X6_114 : FG RX6 114 6 5 := ⟨RX6, TX6, 13, rfl, by decide, wsi_X6, Or.inl (wa_mem 800 (by decide +kernel) rfl)⟩
theorem fg_X6_119 : FG RX6 119 6 9 := ⟨RX6, TX6, 13, rfl, by decide, wsi_X6, Or.inl (wa_mem 804 (by decide +kernel) rfl)⟩
theorem fg_X6_126 : FG RX6 126 6 10 := ⟨RX6, TX6, 13, rfl, by decide, wsi_X6, Or.inl (wa_mem 805 (by decide +kernel) rfl)⟩
theorem fg_X6_129 : FG RX6 129 6 11 := ⟨RX6, TX6, 13, rfl, by decide, wsi_X6, Or.inl (wa_mem 806 (by decide +kernel) rfl)⟩
theorem fg_X6_145 : FG RX6 145 6 12 := ⟨RX6, TX6, 13, rfl, by decide, wsi_X6, Or.inl (wa_mem 807 (by decide +kernel) rfl)⟩
theorem so_X3_54 : Cond.fieldLink RX3 54 "GutterBoats" (soN 0) "[I" ∈ WA ∨ ∃ host, (RX3, 54, "GutterBoats", soN 0, "[I", host) ∈ nsts := Or.inr ⟨"GutterBoats", by decide +kernel⟩
theorem so_X3_57 : Cond.fieldLink RX3 57 "GutterBoats" (soN 1) "[I" ∈ WA ∨ ∃ host, (RX3, 57, "GutterBoats", soN 1, "[I", host) ∈ nsts := Or.inr ⟨"GutterBoats", by decide +kernel⟩
theorem so_X3_60 : Cond.fieldLink RX3 60 "GutterBoats" (soN 2) "[I" ∈ WA ∨ ∃ host, (RX3, 60, "GutterBoats", soN 2, "[I", host) ∈ nsts := Or.inr ⟨"GutterBoats", by decide +kernel⟩
theorem so_X3_63 : Cond.fieldLink RX3 63 "GutterBoats" (soN 3) "[I" ∈ WA ∨ ∃ host, (RX3, 63, "GutterBoats", soN 3, "[I", host) ∈ nsts := Or.inr ⟨"GutterBoats", by decide +kernel⟩
theorem so_X3_66 : Cond.fieldLink RX3 66 "GutterBoats" (soN 4) "[I" ∈ WA ∨ ∃ host, (RX3, 66, "GutterBoats", soN 4, "[I", host) ∈ nsts := Or.inr ⟨"GutterBoats", by decide +kernel⟩
theorem so_X3_69 : Cond.fieldLink RX3 69 "GutterBoats" (soN 5) "[I" ∈ WA ∨ ∃ host, (RX3, 69, "GutterBoats", soN 5, "[I", host) ∈ nsts := Or.inr ⟨"GutterBoats", by decide +kernel⟩
theorem so_X3_72 : Cond.fieldLink RX3 72 "GutterBoats" (soN 6) "[I" ∈ WA ∨ ∃ host, (RX3, 72, "GutterBoats", soN 6, "[I", host) ∈ nsts := Or.inr ⟨"GutterBoats", by decide +kernel⟩
theorem so_X3_75 : Cond.fieldLink RX3 75 "GutterBoats" (soN 7) "[I" ∈ WA ∨ ∃ host, (RX3, 75, "GutterBoats", soN 7, "[I", host) ∈ nsts := Or.inr ⟨"GutterBoats", by decide +kernel⟩
theorem ci_L_91 : CI RL 91 0 mX5_init := ⟨wa_mem 18 (by decide +kernel) rfl, wa_mem 19 (by decide +kernel) rfl, wa_mem 1 (by decide +kernel) rfl, wa_mem 20 (by decide +kernel) rfl, rfl, rfl, ⟨by decide +kernel, by decide +kernel, by decide +kernel⟩⟩
theorem ci_L_94 : CI RL 94 0 mX6_init := ⟨wa_mem 788 (by decide +kernel) rfl, wa_mem 789 (by decide +kernel) rfl, wa_mem 8 (by decide +kernel) rfl, wa_mem 790 (by decide +kernel) rfl, rfl, rfl, ⟨by decide +kernel, by decide +kernel, by decide +kernel⟩⟩
theorem cv_L_7 : CV RL 7 5 1 mX5_append := ⟨wa_mem 304 (by decide +kernel) rfl, wa_mem 305 (by decide +kernel) rfl, wa_mem 306 (by decide +kernel) rfl, wa_mem 1 (by decide +kernel) rfl, wa_mem 307 (by decide +kernel) rfl, ⟨TX5, 5, rfl⟩, ⟨by decide +kernel, by decide +kernel, by decide +kernel⟩⟩
theorem cv_L_17 : CV RL 17 5 0 mX5_load := ⟨wa_mem 422 (by decide +kernel) rfl, wa_mem 423 (by decide +kernel) rfl, wa_mem 424 (by decide +kernel) rfl, wa_mem 1 (by decide +kernel) rfl, wa_mem 425 (by decide +kernel) rfl, ⟨TX5, 5, rfl⟩, ⟨by decide +kernel, by decide +kernel, by decide +kernel⟩⟩
theorem cv_L_21 : CV RL 21 5 1 mX5_about := ⟨wa_mem 537 (by decide +kernel) rfl, wa_mem 538 (by decide +kernel) rfl, wa_mem 539 (by decide +kernel) rfl, wa_mem 1 (by decide +kernel) rfl, wa_mem 540 (by decide +kernel) rfl, ⟨TX5, 5, rfl⟩, ⟨by decide +kernel, by decide +kernel, by decide +kernel⟩⟩
theorem cv_L_24 : CV RL 24 5 2 mX5_gutterOf := ⟨wa_mem 553 (by decide +kernel) rfl, wa_mem 554 (by decide +kernel) rfl, wa_mem 555 (by decide +kernel) rfl, wa_mem 1 (by decide +kernel) rfl, wa_mem 556 (by decide +kernel) rfl, ⟨TX5, 5, rfl⟩, ⟨by decide +kernel, by decide +kernel, by decide +kernel⟩⟩
theorem cv_L_30 : CV RL 30 5 2 mX5_boatOf := ⟨wa_mem 573 (by decide +kernel) rfl, wa_mem 574 (by decide +kernel) rfl, wa_mem 575 (by decide +kernel) rfl, wa_mem 1 (by decide +kernel) rfl, wa_mem 576 (by decide +kernel) rfl, ⟨TX5, 5, rfl⟩, ⟨by decide +kernel, by decide +kernel, by decide +kernel⟩⟩
theorem cv_L_33 : CV RL 33 5 2 mX5_ownerOf := ⟨wa_mem 582 (by decide +kernel) rfl, wa_mem 583 (by decide +kernel) rfl, wa_mem 584 (by decide +kernel) rfl, wa_mem 1 (by decide +kernel) rfl, wa_mem 585 (by decide +kernel) rfl, ⟨TX5, 5, rfl⟩, ⟨by decide +kernel, by decide +kernel, by decide +kernel⟩⟩
theorem cv_L_36 : CV RL 36 5 3 mX5_way := ⟨wa_mem 598 (by decide +kernel) rfl, wa_mem 599 (by decide +kernel) rfl, wa_mem 600 (by decide +kernel) rfl, wa_mem 1 (by decide +kernel) rfl, wa_mem 601 (by decide +kernel) rfl, ⟨TX5, 5, rfl⟩, ⟨by decide +kernel, by decide +kernel, by decide +kernel⟩⟩
theorem cv_L_40 : CV RL 40 5 1 mX5_setting := ⟨wa_mem 611 (by decide +kernel) rfl, wa_mem 612 (by decide +kernel) rfl, wa_mem 613 (by decide +kernel) rfl, wa_mem 1 (by decide +kernel) rfl, wa_mem 614 (by decide +kernel) rfl, ⟨TX5, 5, rfl⟩, ⟨by decide +kernel, by decide +kernel, by decide +kernel⟩⟩
theorem cv_L_43 : CV RL 43 5 4 mX5_gutter := ⟨wa_mem 619 (by decide +kernel) rfl, wa_mem 620 (by decide +kernel) rfl, wa_mem 621 (by decide +kernel) rfl, wa_mem 1 (by decide +kernel) rfl, wa_mem 622 (by decide +kernel) rfl, ⟨TX5, 5, rfl⟩, ⟨by decide +kernel, by decide +kernel, by decide +kernel⟩⟩
theorem cv_L_47 : CV RL 47 5 3 mX5_boat := ⟨wa_mem 642 (by decide +kernel) rfl, wa_mem 643 (by decide +kernel) rfl, wa_mem 644 (by decide +kernel) rfl, wa_mem 1 (by decide +kernel) rfl, wa_mem 645 (by decide +kernel) rfl, ⟨TX5, 5, rfl⟩, ⟨by decide +kernel, by decide +kernel, by decide +kernel⟩⟩
theorem cv_L_50 : CV RL 50 5 2 mX5_launch := ⟨wa_mem 651 (by decide +kernel) rfl, wa_mem 652 (by decide +kernel) rfl, wa_mem 653 (by decide +kernel) rfl, wa_mem 1 (by decide +kernel) rfl, wa_mem 654 (by decide +kernel) rfl, ⟨TX5, 5, rfl⟩, ⟨by decide +kernel, by decide +kernel, by decide +kernel⟩⟩
theorem cv_L_53 : CV RL 53 5 3 mX5_hook := ⟨wa_mem 660 (by decide +kernel) rfl, wa_mem 661 (by decide +kernel) rfl, wa_mem 662 (by decide +kernel) rfl, wa_mem 1 (by decide +kernel) rfl, wa_mem 663 (by decide +kernel) rfl, ⟨TX5, 5, rfl⟩, ⟨by decide +kernel, by decide +kernel, by decide +kernel⟩⟩
theorem cv_L_56 : CV RL 56 5 2 mX5_claim := ⟨wa_mem 670 (by decide +kernel) rfl, wa_mem 671 (by decide +kernel) rfl, wa_mem 672 (by decide +kernel) rfl, wa_mem 1 (by decide +kernel) rfl, wa_mem 673 (by decide +kernel) rfl, ⟨TX5, 5, rfl⟩, ⟨by decide +kernel, by decide +kernel, by decide +kernel⟩⟩
theorem cv_L_59 : CV RL 59 5 1 mX5_minutes := ⟨wa_mem 680 (by decide +kernel) rfl, wa_mem 681 (by decide +kernel) rfl, wa_mem 682 (by decide +kernel) rfl, wa_mem 1 (by decide +kernel) rfl, wa_mem 683 (by decide +kernel) rfl, ⟨TX5, 5, rfl⟩, ⟨by decide +kernel, by decide +kernel, by decide +kernel⟩⟩
theorem cv_L_62 : CV RL 62 5 2 mX5_set := ⟨wa_mem 689 (by decide +kernel) rfl, wa_mem 690 (by decide +kernel) rfl, wa_mem 691 (by decide +kernel) rfl, wa_mem 1 (by decide +kernel) rfl, wa_mem 692 (by decide +kernel) rfl, ⟨TX5, 5, rfl⟩, ⟨by decide +kernel, by decide +kernel, by decide +kernel⟩⟩
theorem cv_L_65 : CV RL 65 5 0 mX5_undo := ⟨wa_mem 698 (by decide +kernel) rfl, wa_mem 699 (by decide +kernel) rfl, wa_mem 700 (by decide +kernel) rfl, wa_mem 1 (by decide +kernel) rfl, wa_mem 701 (by decide +kernel) rfl, ⟨TX5, 5, rfl⟩, ⟨by decide +kernel, by decide +kernel, by decide +kernel⟩⟩
theorem cv_L_68 : CV RL 68 5 2 mX5_why := ⟨wa_mem 713 (by decide +kernel) rfl, wa_mem 714 (by decide +kernel) rfl, wa_mem 715 (by decide +kernel) rfl, wa_mem 1 (by decide +kernel) rfl, wa_mem 716 (by decide +kernel) rfl, ⟨TX5, 5, rfl⟩, ⟨by decide +kernel, by decide +kernel, by decide +kernel⟩⟩
theorem cv_L_71 : CV RL 71 5 2 mX5_endsIn := ⟨wa_mem 720 (by decide +kernel) rfl, wa_mem 721 (by decide +kernel) rfl, wa_mem 722 (by decide +kernel) rfl, wa_mem 1 (by decide +kernel) rfl, wa_mem 723 (by decide +kernel) rfl, ⟨TX5, 5, rfl⟩, ⟨by decide +kernel, by decide +kernel, by decide +kernel⟩⟩
theorem cv_L_74 : CV RL 74 5 2 mX5_leastFolds := ⟨wa_mem 731 (by decide +kernel) rfl, wa_mem 732 (by decide +kernel) rfl, wa_mem 733 (by decide +kernel) rfl, wa_mem 1 (by decide +kernel) rfl, wa_mem 734 (by decide +kernel) rfl, ⟨TX5, 5, rfl⟩, ⟨by decide +kernel, by decide +kernel, by decide +kernel⟩⟩
theorem cv_L_77 : CV RL 77 5 2 mX5_runScript := ⟨wa_mem 738 (by decide +kernel) rfl, wa_mem 739 (by decide +kernel) rfl, wa_mem 740 (by decide +kernel) rfl, wa_mem 1 (by decide +kernel) rfl, wa_mem 741 (by decide +kernel) rfl, ⟨TX5, 5, rfl⟩, ⟨by decide +kernel, by decide +kernel, by decide +kernel⟩⟩
theorem cv_L_81 : CV RL 81 5 2 mX5_simulate := ⟨wa_mem 754 (by decide +kernel) rfl, wa_mem 755 (by decide +kernel) rfl, wa_mem 756 (by decide +kernel) rfl, wa_mem 1 (by decide +kernel) rfl, wa_mem 757 (by decide +kernel) rfl, ⟨TX5, 5, rfl⟩, ⟨by decide +kernel, by decide +kernel, by decide +kernel⟩⟩
theorem cv_L_85 : CV RL 85 5 1 mX5_save := ⟨wa_mem 769 (by decide +kernel) rfl, wa_mem 770 (by decide +kernel) rfl, wa_mem 771 (by decide +kernel) rfl, wa_mem 1 (by decide +kernel) rfl, wa_mem 772 (by decide +kernel) rfl, ⟨TX5, 5, rfl⟩, ⟨by decide +kernel, by decide +kernel, by decide +kernel⟩⟩
theorem cv_L_88 : CV RL 88 5 1 mX5_restore := ⟨wa_mem 777 (by decide +kernel) rfl, wa_mem 778 (by decide +kernel) rfl, wa_mem 779 (by decide +kernel) rfl, wa_mem 1 (by decide +kernel) rfl, wa_mem 780 (by decide +kernel) rfl, ⟨TX5, 5, rfl⟩, ⟨by decide +kernel, by decide +kernel, by decide +kernel⟩⟩
theorem cv_L_100 : CV RL 100 6 1 mX6_append := ⟨wa_mem 839 (by decide +kernel) rfl, wa_mem 840 (by decide +kernel) rfl, wa_mem 841 (by decide +kernel) rfl, wa_mem 8 (by decide +kernel) rfl, wa_mem 842 (by decide +kernel) rfl, ⟨TX6, 13, rfl⟩, ⟨by decide +kernel, by decide +kernel, by decide +kernel⟩⟩
theorem cv_L_101 : CV RL 101 6 0 mX6_thrown := ⟨wa_mem 835 (by decide +kernel) rfl, wa_mem 836 (by decide +kernel) rfl, wa_mem 837 (by decide +kernel) rfl, wa_mem 8 (by decide +kernel) rfl, wa_mem 838 (by decide +kernel) rfl, ⟨TX6, 13, rfl⟩, ⟨by decide +kernel, by decide +kernel, by decide +kernel⟩⟩
theorem cv_L_104 : CV RL 104 5 0 mX5_clearText := ⟨wa_mem 175 (by decide +kernel) rfl, wa_mem 176 (by decide +kernel) rfl, wa_mem 177 (by decide +kernel) rfl, wa_mem 1 (by decide +kernel) rfl, wa_mem 178 (by decide +kernel) rfl, ⟨TX5, 5, rfl⟩, ⟨by decide +kernel, by decide +kernel, by decide +kernel⟩⟩
theorem cv_L_107 : CV RL 107 6 0 mX6_clearText := ⟨wa_mem 851 (by decide +kernel) rfl, wa_mem 852 (by decide +kernel) rfl, wa_mem 853 (by decide +kernel) rfl, wa_mem 8 (by decide +kernel) rfl, wa_mem 854 (by decide +kernel) rfl, ⟨TX6, 13, rfl⟩, ⟨by decide +kernel, by decide +kernel, by decide +kernel⟩⟩
theorem cv_L_108 : CV RL 108 5 0 mX5_errorPosition := ⟨wa_mem 183 (by decide +kernel) rfl, wa_mem 184 (by decide +kernel) rfl, wa_mem 185 (by decide +kernel) rfl, wa_mem 1 (by decide +kernel) rfl, wa_mem 186 (by decide +kernel) rfl, ⟨TX5, 5, rfl⟩, ⟨by decide +kernel, by decide +kernel, by decide +kernel⟩⟩
theorem cv_L_111 : CV RL 111 6 0 mX6_errorPosition := ⟨wa_mem 855 (by decide +kernel) rfl, wa_mem 856 (by decide +kernel) rfl, wa_mem 857 (by decide +kernel) rfl, wa_mem 8 (by decide +kernel) rfl, wa_mem 858 (by decide +kernel) rfl, ⟨TX6, 13, rfl⟩, ⟨by decide +kernel, by decide +kernel, by decide +kernel⟩⟩
theorem cv_L_115 : CV RL 115 6 0 mX6_load := ⟨wa_mem 994 (by decide +kernel) rfl, wa_mem 995 (by decide +kernel) rfl, wa_mem 996 (by decide +kernel) rfl, wa_mem 8 (by decide +kernel) rfl, wa_mem 997 (by decide +kernel) rfl, ⟨TX6, 13, rfl⟩, ⟨by decide +kernel, by decide +kernel, by decide +kernel⟩⟩
theorem cv_L_118 : CV RL 118 6 1 mX6_about := ⟨wa_mem 1001 (by decide +kernel) rfl, wa_mem 1002 (by decide +kernel) rfl, wa_mem 1003 (by decide +kernel) rfl, wa_mem 8 (by decide +kernel) rfl, wa_mem 1004 (by decide +kernel) rfl, ⟨TX6, 13, rfl⟩, ⟨by decide +kernel, by decide +kernel, by decide +kernel⟩⟩
theorem cv_L_122 : CV RL 122 6 2 mX6_gutterOf := ⟨wa_mem 1014 (by decide +kernel) rfl, wa_mem 1015 (by decide +kernel) rfl, wa_mem 1016 (by decide +kernel) rfl, wa_mem 8 (by decide +kernel) rfl, wa_mem 1017 (by decide +kernel) rfl, ⟨TX6, 13, rfl⟩, ⟨by decide +kernel, by decide +kernel, by decide +kernel⟩⟩
theorem cv_L_125 : CV RL 125 6 2 mX6_boatOf := ⟨wa_mem 1027 (by decide +kernel) rfl, wa_mem 1028 (by decide +kernel) rfl, wa_mem 1029 (by decide +kernel) rfl, wa_mem 8 (by decide +kernel) rfl, wa_mem 1030 (by decide +kernel) rfl, ⟨TX6, 13, rfl⟩, ⟨by decide +kernel, by decide +kernel, by decide +kernel⟩⟩
theorem cv_L_128 : CV RL 128 6 2 mX6_ownerOf := ⟨wa_mem 1032 (by decide +kernel) rfl, wa_mem 1033 (by decide +kernel) rfl, wa_mem 1034 (by decide +kernel) rfl, wa_mem 8 (by decide +kernel) rfl, wa_mem 1035 (by decide +kernel) rfl, ⟨TX6, 13, rfl⟩, ⟨by decide +kernel, by decide +kernel, by decide +kernel⟩⟩
theorem cv_L_132 : CV RL 132 6 3 mX6_way := ⟨wa_mem 1044 (by decide +kernel) rfl, wa_mem 1045 (by decide +kernel) rfl, wa_mem 1046 (by decide +kernel) rfl, wa_mem 8 (by decide +kernel) rfl, wa_mem 1047 (by decide +kernel) rfl, ⟨TX6, 13, rfl⟩, ⟨by decide +kernel, by decide +kernel, by decide +kernel⟩⟩
theorem cv_L_135 : CV RL 135 6 1 mX6_setting := ⟨wa_mem 1048 (by decide +kernel) rfl, wa_mem 1049 (by decide +kernel) rfl, wa_mem 1050 (by decide +kernel) rfl, wa_mem 8 (by decide +kernel) rfl, wa_mem 1051 (by decide +kernel) rfl, ⟨TX6, 13, rfl⟩, ⟨by decide +kernel, by decide +kernel, by decide +kernel⟩⟩
theorem cv_L_139 : CV RL 139 6 4 mX6_gutter := ⟨wa_mem 1053 (by decide +kernel) rfl, wa_mem 1054 (by decide +kernel) rfl, wa_mem 1055 (by decide +kernel) rfl, wa_mem 8 (by decide +kernel) rfl, wa_mem 1056 (by decide +kernel) rfl, ⟨TX6, 13, rfl⟩, ⟨by decide +kernel, by decide +kernel, by decide +kernel⟩⟩
theorem cv_L_142 : CV RL 142 6 3 mX6_boat := ⟨wa_mem 1066 (by decide +kernel) rfl, wa_mem 1067 (by decide +kernel) rfl, wa_mem 1068 (by decide +kernel) rfl, wa_mem 8 (by decide +kernel) rfl, wa_mem 1069 (by decide +kernel) rfl, ⟨TX6, 13, rfl⟩, ⟨by decide +kernel, by decide +kernel, by decide +kernel⟩⟩
theorem cv_L_145 : CV RL 145 6 2 mX6_launch := ⟨wa_mem 1073 (by decide +kernel) rfl, wa_mem 1074 (by decide +kernel) rfl, wa_mem 1075 (by decide +kernel) rfl, wa_mem 8 (by decide +kernel) rfl, wa_mem 1076 (by decide +kernel) rfl, ⟨TX6, 13, rfl⟩, ⟨by decide +kernel, by decide +kernel, by decide +kernel⟩⟩
theorem cv_L_148 : CV RL 148 6 3 mX6_hook := ⟨wa_mem 1077 (by decide +kernel) rfl, wa_mem 1078 (by decide +kernel) rfl, wa_mem 1079 (by decide +kernel) rfl, wa_mem 8 (by decide +kernel) rfl, wa_mem 1080 (by decide +kernel) rfl, ⟨TX6, 13, rfl⟩, ⟨by decide +kernel, by decide +kernel, by decide +kernel⟩⟩
theorem cv_L_151 : CV RL 151 6 2 mX6_claim := ⟨wa_mem 1081 (by decide +kernel) rfl, wa_mem 1082 (by decide +kernel) rfl, wa_mem 1083 (by decide +kernel) rfl, wa_mem 8 (by decide +kernel) rfl, wa_mem 1084 (by decide +kernel) rfl, ⟨TX6, 13, rfl⟩, ⟨by decide +kernel, by decide +kernel, by decide +kernel⟩⟩
theorem cv_L_154 : CV RL 154 6 1 mX6_minutes := ⟨wa_mem 1085 (by decide +kernel) rfl, wa_mem 1086 (by decide +kernel) rfl, wa_mem 1087 (by decide +kernel) rfl, wa_mem 8 (by decide +kernel) rfl, wa_mem 1088 (by decide +kernel) rfl, ⟨TX6, 13, rfl⟩, ⟨by decide +kernel, by decide +kernel, by decide +kernel⟩⟩
theorem cv_L_157 : CV RL 157 6 2 mX6_set := ⟨wa_mem 1090 (by decide +kernel) rfl, wa_mem 1091 (by decide +kernel) rfl, wa_mem 1092 (by decide +kernel) rfl, wa_mem 8 (by decide +kernel) rfl, wa_mem 1093 (by decide +kernel) rfl, ⟨TX6, 13, rfl⟩, ⟨by decide +kernel, by decide +kernel, by decide +kernel⟩⟩
theorem cv_L_160 : CV RL 160 6 0 mX6_undo := ⟨wa_mem 1094 (by decide +kernel) rfl, wa_mem 1095 (by decide +kernel) rfl, wa_mem 1096 (by decide +kernel) rfl, wa_mem 8 (by decide +kernel) rfl, wa_mem 1097 (by decide +kernel) rfl, ⟨TX6, 13, rfl⟩, ⟨by decide +kernel, by decide +kernel, by decide +kernel⟩⟩
theorem cv_L_163 : CV RL 163 6 2 mX6_why := ⟨wa_mem 1098 (by decide +kernel) rfl, wa_mem 1099 (by decide +kernel) rfl, wa_mem 1100 (by decide +kernel) rfl, wa_mem 8 (by decide +kernel) rfl, wa_mem 1101 (by decide +kernel) rfl, ⟨TX6, 13, rfl⟩, ⟨by decide +kernel, by decide +kernel, by decide +kernel⟩⟩
theorem cv_L_166 : CV RL 166 6 2 mX6_endsIn := ⟨wa_mem 1102 (by decide +kernel) rfl, wa_mem 1103 (by decide +kernel) rfl, wa_mem 1104 (by decide +kernel) rfl, wa_mem 8 (by decide +kernel) rfl, wa_mem 1105 (by decide +kernel) rfl, ⟨TX6, 13, rfl⟩, ⟨by decide +kernel, by decide +kernel, by decide +kernel⟩⟩
theorem cv_L_167 : CV RL 167 5 0 mX5_winner := ⟨wa_mem 222 (by decide +kernel) rfl, wa_mem 223 (by decide +kernel) rfl, wa_mem 224 (by decide +kernel) rfl, wa_mem 1 (by decide +kernel) rfl, wa_mem 225 (by decide +kernel) rfl, ⟨TX5, 5, rfl⟩, ⟨by decide +kernel, by decide +kernel, by decide +kernel⟩⟩
theorem cv_L_170 : CV RL 170 6 0 mX6_winner := ⟨wa_mem 1110 (by decide +kernel) rfl, wa_mem 1111 (by decide +kernel) rfl, wa_mem 1112 (by decide +kernel) rfl, wa_mem 8 (by decide +kernel) rfl, wa_mem 1113 (by decide +kernel) rfl, ⟨TX6, 13, rfl⟩, ⟨by decide +kernel, by decide +kernel, by decide +kernel⟩⟩
theorem cv_L_173 : CV RL 173 6 2 mX6_leastFolds := ⟨wa_mem 1114 (by decide +kernel) rfl, wa_mem 1115 (by decide +kernel) rfl, wa_mem 1116 (by decide +kernel) rfl, wa_mem 8 (by decide +kernel) rfl, wa_mem 1117 (by decide +kernel) rfl, ⟨TX6, 13, rfl⟩, ⟨by decide +kernel, by decide +kernel, by decide +kernel⟩⟩
theorem cv_L_179 : CV RL 179 6 2 mX6_runScript := ⟨wa_mem 1118 (by decide +kernel) rfl, wa_mem 1119 (by decide +kernel) rfl, wa_mem 1120 (by decide +kernel) rfl, wa_mem 8 (by decide +kernel) rfl, wa_mem 1121 (by decide +kernel) rfl, ⟨TX6, 13, rfl⟩, ⟨by decide +kernel, by decide +kernel, by decide +kernel⟩⟩
theorem cv_L_183 : CV RL 183 6 2 mX6_simulate := ⟨wa_mem 1154 (by decide +kernel) rfl, wa_mem 1155 (by decide +kernel) rfl, wa_mem 1156 (by decide +kernel) rfl, wa_mem 8 (by decide +kernel) rfl, wa_mem 1157 (by decide +kernel) rfl, ⟨TX6, 13, rfl⟩, ⟨by decide +kernel, by decide +kernel, by decide +kernel⟩⟩
theorem cv_L_186 : CV RL 186 6 1 mX6_save := ⟨wa_mem 1168 (by decide +kernel) rfl, wa_mem 1169 (by decide +kernel) rfl, wa_mem 1170 (by decide +kernel) rfl, wa_mem 8 (by decide +kernel) rfl, wa_mem 1171 (by decide +kernel) rfl, ⟨TX6, 13, rfl⟩, ⟨by decide +kernel, by decide +kernel, by decide +kernel⟩⟩
theorem cv_L_189 : CV RL 189 6 1 mX6_restore := ⟨wa_mem 1172 (by decide +kernel) rfl, wa_mem 1173 (by decide +kernel) rfl, wa_mem 1174 (by decide +kernel) rfl, wa_mem 8 (by decide +kernel) rfl, wa_mem 1175 (by decide +kernel) rfl, ⟨TX6, 13, rfl⟩, ⟨by decide +kernel, by decide +kernel, by decide +kernel⟩⟩
theorem ci_X0_11 : CI RX0 11 1 mX1_init := ⟨wa_mem 130 (by decide +kernel) rfl, wa_mem 131 (by decide +kernel) rfl, wa_mem 7 (by decide +kernel) rfl, wa_mem 132 (by decide +kernel) rfl, rfl, rfl, ⟨by decide +kernel, by decide +kernel, by decide +kernel⟩⟩
theorem cv_X0_24 : CV RX0 24 1 2 mX1_put := ⟨wa_mem 628 (by decide +kernel) rfl, wa_mem 629 (by decide +kernel) rfl, wa_mem 630 (by decide +kernel) rfl, wa_mem 7 (by decide +kernel) rfl, wa_mem 631 (by decide +kernel) rfl, ⟨TX1, 2, rfl⟩, ⟨by decide +kernel, by decide +kernel, by decide +kernel⟩⟩
theorem cv_X0_37 : CV RX0 37 1 2 mX1_copyTo := ⟨wa_mem 706 (by decide +kernel) rfl, wa_mem 707 (by decide +kernel) rfl, wa_mem 708 (by decide +kernel) rfl, wa_mem 7 (by decide +kernel) rfl, wa_mem 709 (by decide +kernel) rfl, ⟨TX1, 2, rfl⟩, ⟨by decide +kernel, by decide +kernel, by decide +kernel⟩⟩
theorem ci_X1_25 : CI RX1 25 0 mX4_init := ⟨wa_mem 137 (by decide +kernel) rfl, wa_mem 50 (by decide +kernel) rfl, wa_mem 3 (by decide +kernel) rfl, wa_mem 51 (by decide +kernel) rfl, rfl, rfl, ⟨by decide +kernel, by decide +kernel, by decide +kernel⟩⟩
theorem cv_X1_26 : CV RX1 26 1 1 mX1_keptAt := ⟨wa_mem 632 (by decide +kernel) rfl, wa_mem 634 (by decide +kernel) rfl, wa_sel (by decide +kernel) rfl, wa_mem 7 (by decide +kernel) rfl, wa_mem 635 (by decide +kernel) rfl, ⟨TX1, 2, rfl⟩, ⟨by decide +kernel, by decide +kernel, by decide +kernel⟩⟩
theorem cv_X1_30 : CV RX1 30 4 1 mX4_copyFrom := ⟨wa_mem 636 (by decide +kernel) rfl, wa_mem 227 (by decide +kernel) rfl, wa_mem 228 (by decide +kernel) rfl, wa_mem 3 (by decide +kernel) rfl, wa_mem 229 (by decide +kernel) rfl, ⟨TX4, 10, rfl⟩, ⟨by decide +kernel, by decide +kernel, by decide +kernel⟩⟩
theorem cv_X2_28 : CV RX2 28 2 2 mX2_at := ⟨wa_mem 272 (by decide +kernel) rfl, wa_mem 249 (by decide +kernel) rfl, wa_mem 250 (by decide +kernel) rfl, wa_mem 4 (by decide +kernel) rfl, wa_mem 251 (by decide +kernel) rfl, ⟨TX2, 3, rfl⟩, ⟨by decide +kernel, by decide +kernel, by decide +kernel⟩⟩
theorem cv_X2_31 : CV RX2 31 2 3 mX2_put := ⟨wa_mem 273 (by decide +kernel) rfl, wa_mem 83 (by decide +kernel) rfl, wa_mem 84 (by decide +kernel) rfl, wa_mem 4 (by decide +kernel) rfl, wa_mem 85 (by decide +kernel) rfl, ⟨TX2, 3, rfl⟩, ⟨by decide +kernel, by decide +kernel, by decide +kernel⟩⟩
theorem cs_X3_46 : CS RX3 46 1 mX3_numbersBehind := ⟨wa_mem 199 (by decide +kernel) rfl, wa_mem 200 (by decide +kernel) rfl, wa_mem 2 (by decide +kernel) rfl, wa_mem 201 (by decide +kernel) rfl, ⟨by decide +kernel, by decide +kernel, by decide +kernel⟩⟩
theorem cv_X3_25 : CV RX3 25 3 0 mX3_atHand := ⟨wa_mem 191 (by decide +kernel) rfl, wa_mem 193 (by decide +kernel) rfl, wa_sel (by decide +kernel) rfl, wa_mem 2 (by decide +kernel) rfl, wa_mem 194 (by decide +kernel) rfl, ⟨TX3, 5, rfl⟩, ⟨by decide +kernel, by decide +kernel, by decide +kernel⟩⟩
theorem cv_X3_29 : CV RX3 29 3 0 mX3_readCommand := ⟨wa_mem 195 (by decide +kernel) rfl, wa_mem 197 (by decide +kernel) rfl, wa_sel (by decide +kernel) rfl, wa_mem 2 (by decide +kernel) rfl, wa_mem 198 (by decide +kernel) rfl, ⟨TX3, 5, rfl⟩, ⟨by decide +kernel, by decide +kernel, by decide +kernel⟩⟩
theorem cv_X3_36 : CV RX3 36 3 1 mX3_numberAt := ⟨wa_mem 439 (by decide +kernel) rfl, wa_mem 441 (by decide +kernel) rfl, wa_sel (by decide +kernel) rfl, wa_mem 2 (by decide +kernel) rfl, wa_mem 442 (by decide +kernel) rfl, ⟨TX3, 5, rfl⟩, ⟨by decide +kernel, by decide +kernel, by decide +kernel⟩⟩
theorem cv_X3_40 : CV RX3 40 4 5 mX4_perform := ⟨wa_mem 443 (by decide +kernel) rfl, wa_mem 444 (by decide +kernel) rfl, wa_mem 445 (by decide +kernel) rfl, wa_mem 3 (by decide +kernel) rfl, wa_mem 446 (by decide +kernel) rfl, ⟨TX4, 10, rfl⟩, ⟨by decide +kernel, by decide +kernel, by decide +kernel⟩⟩
theorem cv_X3_50 : CV RX3 50 3 3 mX3_readNumber := ⟨wa_mem 218 (by decide +kernel) rfl, wa_mem 220 (by decide +kernel) rfl, wa_sel (by decide +kernel) rfl, wa_mem 2 (by decide +kernel) rfl, wa_mem 221 (by decide +kernel) rfl, ⟨TX3, 5, rfl⟩, ⟨by decide +kernel, by decide +kernel, by decide +kernel⟩⟩
theorem ci_X4_11 : CI RX4 11 2 mX2_init := ⟨wa_mem 55 (by decide +kernel) rfl, wa_mem 56 (by decide +kernel) rfl, wa_mem 4 (by decide +kernel) rfl, wa_mem 57 (by decide +kernel) rfl, rfl, rfl, ⟨by decide +kernel, by decide +kernel, by decide +kernel⟩⟩
theorem cv_X4_26 : CV RX4 26 4 0 mX4_makeNew := ⟨wa_mem 74 (by decide +kernel) rfl, wa_mem 75 (by decide +kernel) rfl, wa_mem 76 (by decide +kernel) rfl, wa_mem 3 (by decide +kernel) rfl, wa_mem 77 (by decide +kernel) rfl, ⟨TX4, 10, rfl⟩, ⟨by decide +kernel, by decide +kernel, by decide +kernel⟩⟩
theorem cv_X4_33 : CV RX4 33 2 0 mX2_addRow := ⟨wa_mem 78 (by decide +kernel) rfl, wa_mem 79 (by decide +kernel) rfl, wa_mem 80 (by decide +kernel) rfl, wa_mem 4 (by decide +kernel) rfl, wa_mem 81 (by decide +kernel) rfl, ⟨TX2, 3, rfl⟩, ⟨by decide +kernel, by decide +kernel, by decide +kernel⟩⟩
theorem cv_X4_37 : CV RX4 37 2 3 mX2_put := ⟨wa_mem 82 (by decide +kernel) rfl, wa_mem 83 (by decide +kernel) rfl, wa_mem 84 (by decide +kernel) rfl, wa_mem 4 (by decide +kernel) rfl, wa_mem 85 (by decide +kernel) rfl, ⟨TX2, 3, rfl⟩, ⟨by decide +kernel, by decide +kernel, by decide +kernel⟩⟩
theorem cv_X4_63 : CV RX4 63 2 1 mX2_copyFrom := ⟨wa_mem 230 (by decide +kernel) rfl, wa_mem 231 (by decide +kernel) rfl, wa_mem 232 (by decide +kernel) rfl, wa_mem 4 (by decide +kernel) rfl, wa_mem 233 (by decide +kernel) rfl, ⟨TX2, 3, rfl⟩, ⟨by decide +kernel, by decide +kernel, by decide +kernel⟩⟩
theorem cv_X4_67 : CV RX4 67 4 1 mX4_hasGutter := ⟨wa_mem 455 (by decide +kernel) rfl, wa_mem 456 (by decide +kernel) rfl, wa_mem 457 (by decide +kernel) rfl, wa_mem 3 (by decide +kernel) rfl, wa_mem 458 (by decide +kernel) rfl, ⟨TX4, 10, rfl⟩, ⟨by decide +kernel, by decide +kernel, by decide +kernel⟩⟩
theorem cv_X4_71 : CV RX4 71 2 2 mX2_at := ⟨wa_mem 248 (by decide +kernel) rfl, wa_mem 249 (by decide +kernel) rfl, wa_mem 250 (by decide +kernel) rfl, wa_mem 4 (by decide +kernel) rfl, wa_mem 251 (by decide +kernel) rfl, ⟨TX2, 3, rfl⟩, ⟨by decide +kernel, by decide +kernel, by decide +kernel⟩⟩
theorem cv_X4_75 : CV RX4 75 4 2 mX4_hasCell := ⟨wa_mem 451 (by decide +kernel) rfl, wa_mem 452 (by decide +kernel) rfl, wa_mem 453 (by decide +kernel) rfl, wa_mem 3 (by decide +kernel) rfl, wa_mem 454 (by decide +kernel) rfl, ⟨TX4, 10, rfl⟩, ⟨by decide +kernel, by decide +kernel, by decide +kernel⟩⟩
theorem cv_X4_79 : CV RX4 79 4 1 mX4_hasOwner := ⟨wa_mem 467 (by decide +kernel) rfl, wa_mem 468 (by decide +kernel) rfl, wa_mem 469 (by decide +kernel) rfl, wa_mem 3 (by decide +kernel) rfl, wa_mem 470 (by decide +kernel) rfl, ⟨TX4, 10, rfl⟩, ⟨by decide +kernel, by decide +kernel, by decide +kernel⟩⟩
theorem cv_X4_82 : CV RX4 82 4 1 mX4_hasBoat := ⟨wa_mem 479 (by decide +kernel) rfl, wa_mem 480 (by decide +kernel) rfl, wa_mem 481 (by decide +kernel) rfl, wa_mem 3 (by decide +kernel) rfl, wa_mem 482 (by decide +kernel) rfl, ⟨TX4, 10, rfl⟩, ⟨by decide +kernel, by decide +kernel, by decide +kernel⟩⟩
theorem cv_X4_85 : CV RX4 85 4 4 mX4_gutterFault := ⟨wa_mem 447 (by decide +kernel) rfl, wa_mem 448 (by decide +kernel) rfl, wa_mem 449 (by decide +kernel) rfl, wa_mem 3 (by decide +kernel) rfl, wa_mem 450 (by decide +kernel) rfl, ⟨TX4, 10, rfl⟩, ⟨by decide +kernel, by decide +kernel, by decide +kernel⟩⟩
theorem cv_X4_89 : CV RX4 89 4 4 mX4_addGutter := ⟨wa_mem 459 (by decide +kernel) rfl, wa_mem 460 (by decide +kernel) rfl, wa_mem 461 (by decide +kernel) rfl, wa_mem 3 (by decide +kernel) rfl, wa_mem 462 (by decide +kernel) rfl, ⟨TX4, 10, rfl⟩, ⟨by decide +kernel, by decide +kernel, by decide +kernel⟩⟩
theorem cv_X4_92 : CV RX4 92 4 3 mX4_boatFault := ⟨wa_mem 463 (by decide +kernel) rfl, wa_mem 464 (by decide +kernel) rfl, wa_mem 465 (by decide +kernel) rfl, wa_mem 3 (by decide +kernel) rfl, wa_mem 466 (by decide +kernel) rfl, ⟨TX4, 10, rfl⟩, ⟨by decide +kernel, by decide +kernel, by decide +kernel⟩⟩
theorem cv_X4_96 : CV RX4 96 4 3 mX4_addBoat := ⟨wa_mem 471 (by decide +kernel) rfl, wa_mem 472 (by decide +kernel) rfl, wa_mem 473 (by decide +kernel) rfl, wa_mem 3 (by decide +kernel) rfl, wa_mem 474 (by decide +kernel) rfl, ⟨TX4, 10, rfl⟩, ⟨by decide +kernel, by decide +kernel, by decide +kernel⟩⟩
theorem cv_X4_99 : CV RX4 99 4 2 mX4_launchFault := ⟨wa_mem 475 (by decide +kernel) rfl, wa_mem 476 (by decide +kernel) rfl, wa_mem 477 (by decide +kernel) rfl, wa_mem 3 (by decide +kernel) rfl, wa_mem 478 (by decide +kernel) rfl, ⟨TX4, 10, rfl⟩, ⟨by decide +kernel, by decide +kernel, by decide +kernel⟩⟩
theorem cv_X4_102 : CV RX4 102 4 2 mX4_launchBoat := ⟨wa_mem 483 (by decide +kernel) rfl, wa_mem 484 (by decide +kernel) rfl, wa_mem 485 (by decide +kernel) rfl, wa_mem 3 (by decide +kernel) rfl, wa_mem 486 (by decide +kernel) rfl, ⟨TX4, 10, rfl⟩, ⟨by decide +kernel, by decide +kernel, by decide +kernel⟩⟩
theorem cv_X4_105 : CV RX4 105 4 1 mX4_minutesFault := ⟨wa_mem 491 (by decide +kernel) rfl, wa_mem 492 (by decide +kernel) rfl, wa_mem 493 (by decide +kernel) rfl, wa_mem 3 (by decide +kernel) rfl, wa_mem 494 (by decide +kernel) rfl, ⟨TX4, 10, rfl⟩, ⟨by decide +kernel, by decide +kernel, by decide +kernel⟩⟩
theorem cv_X4_109 : CV RX4 109 4 1 mX4_passMinutes := ⟨wa_mem 244 (by decide +kernel) rfl, wa_mem 245 (by decide +kernel) rfl, wa_mem 246 (by decide +kernel) rfl, wa_mem 3 (by decide +kernel) rfl, wa_mem 247 (by decide +kernel) rfl, ⟨TX4, 10, rfl⟩, ⟨by decide +kernel, by decide +kernel, by decide +kernel⟩⟩
theorem cv_X4_112 : CV RX4 112 4 3 mX4_hookFault := ⟨wa_mem 495 (by decide +kernel) rfl, wa_mem 496 (by decide +kernel) rfl, wa_mem 497 (by decide +kernel) rfl, wa_mem 3 (by decide +kernel) rfl, wa_mem 498 (by decide +kernel) rfl, ⟨TX4, 10, rfl⟩, ⟨by decide +kernel, by decide +kernel, by decide +kernel⟩⟩
theorem cv_X4_115 : CV RX4 115 4 3 mX4_putHook := ⟨wa_mem 499 (by decide +kernel) rfl, wa_mem 500 (by decide +kernel) rfl, wa_mem 501 (by decide +kernel) rfl, wa_mem 3 (by decide +kernel) rfl, wa_mem 502 (by decide +kernel) rfl, ⟨TX4, 10, rfl⟩, ⟨by decide +kernel, by decide +kernel, by decide +kernel⟩⟩
theorem cv_X4_118 : CV RX4 118 4 2 mX4_claimFault := ⟨wa_mem 503 (by decide +kernel) rfl, wa_mem 504 (by decide +kernel) rfl, wa_mem 505 (by decide +kernel) rfl, wa_mem 3 (by decide +kernel) rfl, wa_mem 506 (by decide +kernel) rfl, ⟨TX4, 10, rfl⟩, ⟨by decide +kernel, by decide +kernel, by decide +kernel⟩⟩
theorem cv_X4_121 : CV RX4 121 4 2 mX4_reasonAgainst := ⟨wa_mem 507 (by decide +kernel) rfl, wa_mem 508 (by decide +kernel) rfl, wa_mem 509 (by decide +kernel) rfl, wa_mem 3 (by decide +kernel) rfl, wa_mem 510 (by decide +kernel) rfl, ⟨TX4, 10, rfl⟩, ⟨by decide +kernel, by decide +kernel, by decide +kernel⟩⟩
theorem cv_X4_124 : CV RX4 124 4 2 mX4_takeWreck := ⟨wa_mem 518 (by decide +kernel) rfl, wa_mem 519 (by decide +kernel) rfl, wa_mem 520 (by decide +kernel) rfl, wa_mem 3 (by decide +kernel) rfl, wa_mem 521 (by decide +kernel) rfl, ⟨TX4, 10, rfl⟩, ⟨by decide +kernel, by decide +kernel, by decide +kernel⟩⟩
theorem cv_X4_127 : CV RX4 127 4 2 mX4_settingFault := ⟨wa_mem 522 (by decide +kernel) rfl, wa_mem 523 (by decide +kernel) rfl, wa_mem 524 (by decide +kernel) rfl, wa_mem 3 (by decide +kernel) rfl, wa_mem 525 (by decide +kernel) rfl, ⟨TX4, 10, rfl⟩, ⟨by decide +kernel, by decide +kernel, by decide +kernel⟩⟩
theorem cv_X4_130 : CV RX4 130 4 2 mX4_changeSetting := ⟨wa_mem 526 (by decide +kernel) rfl, wa_mem 527 (by decide +kernel) rfl, wa_mem 528 (by decide +kernel) rfl, wa_mem 3 (by decide +kernel) rfl, wa_mem 529 (by decide +kernel) rfl, ⟨TX4, 10, rfl⟩, ⟨by decide +kernel, by decide +kernel, by decide +kernel⟩⟩
theorem cv_X4_133 : CV RX4 133 4 2 mX4_takeOut := ⟨wa_mem 282 (by decide +kernel) rfl, wa_mem 284 (by decide +kernel) rfl, wa_sel (by decide +kernel) rfl, wa_mem 3 (by decide +kernel) rfl, wa_mem 285 (by decide +kernel) rfl, ⟨TX4, 10, rfl⟩, ⟨by decide +kernel, by decide +kernel, by decide +kernel⟩⟩
theorem cv_X4_136 : CV RX4 136 2 2 mX2_count := ⟨wa_mem 278 (by decide +kernel) rfl, wa_mem 279 (by decide +kernel) rfl, wa_mem 280 (by decide +kernel) rfl, wa_mem 4 (by decide +kernel) rfl, wa_mem 281 (by decide +kernel) rfl, ⟨TX2, 3, rfl⟩, ⟨by decide +kernel, by decide +kernel, by decide +kernel⟩⟩
theorem cv_X4_139 : CV RX4 139 4 2 mX4_wayByGutters := ⟨wa_mem 487 (by decide +kernel) rfl, wa_mem 488 (by decide +kernel) rfl, wa_mem 489 (by decide +kernel) rfl, wa_mem 3 (by decide +kernel) rfl, wa_mem 490 (by decide +kernel) rfl, ⟨TX4, 10, rfl⟩, ⟨by decide +kernel, by decide +kernel, by decide +kernel⟩⟩
theorem cv_X4_142 : CV RX4 142 2 3 mX2_increase := ⟨wa_mem 268 (by decide +kernel) rfl, wa_mem 269 (by decide +kernel) rfl, wa_mem 270 (by decide +kernel) rfl, wa_mem 4 (by decide +kernel) rfl, wa_mem 271 (by decide +kernel) rfl, ⟨TX2, 3, rfl⟩, ⟨by decide +kernel, by decide +kernel, by decide +kernel⟩⟩
theorem cv_X4_145 : CV RX4 145 4 1 mX4_settingNow := ⟨wa_mem 530 (by decide +kernel) rfl, wa_mem 531 (by decide +kernel) rfl, wa_mem 532 (by decide +kernel) rfl, wa_mem 3 (by decide +kernel) rfl, wa_mem 533 (by decide +kernel) rfl, ⟨TX4, 10, rfl⟩, ⟨by decide +kernel, by decide +kernel, by decide +kernel⟩⟩
theorem cv_X4_148 : CV RX4 148 4 1 mX4_driftsIntoDrain := ⟨wa_mem 252 (by decide +kernel) rfl, wa_mem 254 (by decide +kernel) rfl, wa_sel (by decide +kernel) rfl, wa_mem 3 (by decide +kernel) rfl, wa_mem 255 (by decide +kernel) rfl, ⟨TX4, 10, rfl⟩, ⟨by decide +kernel, by decide +kernel, by decide +kernel⟩⟩
theorem cv_X4_151 : CV RX4 151 4 1 mX4_arrive := ⟨wa_mem 274 (by decide +kernel) rfl, wa_mem 276 (by decide +kernel) rfl, wa_sel (by decide +kernel) rfl, wa_mem 3 (by decide +kernel) rfl, wa_mem 277 (by decide +kernel) rfl, ⟨TX4, 10, rfl⟩, ⟨by decide +kernel, by decide +kernel, by decide +kernel⟩⟩
theorem cv_X4_155 : CV RX4 155 4 1 mX4_soakUp := ⟨wa_mem 286 (by decide +kernel) rfl, wa_mem 288 (by decide +kernel) rfl, wa_sel (by decide +kernel) rfl, wa_mem 3 (by decide +kernel) rfl, wa_mem 289 (by decide +kernel) rfl, ⟨TX4, 10, rfl⟩, ⟨by decide +kernel, by decide +kernel, by decide +kernel⟩⟩
theorem cv_X4_158 : CV RX4 158 4 0 mX4_endHeat := ⟨wa_mem 294 (by decide +kernel) rfl, wa_mem 296 (by decide +kernel) rfl, wa_sel (by decide +kernel) rfl, wa_mem 3 (by decide +kernel) rfl, wa_mem 297 (by decide +kernel) rfl, ⟨TX4, 10, rfl⟩, ⟨by decide +kernel, by decide +kernel, by decide +kernel⟩⟩
theorem cv_X4_161 : CV RX4 161 4 2 mX4_nextGutter := ⟨wa_mem 256 (by decide +kernel) rfl, wa_mem 258 (by decide +kernel) rfl, wa_sel (by decide +kernel) rfl, wa_mem 3 (by decide +kernel) rfl, wa_mem 259 (by decide +kernel) rfl, ⟨TX4, 10, rfl⟩, ⟨by decide +kernel, by decide +kernel, by decide +kernel⟩⟩
theorem cv_X4_164 : CV RX4 164 4 2 mX4_nextCell := ⟨wa_mem 260 (by decide +kernel) rfl, wa_mem 262 (by decide +kernel) rfl, wa_sel (by decide +kernel) rfl, wa_mem 3 (by decide +kernel) rfl, wa_mem 263 (by decide +kernel) rfl, ⟨TX4, 10, rfl⟩, ⟨by decide +kernel, by decide +kernel, by decide +kernel⟩⟩
theorem cv_X4_167 : CV RX4 167 4 2 mX4_hasWreck := ⟨wa_mem 264 (by decide +kernel) rfl, wa_mem 266 (by decide +kernel) rfl, wa_sel (by decide +kernel) rfl, wa_mem 3 (by decide +kernel) rfl, wa_mem 267 (by decide +kernel) rfl, ⟨TX4, 10, rfl⟩, ⟨by decide +kernel, by decide +kernel, by decide +kernel⟩⟩
theorem cv_X4_170 : CV RX4 170 4 1 mX4_soakLimit := ⟨wa_mem 290 (by decide +kernel) rfl, wa_mem 291 (by decide +kernel) rfl, wa_mem 292 (by decide +kernel) rfl, wa_mem 3 (by decide +kernel) rfl, wa_mem 293 (by decide +kernel) rfl, ⟨TX4, 10, rfl⟩, ⟨by decide +kernel, by decide +kernel, by decide +kernel⟩⟩
theorem cv_X4_173 : CV RX4 173 4 2 mX4_hookDistance := ⟨wa_mem 511 (by decide +kernel) rfl, wa_mem 513 (by decide +kernel) rfl, wa_sel (by decide +kernel) rfl, wa_mem 3 (by decide +kernel) rfl, wa_mem 514 (by decide +kernel) rfl, ⟨TX4, 10, rfl⟩, ⟨by decide +kernel, by decide +kernel, by decide +kernel⟩⟩
theorem cv_X4_181 : CV RX4 181 2 1 mX2_sum := ⟨wa_mem 545 (by decide +kernel) rfl, wa_mem 546 (by decide +kernel) rfl, wa_mem 547 (by decide +kernel) rfl, wa_mem 4 (by decide +kernel) rfl, wa_mem 548 (by decide +kernel) rfl, ⟨TX2, 3, rfl⟩, ⟨by decide +kernel, by decide +kernel, by decide +kernel⟩⟩
theorem cv_X4_184 : CV RX4 184 4 2 mX4_countInGutter := ⟨wa_mem 562 (by decide +kernel) rfl, wa_mem 564 (by decide +kernel) rfl, wa_sel (by decide +kernel) rfl, wa_mem 3 (by decide +kernel) rfl, wa_mem 565 (by decide +kernel) rfl, ⟨TX4, 10, rfl⟩, ⟨by decide +kernel, by decide +kernel, by decide +kernel⟩⟩
theorem cv_X4_187 : CV RX4 187 4 1 mX4_lowestWreck := ⟨wa_mem 566 (by decide +kernel) rfl, wa_mem 568 (by decide +kernel) rfl, wa_sel (by decide +kernel) rfl, wa_mem 3 (by decide +kernel) rfl, wa_mem 569 (by decide +kernel) rfl, ⟨TX4, 10, rfl⟩, ⟨by decide +kernel, by decide +kernel, by decide +kernel⟩⟩
theorem cv_X4_190 : CV RX4 190 4 1 mX4_countClaimable := ⟨wa_mem 591 (by decide +kernel) rfl, wa_mem 592 (by decide +kernel) rfl, wa_mem 593 (by decide +kernel) rfl, wa_mem 3 (by decide +kernel) rfl, wa_mem 594 (by decide +kernel) rfl, ⟨TX4, 10, rfl⟩, ⟨by decide +kernel, by decide +kernel, by decide +kernel⟩⟩
theorem ci_X5_9 : CI RX5 9 0 mX3_init := ⟨wa_mem 26 (by decide +kernel) rfl, wa_mem 27 (by decide +kernel) rfl, wa_mem 2 (by decide +kernel) rfl, wa_mem 28 (by decide +kernel) rfl, rfl, rfl, ⟨by decide +kernel, by decide +kernel, by decide +kernel⟩⟩
theorem ci_X5_18 : CI RX5 18 0 mX4_init := ⟨wa_mem 49 (by decide +kernel) rfl, wa_mem 50 (by decide +kernel) rfl, wa_mem 3 (by decide +kernel) rfl, wa_mem 51 (by decide +kernel) rfl, rfl, rfl, ⟨by decide +kernel, by decide +kernel, by decide +kernel⟩⟩
theorem ci_X5_28 : CI RX5 28 0 mX0_init := ⟨wa_mem 124 (by decide +kernel) rfl, wa_mem 125 (by decide +kernel) rfl, wa_mem 6 (by decide +kernel) rfl, wa_mem 126 (by decide +kernel) rfl, rfl, rfl, ⟨by decide +kernel, by decide +kernel, by decide +kernel⟩⟩
theorem ci_X5_35 : CI RX5 35 1 mX1_init := ⟨wa_mem 158 (by decide +kernel) rfl, wa_mem 131 (by decide +kernel) rfl, wa_mem 7 (by decide +kernel) rfl, wa_mem 132 (by decide +kernel) rfl, rfl, rfl, ⟨by decide +kernel, by decide +kernel, by decide +kernel⟩⟩
theorem cs_X5_42 : CS RX5 42 1 mX5_throwFor := ⟨wa_mem 308 (by decide +kernel) rfl, wa_mem 309 (by decide +kernel) rfl, wa_mem 1 (by decide +kernel) rfl, wa_mem 310 (by decide +kernel) rfl, ⟨by decide +kernel, by decide +kernel, by decide +kernel⟩⟩
theorem cs_X5_195 : CS RX5 195 2 mX5_withoutLowest := ⟨wa_mem 742 (by decide +kernel) rfl, wa_mem 743 (by decide +kernel) rfl, wa_mem 1 (by decide +kernel) rfl, wa_mem 744 (by decide +kernel) rfl, ⟨by decide +kernel, by decide +kernel, by decide +kernel⟩⟩
theorem cv_X5_45 : CV RX5 45 3 0 mX3_isFull := ⟨wa_mem 411 (by decide +kernel) rfl, wa_mem 412 (by decide +kernel) rfl, wa_mem 413 (by decide +kernel) rfl, wa_mem 2 (by decide +kernel) rfl, wa_mem 414 (by decide +kernel) rfl, ⟨TX3, 5, rfl⟩, ⟨by decide +kernel, by decide +kernel, by decide +kernel⟩⟩
theorem cv_X5_49 : CV RX5 49 3 1 mX3_add := ⟨wa_mem 415 (by decide +kernel) rfl, wa_mem 416 (by decide +kernel) rfl, wa_mem 417 (by decide +kernel) rfl, wa_mem 2 (by decide +kernel) rfl, wa_mem 418 (by decide +kernel) rfl, ⟨TX3, 5, rfl⟩, ⟨by decide +kernel, by decide +kernel, by decide +kernel⟩⟩
theorem cv_X5_53 : CV RX5 53 3 0 mX3_makeEmpty := ⟨wa_mem 179 (by decide +kernel) rfl, wa_mem 180 (by decide +kernel) rfl, wa_mem 181 (by decide +kernel) rfl, wa_mem 2 (by decide +kernel) rfl, wa_mem 182 (by decide +kernel) rfl, ⟨TX3, 5, rfl⟩, ⟨by decide +kernel, by decide +kernel, by decide +kernel⟩⟩
theorem cv_X5_57 : CV RX5 57 3 0 mX3_firstError := ⟨wa_mem 187 (by decide +kernel) rfl, wa_mem 188 (by decide +kernel) rfl, wa_mem 189 (by decide +kernel) rfl, wa_mem 2 (by decide +kernel) rfl, wa_mem 190 (by decide +kernel) rfl, ⟨TX3, 5, rfl⟩, ⟨by decide +kernel, by decide +kernel, by decide +kernel⟩⟩
theorem cv_X5_60 : CV RX5 60 4 0 mX4_makeNew := ⟨wa_mem 426 (by decide +kernel) rfl, wa_mem 75 (by decide +kernel) rfl, wa_mem 76 (by decide +kernel) rfl, wa_mem 3 (by decide +kernel) rfl, wa_mem 77 (by decide +kernel) rfl, ⟨TX4, 10, rfl⟩, ⟨by decide +kernel, by decide +kernel, by decide +kernel⟩⟩
theorem cv_X5_63 : CV RX5 63 0 0 mX0_forget := ⟨wa_mem 427 (by decide +kernel) rfl, wa_mem 428 (by decide +kernel) rfl, wa_mem 429 (by decide +kernel) rfl, wa_mem 6 (by decide +kernel) rfl, wa_mem 430 (by decide +kernel) rfl, ⟨TX0, 3, rfl⟩, ⟨by decide +kernel, by decide +kernel, by decide +kernel⟩⟩
theorem cv_X5_66 : CV RX5 66 1 0 mX1_clear := ⟨wa_mem 431 (by decide +kernel) rfl, wa_mem 432 (by decide +kernel) rfl, wa_mem 433 (by decide +kernel) rfl, wa_mem 7 (by decide +kernel) rfl, wa_mem 434 (by decide +kernel) rfl, ⟨TX1, 2, rfl⟩, ⟨by decide +kernel, by decide +kernel, by decide +kernel⟩⟩
theorem cv_X5_69 : CV RX5 69 3 1 mX3_runCommands := ⟨wa_mem 435 (by decide +kernel) rfl, wa_mem 436 (by decide +kernel) rfl, wa_mem 437 (by decide +kernel) rfl, wa_mem 2 (by decide +kernel) rfl, wa_mem 438 (by decide +kernel) rfl, ⟨TX3, 5, rfl⟩, ⟨by decide +kernel, by decide +kernel, by decide +kernel⟩⟩
theorem cv_X5_73 : CV RX5 73 4 1 mX4_number := ⟨wa_mem 541 (by decide +kernel) rfl, wa_mem 542 (by decide +kernel) rfl, wa_mem 543 (by decide +kernel) rfl, wa_mem 3 (by decide +kernel) rfl, wa_mem 544 (by decide +kernel) rfl, ⟨TX4, 10, rfl⟩, ⟨by decide +kernel, by decide +kernel, by decide +kernel⟩⟩
theorem cv_X5_76 : CV RX5 76 4 1 mX4_hasGutter := ⟨wa_mem 557 (by decide +kernel) rfl, wa_mem 456 (by decide +kernel) rfl, wa_mem 457 (by decide +kernel) rfl, wa_mem 3 (by decide +kernel) rfl, wa_mem 458 (by decide +kernel) rfl, ⟨TX4, 10, rfl⟩, ⟨by decide +kernel, by decide +kernel, by decide +kernel⟩⟩
theorem cv_X5_80 : CV RX5 80 4 2 mX4_numberOfGutter := ⟨wa_mem 558 (by decide +kernel) rfl, wa_mem 559 (by decide +kernel) rfl, wa_mem 560 (by decide +kernel) rfl, wa_mem 3 (by decide +kernel) rfl, wa_mem 561 (by decide +kernel) rfl, ⟨TX4, 10, rfl⟩, ⟨by decide +kernel, by decide +kernel, by decide +kernel⟩⟩
theorem cv_X5_84 : CV RX5 84 4 1 mX4_hasBoat := ⟨wa_mem 577 (by decide +kernel) rfl, wa_mem 480 (by decide +kernel) rfl, wa_mem 481 (by decide +kernel) rfl, wa_mem 3 (by decide +kernel) rfl, wa_mem 482 (by decide +kernel) rfl, ⟨TX4, 10, rfl⟩, ⟨by decide +kernel, by decide +kernel, by decide +kernel⟩⟩
theorem cv_X5_87 : CV RX5 87 4 1 mX4_soakLimit := ⟨wa_mem 578 (by decide +kernel) rfl, wa_mem 291 (by decide +kernel) rfl, wa_mem 292 (by decide +kernel) rfl, wa_mem 3 (by decide +kernel) rfl, wa_mem 293 (by decide +kernel) rfl, ⟨TX4, 10, rfl⟩, ⟨by decide +kernel, by decide +kernel, by decide +kernel⟩⟩
theorem cv_X5_94 : CV RX5 94 2 2 mX2_at := ⟨wa_mem 298 (by decide +kernel) rfl, wa_mem 249 (by decide +kernel) rfl, wa_mem 250 (by decide +kernel) rfl, wa_mem 4 (by decide +kernel) rfl, wa_mem 251 (by decide +kernel) rfl, ⟨TX2, 3, rfl⟩, ⟨by decide +kernel, by decide +kernel, by decide +kernel⟩⟩
theorem cv_X5_99 : CV RX5 99 4 1 mX4_hasOwner := ⟨wa_mem 586 (by decide +kernel) rfl, wa_mem 468 (by decide +kernel) rfl, wa_mem 469 (by decide +kernel) rfl, wa_mem 3 (by decide +kernel) rfl, wa_mem 470 (by decide +kernel) rfl, ⟨TX4, 10, rfl⟩, ⟨by decide +kernel, by decide +kernel, by decide +kernel⟩⟩
theorem cv_X5_102 : CV RX5 102 4 2 mX4_numberOfOwner := ⟨wa_mem 587 (by decide +kernel) rfl, wa_mem 588 (by decide +kernel) rfl, wa_mem 589 (by decide +kernel) rfl, wa_mem 3 (by decide +kernel) rfl, wa_mem 590 (by decide +kernel) rfl, ⟨TX4, 10, rfl⟩, ⟨by decide +kernel, by decide +kernel, by decide +kernel⟩⟩
theorem cv_X5_105 : CV RX5 105 4 2 mX4_hasCell := ⟨wa_mem 602 (by decide +kernel) rfl, wa_mem 452 (by decide +kernel) rfl, wa_mem 453 (by decide +kernel) rfl, wa_mem 3 (by decide +kernel) rfl, wa_mem 454 (by decide +kernel) rfl, ⟨TX4, 10, rfl⟩, ⟨by decide +kernel, by decide +kernel, by decide +kernel⟩⟩
theorem cv_X5_109 : CV RX5 109 4 2 mX4_wayByGutters := ⟨wa_mem 603 (by decide +kernel) rfl, wa_mem 488 (by decide +kernel) rfl, wa_mem 489 (by decide +kernel) rfl, wa_mem 3 (by decide +kernel) rfl, wa_mem 490 (by decide +kernel) rfl, ⟨TX4, 10, rfl⟩, ⟨by decide +kernel, by decide +kernel, by decide +kernel⟩⟩
theorem cv_X5_112 : CV RX5 112 4 2 mX4_wayByCells := ⟨wa_mem 604 (by decide +kernel) rfl, wa_mem 605 (by decide +kernel) rfl, wa_mem 606 (by decide +kernel) rfl, wa_mem 3 (by decide +kernel) rfl, wa_mem 607 (by decide +kernel) rfl, ⟨TX4, 10, rfl⟩, ⟨by decide +kernel, by decide +kernel, by decide +kernel⟩⟩
theorem cv_X5_115 : CV RX5 115 4 1 mX4_settingNow := ⟨wa_mem 615 (by decide +kernel) rfl, wa_mem 531 (by decide +kernel) rfl, wa_mem 532 (by decide +kernel) rfl, wa_mem 3 (by decide +kernel) rfl, wa_mem 533 (by decide +kernel) rfl, ⟨TX4, 10, rfl⟩, ⟨by decide +kernel, by decide +kernel, by decide +kernel⟩⟩
theorem cv_X5_118 : CV RX5 118 4 4 mX4_gutterFault := ⟨wa_mem 623 (by decide +kernel) rfl, wa_mem 448 (by decide +kernel) rfl, wa_mem 449 (by decide +kernel) rfl, wa_mem 3 (by decide +kernel) rfl, wa_mem 450 (by decide +kernel) rfl, ⟨TX4, 10, rfl⟩, ⟨by decide +kernel, by decide +kernel, by decide +kernel⟩⟩
theorem cv_X5_122 : CV RX5 122 0 1 mX0_remember := ⟨wa_mem 624 (by decide +kernel) rfl, wa_mem 625 (by decide +kernel) rfl, wa_mem 626 (by decide +kernel) rfl, wa_mem 6 (by decide +kernel) rfl, wa_mem 627 (by decide +kernel) rfl, ⟨TX0, 3, rfl⟩, ⟨by decide +kernel, by decide +kernel, by decide +kernel⟩⟩
theorem cv_X5_126 : CV RX5 126 4 4 mX4_addGutter := ⟨wa_mem 638 (by decide +kernel) rfl, wa_mem 460 (by decide +kernel) rfl, wa_mem 461 (by decide +kernel) rfl, wa_mem 3 (by decide +kernel) rfl, wa_mem 462 (by decide +kernel) rfl, ⟨TX4, 10, rfl⟩, ⟨by decide +kernel, by decide +kernel, by decide +kernel⟩⟩
theorem cv_X5_129 : CV RX5 129 4 3 mX4_boatFault := ⟨wa_mem 646 (by decide +kernel) rfl, wa_mem 464 (by decide +kernel) rfl, wa_mem 465 (by decide +kernel) rfl, wa_mem 3 (by decide +kernel) rfl, wa_mem 466 (by decide +kernel) rfl, ⟨TX4, 10, rfl⟩, ⟨by decide +kernel, by decide +kernel, by decide +kernel⟩⟩
theorem cv_X5_133 : CV RX5 133 4 3 mX4_addBoat := ⟨wa_mem 647 (by decide +kernel) rfl, wa_mem 472 (by decide +kernel) rfl, wa_mem 473 (by decide +kernel) rfl, wa_mem 3 (by decide +kernel) rfl, wa_mem 474 (by decide +kernel) rfl, ⟨TX4, 10, rfl⟩, ⟨by decide +kernel, by decide +kernel, by decide +kernel⟩⟩
theorem cv_X5_136 : CV RX5 136 4 2 mX4_launchFault := ⟨wa_mem 655 (by decide +kernel) rfl, wa_mem 476 (by decide +kernel) rfl, wa_mem 477 (by decide +kernel) rfl, wa_mem 3 (by decide +kernel) rfl, wa_mem 478 (by decide +kernel) rfl, ⟨TX4, 10, rfl⟩, ⟨by decide +kernel, by decide +kernel, by decide +kernel⟩⟩
theorem cv_X5_139 : CV RX5 139 4 2 mX4_launchBoat := ⟨wa_mem 656 (by decide +kernel) rfl, wa_mem 484 (by decide +kernel) rfl, wa_mem 485 (by decide +kernel) rfl, wa_mem 3 (by decide +kernel) rfl, wa_mem 486 (by decide +kernel) rfl, ⟨TX4, 10, rfl⟩, ⟨by decide +kernel, by decide +kernel, by decide +kernel⟩⟩
theorem cv_X5_142 : CV RX5 142 4 3 mX4_hookFault := ⟨wa_mem 664 (by decide +kernel) rfl, wa_mem 496 (by decide +kernel) rfl, wa_mem 497 (by decide +kernel) rfl, wa_mem 3 (by decide +kernel) rfl, wa_mem 498 (by decide +kernel) rfl, ⟨TX4, 10, rfl⟩, ⟨by decide +kernel, by decide +kernel, by decide +kernel⟩⟩
theorem cv_X5_145 : CV RX5 145 4 3 mX4_putHook := ⟨wa_mem 665 (by decide +kernel) rfl, wa_mem 500 (by decide +kernel) rfl, wa_mem 501 (by decide +kernel) rfl, wa_mem 3 (by decide +kernel) rfl, wa_mem 502 (by decide +kernel) rfl, ⟨TX4, 10, rfl⟩, ⟨by decide +kernel, by decide +kernel, by decide +kernel⟩⟩
theorem cv_X5_149 : CV RX5 149 4 1 mX4_countClaimable := ⟨wa_mem 666 (by decide +kernel) rfl, wa_mem 592 (by decide +kernel) rfl, wa_mem 593 (by decide +kernel) rfl, wa_mem 3 (by decide +kernel) rfl, wa_mem 594 (by decide +kernel) rfl, ⟨TX4, 10, rfl⟩, ⟨by decide +kernel, by decide +kernel, by decide +kernel⟩⟩
theorem cv_X5_152 : CV RX5 152 4 2 mX4_claimFault := ⟨wa_mem 674 (by decide +kernel) rfl, wa_mem 504 (by decide +kernel) rfl, wa_mem 505 (by decide +kernel) rfl, wa_mem 3 (by decide +kernel) rfl, wa_mem 506 (by decide +kernel) rfl, ⟨TX4, 10, rfl⟩, ⟨by decide +kernel, by decide +kernel, by decide +kernel⟩⟩
theorem cv_X5_155 : CV RX5 155 4 2 mX4_reasonAgainst := ⟨wa_mem 675 (by decide +kernel) rfl, wa_mem 508 (by decide +kernel) rfl, wa_mem 509 (by decide +kernel) rfl, wa_mem 3 (by decide +kernel) rfl, wa_mem 510 (by decide +kernel) rfl, ⟨TX4, 10, rfl⟩, ⟨by decide +kernel, by decide +kernel, by decide +kernel⟩⟩
theorem cv_X5_158 : CV RX5 158 4 2 mX4_takeWreck := ⟨wa_mem 676 (by decide +kernel) rfl, wa_mem 519 (by decide +kernel) rfl, wa_mem 520 (by decide +kernel) rfl, wa_mem 3 (by decide +kernel) rfl, wa_mem 521 (by decide +kernel) rfl, ⟨TX4, 10, rfl⟩, ⟨by decide +kernel, by decide +kernel, by decide +kernel⟩⟩
theorem cv_X5_165 : CV RX5 165 4 1 mX4_minutesFault := ⟨wa_mem 684 (by decide +kernel) rfl, wa_mem 492 (by decide +kernel) rfl, wa_mem 493 (by decide +kernel) rfl, wa_mem 3 (by decide +kernel) rfl, wa_mem 494 (by decide +kernel) rfl, ⟨TX4, 10, rfl⟩, ⟨by decide +kernel, by decide +kernel, by decide +kernel⟩⟩
theorem cv_X5_168 : CV RX5 168 4 1 mX4_passMinutes := ⟨wa_mem 685 (by decide +kernel) rfl, wa_mem 245 (by decide +kernel) rfl, wa_mem 246 (by decide +kernel) rfl, wa_mem 3 (by decide +kernel) rfl, wa_mem 247 (by decide +kernel) rfl, ⟨TX4, 10, rfl⟩, ⟨by decide +kernel, by decide +kernel, by decide +kernel⟩⟩
theorem cv_X5_171 : CV RX5 171 4 2 mX4_settingFault := ⟨wa_mem 693 (by decide +kernel) rfl, wa_mem 523 (by decide +kernel) rfl, wa_mem 524 (by decide +kernel) rfl, wa_mem 3 (by decide +kernel) rfl, wa_mem 525 (by decide +kernel) rfl, ⟨TX4, 10, rfl⟩, ⟨by decide +kernel, by decide +kernel, by decide +kernel⟩⟩
theorem cv_X5_174 : CV RX5 174 4 2 mX4_changeSetting := ⟨wa_mem 694 (by decide +kernel) rfl, wa_mem 527 (by decide +kernel) rfl, wa_mem 528 (by decide +kernel) rfl, wa_mem 3 (by decide +kernel) rfl, wa_mem 529 (by decide +kernel) rfl, ⟨TX4, 10, rfl⟩, ⟨by decide +kernel, by decide +kernel, by decide +kernel⟩⟩
theorem cv_X5_180 : CV RX5 180 0 1 mX0_takeBack := ⟨wa_mem 702 (by decide +kernel) rfl, wa_mem 703 (by decide +kernel) rfl, wa_mem 704 (by decide +kernel) rfl, wa_mem 6 (by decide +kernel) rfl, wa_mem 705 (by decide +kernel) rfl, ⟨TX0, 3, rfl⟩, ⟨by decide +kernel, by decide +kernel, by decide +kernel⟩⟩
theorem cv_X5_183 : CV RX5 183 4 1 mX4_copyFrom := ⟨wa_mem 226 (by decide +kernel) rfl, wa_mem 227 (by decide +kernel) rfl, wa_mem 228 (by decide +kernel) rfl, wa_mem 3 (by decide +kernel) rfl, wa_mem 229 (by decide +kernel) rfl, ⟨TX4, 10, rfl⟩, ⟨by decide +kernel, by decide +kernel, by decide +kernel⟩⟩
theorem cv_X5_186 : CV RX5 186 4 1 mX4_minutesUntilEnd := ⟨wa_mem 724 (by decide +kernel) rfl, wa_mem 725 (by decide +kernel) rfl, wa_mem 726 (by decide +kernel) rfl, wa_mem 3 (by decide +kernel) rfl, wa_mem 727 (by decide +kernel) rfl, ⟨TX4, 10, rfl⟩, ⟨by decide +kernel, by decide +kernel, by decide +kernel⟩⟩
theorem cv_X5_189 : CV RX5 189 4 0 mX4_letHeatEnd := ⟨wa_mem 240 (by decide +kernel) rfl, wa_mem 241 (by decide +kernel) rfl, wa_mem 242 (by decide +kernel) rfl, wa_mem 3 (by decide +kernel) rfl, wa_mem 243 (by decide +kernel) rfl, ⟨TX4, 10, rfl⟩, ⟨by decide +kernel, by decide +kernel, by decide +kernel⟩⟩
theorem cv_X5_201 : CV RX5 201 5 1 mX5_succeeds := ⟨wa_mem 746 (by decide +kernel) rfl, wa_mem 748 (by decide +kernel) rfl, wa_sel (by decide +kernel) rfl, wa_mem 1 (by decide +kernel) rfl, wa_mem 749 (by decide +kernel) rfl, ⟨TX5, 5, rfl⟩, ⟨by decide +kernel, by decide +kernel, by decide +kernel⟩⟩
theorem cv_X5_208 : CV RX5 208 5 1 mX5_takeTurn := ⟨wa_mem 760 (by decide +kernel) rfl, wa_mem 762 (by decide +kernel) rfl, wa_sel (by decide +kernel) rfl, wa_mem 1 (by decide +kernel) rfl, wa_mem 763 (by decide +kernel) rfl, ⟨TX5, 5, rfl⟩, ⟨by decide +kernel, by decide +kernel, by decide +kernel⟩⟩
theorem cv_X5_217 : CV RX5 217 2 1 mX2_sum := ⟨wa_mem 764 (by decide +kernel) rfl, wa_mem 546 (by decide +kernel) rfl, wa_mem 547 (by decide +kernel) rfl, wa_mem 4 (by decide +kernel) rfl, wa_mem 548 (by decide +kernel) rfl, ⟨TX2, 3, rfl⟩, ⟨by decide +kernel, by decide +kernel, by decide +kernel⟩⟩
theorem cv_X5_220 : CV RX5 220 2 2 mX2_count := ⟨wa_mem 765 (by decide +kernel) rfl, wa_mem 279 (by decide +kernel) rfl, wa_mem 280 (by decide +kernel) rfl, wa_mem 4 (by decide +kernel) rfl, wa_mem 281 (by decide +kernel) rfl, ⟨TX2, 3, rfl⟩, ⟨by decide +kernel, by decide +kernel, by decide +kernel⟩⟩
theorem cv_X5_222 : CV RX5 222 1 2 mX1_put := ⟨wa_mem 773 (by decide +kernel) rfl, wa_mem 629 (by decide +kernel) rfl, wa_mem 630 (by decide +kernel) rfl, wa_mem 7 (by decide +kernel) rfl, wa_mem 631 (by decide +kernel) rfl, ⟨TX1, 2, rfl⟩, ⟨by decide +kernel, by decide +kernel, by decide +kernel⟩⟩
theorem cv_X5_229 : CV RX5 229 1 1 mX1_holds := ⟨wa_mem 781 (by decide +kernel) rfl, wa_mem 782 (by decide +kernel) rfl, wa_mem 783 (by decide +kernel) rfl, wa_mem 7 (by decide +kernel) rfl, wa_mem 784 (by decide +kernel) rfl, ⟨TX1, 2, rfl⟩, ⟨by decide +kernel, by decide +kernel, by decide +kernel⟩⟩
theorem cv_X5_232 : CV RX5 232 1 2 mX1_copyTo := ⟨wa_mem 785 (by decide +kernel) rfl, wa_mem 707 (by decide +kernel) rfl, wa_mem 708 (by decide +kernel) rfl, wa_mem 7 (by decide +kernel) rfl, wa_mem 709 (by decide +kernel) rfl, ⟨TX1, 2, rfl⟩, ⟨by decide +kernel, by decide +kernel, by decide +kernel⟩⟩
theorem cv_X5_252 : CV RX5 252 4 5 mX4_perform := ⟨wa_mem 750 (by decide +kernel) rfl, wa_mem 444 (by decide +kernel) rfl, wa_mem 445 (by decide +kernel) rfl, wa_mem 3 (by decide +kernel) rfl, wa_mem 446 (by decide +kernel) rfl, ⟨TX4, 10, rfl⟩, ⟨by decide +kernel, by decide +kernel, by decide +kernel⟩⟩
theorem cs_X6_32 : CS RX6 32 1 mX6_fresh := ⟨wa_mem 792 (by decide +kernel) rfl, wa_mem 793 (by decide +kernel) rfl, wa_mem 8 (by decide +kernel) rfl, wa_mem 794 (by decide +kernel) rfl, ⟨by decide +kernel, by decide +kernel, by decide +kernel⟩⟩
theorem cs_X6_42 : CS RX6 42 3 mX6_in := ⟨wa_mem 844 (by decide +kernel) rfl, wa_mem 845 (by decide +kernel) rfl, wa_mem 8 (by decide +kernel) rfl, wa_mem 846 (by decide +kernel) rfl, ⟨by decide +kernel, by decide +kernel, by decide +kernel⟩⟩
theorem cs_X6_46 : CS RX6 46 2 mX6_isGutter := ⟨wa_mem 893 (by decide +kernel) rfl, wa_mem 894 (by decide +kernel) rfl, wa_mem 8 (by decide +kernel) rfl, wa_mem 895 (by decide +kernel) rfl, ⟨by decide +kernel, by decide +kernel, by decide +kernel⟩⟩
theorem cs_X6_60 : CS RX6 60 1 mX6_spot := ⟨wa_mem 910 (by decide +kernel) rfl, wa_mem 911 (by decide +kernel) rfl, wa_mem 8 (by decide +kernel) rfl, wa_mem 912 (by decide +kernel) rfl, ⟨by decide +kernel, by decide +kernel, by decide +kernel⟩⟩
theorem cs_X6_64 : CS RX6 64 2 mX6_state := ⟨wa_mem 920 (by decide +kernel) rfl, wa_mem 921 (by decide +kernel) rfl, wa_mem 8 (by decide +kernel) rfl, wa_mem 922 (by decide +kernel) rfl, ⟨by decide +kernel, by decide +kernel, by decide +kernel⟩⟩
theorem cs_X6_68 : CS RX6 68 3 mX6_isWreck := ⟨wa_mem 977 (by decide +kernel) rfl, wa_mem 978 (by decide +kernel) rfl, wa_mem 8 (by decide +kernel) rfl, wa_mem 979 (by decide +kernel) rfl, ⟨by decide +kernel, by decide +kernel, by decide +kernel⟩⟩
theorem cs_X6_72 : CS RX6 72 2 mX6_moves := ⟨wa_mem 974 (by decide +kernel) rfl, wa_mem 975 (by decide +kernel) rfl, wa_mem 8 (by decide +kernel) rfl, wa_mem 976 (by decide +kernel) rfl, ⟨by decide +kernel, by decide +kernel, by decide +kernel⟩⟩
theorem cs_X6_75 : CS RX6 75 2 mX6_bears := ⟨wa_mem 980 (by decide +kernel) rfl, wa_mem 981 (by decide +kernel) rfl, wa_mem 8 (by decide +kernel) rfl, wa_mem 982 (by decide +kernel) rfl, ⟨by decide +kernel, by decide +kernel, by decide +kernel⟩⟩
theorem cs_X6_78 : CS RX6 78 2 mX6_drift := ⟨wa_mem 971 (by decide +kernel) rfl, wa_mem 972 (by decide +kernel) rfl, wa_mem 8 (by decide +kernel) rfl, wa_mem 973 (by decide +kernel) rfl, ⟨by decide +kernel, by decide +kernel, by decide +kernel⟩⟩
theorem cs_X6_82 : CS RX6 82 2 mX6_inState := ⟨wa_mem 926 (by decide +kernel) rfl, wa_mem 927 (by decide +kernel) rfl, wa_mem 8 (by decide +kernel) rfl, wa_mem 928 (by decide +kernel) rfl, ⟨by decide +kernel, by decide +kernel, by decide +kernel⟩⟩
theorem cs_X6_85 : CS RX6 85 1 mX6_endHeat := ⟨wa_mem 983 (by decide +kernel) rfl, wa_mem 984 (by decide +kernel) rfl, wa_mem 8 (by decide +kernel) rfl, wa_mem 985 (by decide +kernel) rfl, ⟨by decide +kernel, by decide +kernel, by decide +kernel⟩⟩
theorem cs_X6_89 : CS RX6 89 1 mX6_goMinute := ⟨wa_mem 968 (by decide +kernel) rfl, wa_mem 969 (by decide +kernel) rfl, wa_mem 8 (by decide +kernel) rfl, wa_mem 970 (by decide +kernel) rfl, ⟨by decide +kernel, by decide +kernel, by decide +kernel⟩⟩
theorem cs_X6_92 : CS RX6 92 1 mX6_abs := ⟨wa_mem 951 (by decide +kernel) rfl, wa_mem 952 (by decide +kernel) rfl, wa_mem 8 (by decide +kernel) rfl, wa_mem 953 (by decide +kernel) rfl, ⟨by decide +kernel, by decide +kernel, by decide +kernel⟩⟩
theorem cs_X6_95 : CS RX6 95 3 mX6_isHooked := ⟨wa_mem 945 (by decide +kernel) rfl, wa_mem 946 (by decide +kernel) rfl, wa_mem 8 (by decide +kernel) rfl, wa_mem 947 (by decide +kernel) rfl, ⟨by decide +kernel, by decide +kernel, by decide +kernel⟩⟩
theorem cs_X6_98 : CS RX6 98 3 mX6_far := ⟨wa_mem 948 (by decide +kernel) rfl, wa_mem 949 (by decide +kernel) rfl, wa_mem 8 (by decide +kernel) rfl, wa_mem 950 (by decide +kernel) rfl, ⟨by decide +kernel, by decide +kernel, by decide +kernel⟩⟩
theorem cs_X6_102 : CS RX6 102 3 mX6_whyNot := ⟨wa_mem 942 (by decide +kernel) rfl, wa_mem 943 (by decide +kernel) rfl, wa_mem 8 (by decide +kernel) rfl, wa_mem 944 (by decide +kernel) rfl, ⟨by decide +kernel, by decide +kernel, by decide +kernel⟩⟩
theorem cs_X6_105 : CS RX6 105 2 mX6_claimable := ⟨wa_mem 939 (by decide +kernel) rfl, wa_mem 940 (by decide +kernel) rfl, wa_mem 8 (by decide +kernel) rfl, wa_mem 941 (by decide +kernel) rfl, ⟨by decide +kernel, by decide +kernel, by decide +kernel⟩⟩
theorem cs_X6_108 : CS RX6 108 3 mX6_toDrain := ⟨wa_mem 929 (by decide +kernel) rfl, wa_mem 930 (by decide +kernel) rfl, wa_mem 8 (by decide +kernel) rfl, wa_mem 931 (by decide +kernel) rfl, ⟨by decide +kernel, by decide +kernel, by decide +kernel⟩⟩
theorem cs_X6_111 : CS RX6 111 3 mX6_isCell := ⟨wa_mem 890 (by decide +kernel) rfl, wa_mem 891 (by decide +kernel) rfl, wa_mem 8 (by decide +kernel) rfl, wa_mem 892 (by decide +kernel) rfl, ⟨by decide +kernel, by decide +kernel, by decide +kernel⟩⟩
theorem cs_X6_151 : CS RX6 151 3 mX6_flowsInto := ⟨wa_mem 887 (by decide +kernel) rfl, wa_mem 888 (by decide +kernel) rfl, wa_mem 8 (by decide +kernel) rfl, wa_mem 889 (by decide +kernel) rfl, ⟨by decide +kernel, by decide +kernel, by decide +kernel⟩⟩
theorem cs_X6_158 : CS RX6 158 5 mX6_addGutter := ⟨wa_mem 900 (by decide +kernel) rfl, wa_mem 901 (by decide +kernel) rfl, wa_mem 8 (by decide +kernel) rfl, wa_mem 902 (by decide +kernel) rfl, ⟨by decide +kernel, by decide +kernel, by decide +kernel⟩⟩
theorem cs_X6_162 : CS RX6 162 4 mX6_addBoat := ⟨wa_mem 907 (by decide +kernel) rfl, wa_mem 908 (by decide +kernel) rfl, wa_mem 8 (by decide +kernel) rfl, wa_mem 909 (by decide +kernel) rfl, ⟨by decide +kernel, by decide +kernel, by decide +kernel⟩⟩
theorem cs_X6_166 : CS RX6 166 2 mX6_isBoat := ⟨wa_mem 917 (by decide +kernel) rfl, wa_mem 918 (by decide +kernel) rfl, wa_mem 8 (by decide +kernel) rfl, wa_mem 919 (by decide +kernel) rfl, ⟨by decide +kernel, by decide +kernel, by decide +kernel⟩⟩
theorem cs_X6_169 : CS RX6 169 3 mX6_goLaunch := ⟨wa_mem 923 (by decide +kernel) rfl, wa_mem 924 (by decide +kernel) rfl, wa_mem 8 (by decide +kernel) rfl, wa_mem 925 (by decide +kernel) rfl, ⟨by decide +kernel, by decide +kernel, by decide +kernel⟩⟩
theorem cs_X6_172 : CS RX6 172 4 mX6_goHook := ⟨wa_mem 936 (by decide +kernel) rfl, wa_mem 937 (by decide +kernel) rfl, wa_mem 8 (by decide +kernel) rfl, wa_mem 938 (by decide +kernel) rfl, ⟨by decide +kernel, by decide +kernel, by decide +kernel⟩⟩
theorem cs_X6_175 : CS RX6 175 3 mX6_goClaim := ⟨wa_mem 958 (by decide +kernel) rfl, wa_mem 959 (by decide +kernel) rfl, wa_mem 8 (by decide +kernel) rfl, wa_mem 960 (by decide +kernel) rfl, ⟨by decide +kernel, by decide +kernel, by decide +kernel⟩⟩
theorem cs_X6_178 : CS RX6 178 2 mX6_goMinutes := ⟨wa_mem 965 (by decide +kernel) rfl, wa_mem 966 (by decide +kernel) rfl, wa_mem 8 (by decide +kernel) rfl, wa_mem 967 (by decide +kernel) rfl, ⟨by decide +kernel, by decide +kernel, by decide +kernel⟩⟩
theorem cs_X6_181 : CS RX6 181 2 mX6_isSetting := ⟨wa_mem 986 (by decide +kernel) rfl, wa_mem 987 (by decide +kernel) rfl, wa_mem 8 (by decide +kernel) rfl, wa_mem 988 (by decide +kernel) rfl, ⟨by decide +kernel, by decide +kernel, by decide +kernel⟩⟩
theorem cs_X6_185 : CS RX6 185 3 mX6_put := ⟨wa_mem 991 (by decide +kernel) rfl, wa_mem 992 (by decide +kernel) rfl, wa_mem 8 (by decide +kernel) rfl, wa_mem 993 (by decide +kernel) rfl, ⟨by decide +kernel, by decide +kernel, by decide +kernel⟩⟩
theorem cs_X6_212 : CS RX6 212 2 mX6_copy := ⟨wa_mem 998 (by decide +kernel) rfl, wa_mem 999 (by decide +kernel) rfl, wa_mem 8 (by decide +kernel) rfl, wa_mem 1000 (by decide +kernel) rfl, ⟨by decide +kernel, by decide +kernel, by decide +kernel⟩⟩
theorem cs_X6_232 : CS RX6 232 1 mX6_isOwner := ⟨wa_mem 1036 (by decide +kernel) rfl, wa_mem 1037 (by decide +kernel) rfl, wa_mem 8 (by decide +kernel) rfl, wa_mem 1038 (by decide +kernel) rfl, ⟨by decide +kernel, by decide +kernel, by decide +kernel⟩⟩
theorem cs_X6_240 : CS RX6 240 2 mX6_isFlow := ⟨wa_mem 1057 (by decide +kernel) rfl, wa_mem 1058 (by decide +kernel) rfl, wa_mem 8 (by decide +kernel) rfl, wa_mem 1059 (by decide +kernel) rfl, ⟨by decide +kernel, by decide +kernel, by decide +kernel⟩⟩
theorem cs_X6_246 : CS RX6 246 2 mX6_isFolded := ⟨wa_mem 1070 (by decide +kernel) rfl, wa_mem 1071 (by decide +kernel) rfl, wa_mem 8 (by decide +kernel) rfl, wa_mem 1072 (by decide +kernel) rfl, ⟨by decide +kernel, by decide +kernel, by decide +kernel⟩⟩
theorem cs_X6_273 : CS RX6 273 1 mX6_tens := ⟨wa_mem 1122 (by decide +kernel) rfl, wa_mem 1123 (by decide +kernel) rfl, wa_mem 8 (by decide +kernel) rfl, wa_mem 1124 (by decide +kernel) rfl, ⟨by decide +kernel, by decide +kernel, by decide +kernel⟩⟩
theorem cv_X6_122 : CV RX6 122 6 1 mX6_refused := ⟨wa_mem 847 (by decide +kernel) rfl, wa_mem 849 (by decide +kernel) rfl, wa_sel (by decide +kernel) rfl, wa_mem 8 (by decide +kernel) rfl, wa_mem 850 (by decide +kernel) rfl, ⟨TX6, 13, rfl⟩, ⟨by decide +kernel, by decide +kernel, by decide +kernel⟩⟩
theorem cv_X6_133 : CV RX6 133 6 0 mX6_here := ⟨wa_mem 863 (by decide +kernel) rfl, wa_mem 865 (by decide +kernel) rfl, wa_sel (by decide +kernel) rfl, wa_mem 8 (by decide +kernel) rfl, wa_mem 866 (by decide +kernel) rfl, ⟨TX6, 13, rfl⟩, ⟨by decide +kernel, by decide +kernel, by decide +kernel⟩⟩
theorem cv_X6_137 : CV RX6 137 6 1 mX6_take := ⟨wa_mem 867 (by decide +kernel) rfl, wa_mem 869 (by decide +kernel) rfl, wa_sel (by decide +kernel) rfl, wa_mem 8 (by decide +kernel) rfl, wa_mem 870 (by decide +kernel) rfl, ⟨TX6, 13, rfl⟩, ⟨by decide +kernel, by decide +kernel, by decide +kernel⟩⟩
theorem cv_X6_141 : CV RX6 141 6 2 mX6_digit := ⟨wa_mem 883 (by decide +kernel) rfl, wa_mem 885 (by decide +kernel) rfl, wa_sel (by decide +kernel) rfl, wa_mem 8 (by decide +kernel) rfl, wa_mem 886 (by decide +kernel) rfl, ⟨TX6, 13, rfl⟩, ⟨by decide +kernel, by decide +kernel, by decide +kernel⟩⟩
theorem cv_X6_148 : CV RX6 148 6 2 mX6_two := ⟨wa_mem 879 (by decide +kernel) rfl, wa_mem 881 (by decide +kernel) rfl, wa_sel (by decide +kernel) rfl, wa_mem 8 (by decide +kernel) rfl, wa_mem 882 (by decide +kernel) rfl, ⟨TX6, 13, rfl⟩, ⟨by decide +kernel, by decide +kernel, by decide +kernel⟩⟩
theorem cv_X6_154 : CV RX6 154 6 1 mX6_goes := ⟨wa_mem 896 (by decide +kernel) rfl, wa_mem 898 (by decide +kernel) rfl, wa_sel (by decide +kernel) rfl, wa_mem 8 (by decide +kernel) rfl, wa_mem 899 (by decide +kernel) rfl, ⟨TX6, 13, rfl⟩, ⟨by decide +kernel, by decide +kernel, by decide +kernel⟩⟩
theorem cv_X6_188 : CV RX6 188 6 0 mX6_readGutter := ⟨wa_mem 875 (by decide +kernel) rfl, wa_mem 877 (by decide +kernel) rfl, wa_sel (by decide +kernel) rfl, wa_mem 8 (by decide +kernel) rfl, wa_mem 878 (by decide +kernel) rfl, ⟨TX6, 13, rfl⟩, ⟨by decide +kernel, by decide +kernel, by decide +kernel⟩⟩
theorem cv_X6_191 : CV RX6 191 6 0 mX6_readBoat := ⟨wa_mem 903 (by decide +kernel) rfl, wa_mem 905 (by decide +kernel) rfl, wa_sel (by decide +kernel) rfl, wa_mem 8 (by decide +kernel) rfl, wa_mem 906 (by decide +kernel) rfl, ⟨TX6, 13, rfl⟩, ⟨by decide +kernel, by decide +kernel, by decide +kernel⟩⟩
theorem cv_X6_194 : CV RX6 194 6 0 mX6_readLaunch := ⟨wa_mem 913 (by decide +kernel) rfl, wa_mem 915 (by decide +kernel) rfl, wa_sel (by decide +kernel) rfl, wa_mem 8 (by decide +kernel) rfl, wa_mem 916 (by decide +kernel) rfl, ⟨TX6, 13, rfl⟩, ⟨by decide +kernel, by decide +kernel, by decide +kernel⟩⟩
theorem cv_X6_197 : CV RX6 197 6 0 mX6_readHook := ⟨wa_mem 932 (by decide +kernel) rfl, wa_mem 934 (by decide +kernel) rfl, wa_sel (by decide +kernel) rfl, wa_mem 8 (by decide +kernel) rfl, wa_mem 935 (by decide +kernel) rfl, ⟨TX6, 13, rfl⟩, ⟨by decide +kernel, by decide +kernel, by decide +kernel⟩⟩
theorem cv_X6_200 : CV RX6 200 6 0 mX6_readClaim := ⟨wa_mem 954 (by decide +kernel) rfl, wa_mem 956 (by decide +kernel) rfl, wa_sel (by decide +kernel) rfl, wa_mem 8 (by decide +kernel) rfl, wa_mem 957 (by decide +kernel) rfl, ⟨TX6, 13, rfl⟩, ⟨by decide +kernel, by decide +kernel, by decide +kernel⟩⟩
theorem cv_X6_203 : CV RX6 203 6 1 mX6_readRest := ⟨wa_mem 961 (by decide +kernel) rfl, wa_mem 963 (by decide +kernel) rfl, wa_sel (by decide +kernel) rfl, wa_mem 8 (by decide +kernel) rfl, wa_mem 964 (by decide +kernel) rfl, ⟨TX6, 13, rfl⟩, ⟨by decide +kernel, by decide +kernel, by decide +kernel⟩⟩
theorem cv_X6_206 : CV RX6 206 6 0 mX6_readCommand := ⟨wa_mem 871 (by decide +kernel) rfl, wa_mem 873 (by decide +kernel) rfl, wa_sel (by decide +kernel) rfl, wa_mem 8 (by decide +kernel) rfl, wa_mem 874 (by decide +kernel) rfl, ⟨TX6, 13, rfl⟩, ⟨by decide +kernel, by decide +kernel, by decide +kernel⟩⟩
theorem cv_X6_209 : CV RX6 209 6 0 mX6_readAll := ⟨wa_mem 859 (by decide +kernel) rfl, wa_mem 861 (by decide +kernel) rfl, wa_sel (by decide +kernel) rfl, wa_mem 8 (by decide +kernel) rfl, wa_mem 862 (by decide +kernel) rfl, ⟨TX6, 13, rfl⟩, ⟨by decide +kernel, by decide +kernel, by decide +kernel⟩⟩
theorem cv_X6_218 : CV RX6 218 6 0 mX6_points := ⟨wa_mem 1006 (by decide +kernel) rfl, wa_mem 1008 (by decide +kernel) rfl, wa_sel (by decide +kernel) rfl, wa_mem 8 (by decide +kernel) rfl, wa_mem 1009 (by decide +kernel) rfl, ⟨TX6, 13, rfl⟩, ⟨by decide +kernel, by decide +kernel, by decide +kernel⟩⟩
theorem cv_X6_221 : CV RX6 221 6 0 mX6_drifted := ⟨wa_mem 1010 (by decide +kernel) rfl, wa_mem 1012 (by decide +kernel) rfl, wa_sel (by decide +kernel) rfl, wa_mem 8 (by decide +kernel) rfl, wa_mem 1013 (by decide +kernel) rfl, ⟨TX6, 13, rfl⟩, ⟨by decide +kernel, by decide +kernel, by decide +kernel⟩⟩
theorem cv_X6_226 : CV RX6 226 6 2 mX6_inGutter := ⟨wa_mem 1019 (by decide +kernel) rfl, wa_mem 1021 (by decide +kernel) rfl, wa_sel (by decide +kernel) rfl, wa_mem 8 (by decide +kernel) rfl, wa_mem 1022 (by decide +kernel) rfl, ⟨TX6, 13, rfl⟩, ⟨by decide +kernel, by decide +kernel, by decide +kernel⟩⟩
theorem cv_X6_229 : CV RX6 229 6 1 mX6_lowestWreck := ⟨wa_mem 1023 (by decide +kernel) rfl, wa_mem 1025 (by decide +kernel) rfl, wa_sel (by decide +kernel) rfl, wa_mem 8 (by decide +kernel) rfl, wa_mem 1026 (by decide +kernel) rfl, ⟨TX6, 13, rfl⟩, ⟨by decide +kernel, by decide +kernel, by decide +kernel⟩⟩
theorem cv_X6_235 : CV RX6 235 6 1 mX6_boatsOf := ⟨wa_mem 1040 (by decide +kernel) rfl, wa_mem 1042 (by decide +kernel) rfl, wa_sel (by decide +kernel) rfl, wa_mem 8 (by decide +kernel) rfl, wa_mem 1043 (by decide +kernel) rfl, ⟨TX6, 13, rfl⟩, ⟨by decide +kernel, by decide +kernel, by decide +kernel⟩⟩
theorem cv_X6_243 : CV RX6 243 6 0 mX6_remember := ⟨wa_mem 1062 (by decide +kernel) rfl, wa_mem 1064 (by decide +kernel) rfl, wa_sel (by decide +kernel) rfl, wa_mem 8 (by decide +kernel) rfl, wa_mem 1065 (by decide +kernel) rfl, ⟨TX6, 13, rfl⟩, ⟨by decide +kernel, by decide +kernel, by decide +kernel⟩⟩
theorem cv_X6_251 : CV RX6 251 6 1 mX6_goesTill := ⟨wa_mem 1106 (by decide +kernel) rfl, wa_mem 1108 (by decide +kernel) rfl, wa_sel (by decide +kernel) rfl, wa_mem 8 (by decide +kernel) rfl, wa_mem 1109 (by decide +kernel) rfl, ⟨TX6, 13, rfl⟩, ⟨by decide +kernel, by decide +kernel, by decide +kernel⟩⟩
theorem cv_X6_254 : CV RX6 254 6 2 mX6_runLaunch := ⟨wa_mem 1130 (by decide +kernel) rfl, wa_mem 1132 (by decide +kernel) rfl, wa_sel (by decide +kernel) rfl, wa_mem 8 (by decide +kernel) rfl, wa_mem 1133 (by decide +kernel) rfl, ⟨TX6, 13, rfl⟩, ⟨by decide +kernel, by decide +kernel, by decide +kernel⟩⟩
theorem cv_X6_257 : CV RX6 257 6 1 mX6_runMinutes := ⟨wa_mem 1134 (by decide +kernel) rfl, wa_mem 1136 (by decide +kernel) rfl, wa_sel (by decide +kernel) rfl, wa_mem 8 (by decide +kernel) rfl, wa_mem 1137 (by decide +kernel) rfl, ⟨TX6, 13, rfl⟩, ⟨by decide +kernel, by decide +kernel, by decide +kernel⟩⟩
theorem cv_X6_260 : CV RX6 260 6 3 mX6_runHook := ⟨wa_mem 1138 (by decide +kernel) rfl, wa_mem 1140 (by decide +kernel) rfl, wa_sel (by decide +kernel) rfl, wa_mem 8 (by decide +kernel) rfl, wa_mem 1141 (by decide +kernel) rfl, ⟨TX6, 13, rfl⟩, ⟨by decide +kernel, by decide +kernel, by decide +kernel⟩⟩
theorem cv_X6_264 : CV RX6 264 6 2 mX6_runClaim := ⟨wa_mem 1142 (by decide +kernel) rfl, wa_mem 1144 (by decide +kernel) rfl, wa_sel (by decide +kernel) rfl, wa_mem 8 (by decide +kernel) rfl, wa_mem 1145 (by decide +kernel) rfl, ⟨TX6, 13, rfl⟩, ⟨by decide +kernel, by decide +kernel, by decide +kernel⟩⟩
theorem cv_X6_267 : CV RX6 267 6 2 mX6_runSet := ⟨wa_mem 1146 (by decide +kernel) rfl, wa_mem 1148 (by decide +kernel) rfl, wa_sel (by decide +kernel) rfl, wa_mem 8 (by decide +kernel) rfl, wa_mem 1149 (by decide +kernel) rfl, ⟨TX6, 13, rfl⟩, ⟨by decide +kernel, by decide +kernel, by decide +kernel⟩⟩
theorem cv_X6_270 : CV RX6 270 6 3 mX6_runBoat := ⟨wa_mem 1150 (by decide +kernel) rfl, wa_mem 1152 (by decide +kernel) rfl, wa_sel (by decide +kernel) rfl, wa_mem 8 (by decide +kernel) rfl, wa_mem 1153 (by decide +kernel) rfl, ⟨TX6, 13, rfl⟩, ⟨by decide +kernel, by decide +kernel, by decide +kernel⟩⟩
theorem cv_X6_279 : CV RX6 279 6 1 mX6_command := ⟨wa_mem 1126 (by decide +kernel) rfl, wa_mem 1128 (by decide +kernel) rfl, wa_sel (by decide +kernel) rfl, wa_mem 8 (by decide +kernel) rfl, wa_mem 1129 (by decide +kernel) rfl, ⟨TX6, 13, rfl⟩, ⟨by decide +kernel, by decide +kernel, by decide +kernel⟩⟩
theorem cv_X6_282 : CV RX6 282 6 4 mX6_runGutter := ⟨wa_mem 1164 (by decide +kernel) rfl, wa_mem 1166 (by decide +kernel) rfl, wa_sel (by decide +kernel) rfl, wa_mem 8 (by decide +kernel) rfl, wa_mem 1167 (by decide +kernel) rfl, ⟨TX6, 13, rfl⟩, ⟨by decide +kernel, by decide +kernel, by decide +kernel⟩⟩
theorem cv_X6_290 : CV RX6 290 6 1 mX6_stir := ⟨wa_mem 1160 (by decide +kernel) rfl, wa_mem 1162 (by decide +kernel) rfl, wa_sel (by decide +kernel) rfl, wa_mem 8 (by decide +kernel) rfl, wa_mem 1163 (by decide +kernel) rfl, ⟨TX6, 13, rfl⟩, ⟨by decide +kernel, by decide +kernel, by decide +kernel⟩⟩
theorem fn_L_8 : FN RL 8 5 5 [.null, .null, .null, .null, .null] := ⟨RX5, TX5, tyX5, rfl, wsi_X5, wa_mem 16 (by decide +kernel) rfl, wa_mem 17 (by decide +kernel) rfl, wa_mem 1 (by decide +kernel) rfl, tyX5_ok, fun j hj => by match j, hj with | 0, _ => rfl | 1, _ => rfl | 2, _ => rfl | 3, _ => rfl | 4, _ => rfl | q + 5, h => omega⟩
theorem fn_L_92 : FN RL 92 6 13 [.int 0, .null, .null, .null, .null, .int 0, .null, .null, .null, .int 0, .int 0, .int 0, .int 0] := ⟨RX6, TX6, tyX6, rfl, wsi_X6, wa_mem 786 (by decide +kernel) rfl, wa_mem 787 (by decide +kernel) rfl, wa_mem 8 (by decide +kernel) rfl, tyX6_ok, fun j hj => by match j, hj with | 0, _ => rfl | 1, _ => rfl | 2, _ => rfl | 3, _ => rfl | 4, _ => rfl | 5, _ => rfl | 6, _ => rfl | 7, _ => rfl | 8, _ => rfl | 9, _ => rfl | 10, _ => rfl | 11, _ => rfl | 12, _ => rfl | q + 13, h => omega⟩
theorem fn_X0_9 : FN RX0 9 1 2 [.null, .null] := ⟨RX1, TX1, tyX1, rfl, wsi_X1, wa_mem 128 (by decide +kernel) rfl, wa_mem 129 (by decide +kernel) rfl, wa_mem 7 (by decide +kernel) rfl, tyX1_ok, fun j hj => by match j, hj with | 0, _ => rfl | 1, _ => rfl | q + 2, h => omega⟩
theorem fn_X1_13 : FN RX1 13 4 10 [.null, .null, .null, .int 0, .int 0, .int 0, .int 0, .int 0, .int 0, .int 0] := ⟨RX4, TX4, tyX4, rfl, wsi_X4, wa_mem 135 (by decide +kernel) rfl, wa_mem 48 (by decide +kernel) rfl, wa_mem 3 (by decide +kernel) rfl, tyX4_ok, fun j hj => by match j, hj with | 0, _ => rfl | 1, _ => rfl | 2, _ => rfl | 3, _ => rfl | 4, _ => rfl | 5, _ => rfl | 6, _ => rfl | 7, _ => rfl | 8, _ => rfl | 9, _ => rfl | q + 10, h => omega⟩
theorem fn_X4_9 : FN RX4 9 2 3 [.int 0, .null, .int 0] := ⟨RX2, TX2, tyX2, rfl, wsi_X2, wa_mem 53 (by decide +kernel) rfl, wa_mem 54 (by decide +kernel) rfl, wa_mem 4 (by decide +kernel) rfl, tyX2_ok, fun j hj => by match j, hj with | 0, _ => rfl | 1, _ => rfl | 2, _ => rfl | q + 3, h => omega⟩
theorem fn_X5_7 : FN RX5 7 3 5 [.null, .null, .int 0, .int 0, .int 0] := ⟨RX3, TX3, tyX3, rfl, wsi_X3, wa_mem 24 (by decide +kernel) rfl, wa_mem 25 (by decide +kernel) rfl, wa_mem 2 (by decide +kernel) rfl, tyX3_ok, fun j hj => by match j, hj with | 0, _ => rfl | 1, _ => rfl | 2, _ => rfl | 3, _ => rfl | 4, _ => rfl | q + 5, h => omega⟩
theorem fn_X5_16 : FN RX5 16 4 10 [.null, .null, .null, .int 0, .int 0, .int 0, .int 0, .int 0, .int 0, .int 0] := ⟨RX4, TX4, tyX4, rfl, wsi_X4, wa_mem 47 (by decide +kernel) rfl, wa_mem 48 (by decide +kernel) rfl, wa_mem 3 (by decide +kernel) rfl, tyX4_ok, fun j hj => by match j, hj with | 0, _ => rfl | 1, _ => rfl | 2, _ => rfl | 3, _ => rfl | 4, _ => rfl | 5, _ => rfl | 6, _ => rfl | 7, _ => rfl | 8, _ => rfl | 9, _ => rfl | q + 10, h => omega⟩
theorem fn_X5_26 : FN RX5 26 0 3 [.null, .int 0, .int 0] := ⟨RX0, TX0, tyX0, rfl, wsi_X0, wa_mem 122 (by decide +kernel) rfl, wa_mem 123 (by decide +kernel) rfl, wa_mem 6 (by decide +kernel) rfl, tyX0_ok, fun j hj => by match j, hj with | 0, _ => rfl | 1, _ => rfl | 2, _ => rfl | q + 3, h => omega⟩
theorem fn_X5_33 : FN RX5 33 1 2 [.null, .null] := ⟨RX1, TX1, tyX1, rfl, wsi_X1, wa_mem 157 (by decide +kernel) rfl, wa_mem 129 (by decide +kernel) rfl, wa_mem 7 (by decide +kernel) rfl, tyX1_ok, fun j hj => by match j, hj with | 0, _ => rfl | 1, _ => rfl | q + 2, h => omega⟩

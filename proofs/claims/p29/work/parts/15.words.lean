def mL_about : MD := (yL_about, cL_about, 3, (some .long), 8, 133)
def mL_act : MD := (yL_act, cL_act, 4, (some .long), 9, 179)
def mL_alike : MD := (yL_alike, cL_alike, 3, (some .boolean), 10, 195)
def mL_append : MD := (yL_append, cL_append, 3, (some .long), 8, 133)
def mL_boat : MD := (yL_boat, cL_boat, 5, (some .long), 8, 153)
def mL_boatOf : MD := (yL_boatOf, cL_boatOf, 4, (some .long), 8, 134)
def mL_claim : MD := (yL_claim, cL_claim, 4, (some .long), 8, 153)
def mL_draw : MD := (yL_draw, cL_draw, 2, (some .int), 0, 0)
def mL_endsIn : MD := (yL_endsIn, cL_endsIn, 4, (some .long), 8, 142)
def mL_errors : MD := (yL_errors, cL_errors, 6, (some .boolean), 10, 195)
def mL_follows : MD := (yL_follows, cL_follows, 14, (some .boolean), 10, 193)
def mL_gutter : MD := (yL_gutter, cL_gutter, 6, (some .long), 8, 154)
def mL_gutterOf : MD := (yL_gutterOf, cL_gutterOf, 4, (some .long), 8, 134)
def mL_hook : MD := (yL_hook, cL_hook, 5, (some .long), 8, 153)
def mL_in : MD := (yL_in, cL_in, 6, (some .boolean), 0, 0)
def mL_kept : MD := (yL_kept, cL_kept, 18, (some .boolean), 9, 160)
def mL_launch : MD := (yL_launch, cL_launch, 4, (some .long), 8, 152)
def mL_leastFolds : MD := (yL_leastFolds, cL_leastFolds, 4, (some .long), 8, 142)
def mL_load : MD := (yL_load, cL_load, 2, (some .long), 8, 164)
def mL_minutes : MD := (yL_minutes, cL_minutes, 3, (some .long), 8, 151)
def mL_now : MD := (yL_now, cL_now, 5, (some .long), 9, 160)
def mL_ownerOf : MD := (yL_ownerOf, cL_ownerOf, 4, (some .long), 8, 137)
def mL_restore : MD := (yL_restore, cL_restore, 3, (some .long), 8, 133)
def mL_save : MD := (yL_save, cL_save, 3, (some .long), 8, 133)
def mL_says : MD := (yL_says, cL_says, 5, (some .boolean), 9, 155)
def mL_script : MD := (yL_script, cL_script, 5, (some .long), 8, 171)
def mL_set : MD := (yL_set, cL_set, 4, (some .long), 8, 152)
def mL_setting : MD := (yL_setting, cL_setting, 3, (some .long), 8, 133)
def mL_simulate : MD := (yL_simulate, cL_simulate, 5, (some .long), 8, 169)
def mL_told : MD := (yL_told, cL_told, 5, (some .boolean), 10, 179)
def mL_undo : MD := (yL_undo, cL_undo, 2, (some .long), 8, 150)
def mL_way : MD := (yL_way, cL_way, 5, (some .long), 8, 135)
def mL_why : MD := (yL_why, cL_why, 4, (some .long), 8, 134)
def mX0_forget : MD := (yX0_forget, cX0_forget, 1, none, 0, 0)
def mX0_init : MD := (yX0_init, cX0_init, 1, none, 4, 89)
def mX0_remember : MD := (yX0_remember, cX0_remember, 2, none, 4, 109)
def mX0_takeBack : MD := (yX0_takeBack, cX0_takeBack, 2, (some .int), 4, 109)
def mX1_clear : MD := (yX1_clear, cX1_clear, 2, none, 0, 0)
def mX1_copyTo : MD := (yX1_copyTo, cX1_copyTo, 4, none, 3, 86)
def mX1_holds : MD := (yX1_holds, cX1_holds, 2, (some .boolean), 0, 0)
def mX1_init : MD := (yX1_init, cX1_init, 4, none, 3, 66)
def mX1_keptAt : MD := (yX1_keptAt, cX1_keptAt, 2, (some (.object "GutterBoats$Tournament")), 0, 0)
def mX1_put : MD := (yX1_put, cX1_put, 4, none, 3, 86)
def mX2_addRow : MD := (yX2_addRow, cX2_addRow, 2, (some .int), 0, 0)
def mX2_at : MD := (yX2_at, cX2_at, 4, (some .int), 0, 0)
def mX2_copyFrom : MD := (yX2_copyFrom, cX2_copyFrom, 2, none, 1, 44)
def mX2_count : MD := (yX2_count, cX2_count, 5, (some .int), 1, 23)
def mX2_increase : MD := (yX2_increase, cX2_increase, 4, none, 1, 24)
def mX2_init : MD := (yX2_init, cX2_init, 3, none, 1, 21)
def mX2_put : MD := (yX2_put, cX2_put, 5, none, 0, 0)
def mX2_sum : MD := (yX2_sum, cX2_sum, 4, (some .int), 1, 23)
def mX3_add : MD := (yX3_add, cX3_add, 2, (some .int), 0, 0)
def mX3_atHand : MD := (yX3_atHand, cX3_atHand, 1, (some .int), 0, 0)
def mX3_firstError : MD := (yX3_firstError, cX3_firstError, 2, (some .int), 3, 69)
def mX3_init : MD := (yX3_init, cX3_init, 1, none, 1, 20)
def mX3_isFull : MD := (yX3_isFull, cX3_isFull, 1, (some .boolean), 0, 0)
def mX3_makeEmpty : MD := (yX3_makeEmpty, cX3_makeEmpty, 2, (some .int), 0, 0)
def mX3_numberAt : MD := (yX3_numberAt, cX3_numberAt, 2, (some .int), 0, 0)
def mX3_numbersBehind : MD := (yX3_numbersBehind, cX3_numbersBehind, 1, (some (.array .int)), 0, 0)
def mX3_readCommand : MD := (yX3_readCommand, cX3_readCommand, 4, (some .boolean), 2, 46)
def mX3_readNumber : MD := (yX3_readNumber, cX3_readNumber, 7, (some .int), 1, 20)
def mX3_runCommands : MD := (yX3_runCommands, cX3_runCommands, 4, (some .int), 5, 121)
def mX4_addBoat : MD := (yX4_addBoat, cX4_addBoat, 5, (some .int), 2, 46)
def mX4_addGutter : MD := (yX4_addGutter, cX4_addGutter, 6, (some .int), 1, 24)
def mX4_arrive : MD := (yX4_arrive, cX4_arrive, 3, none, 2, 47)
def mX4_boatFault : MD := (yX4_boatFault, cX4_boatFault, 4, (some .int), 1, 21)
def mX4_changeSetting : MD := (yX4_changeSetting, cX4_changeSetting, 4, (some .int), 1, 21)
def mX4_claimFault : MD := (yX4_claimFault, cX4_claimFault, 3, (some .int), 1, 21)
def mX4_copyFrom : MD := (yX4_copyFrom, cX4_copyFrom, 2, none, 2, 65)
def mX4_countClaimable : MD := (yX4_countClaimable, cX4_countClaimable, 4, (some .int), 3, 70)
def mX4_countInGutter : MD := (yX4_countInGutter, cX4_countInGutter, 5, (some .int), 1, 23)
def mX4_driftsIntoDrain : MD := (yX4_driftsIntoDrain, cX4_driftsIntoDrain, 6, (some .boolean), 2, 47)
def mX4_endHeat : MD := (yX4_endHeat, cX4_endHeat, 2, none, 2, 47)
def mX4_gutterFault : MD := (yX4_gutterFault, cX4_gutterFault, 5, (some .int), 2, 45)
def mX4_hasBoat : MD := (yX4_hasBoat, cX4_hasBoat, 2, (some .boolean), 0, 0)
def mX4_hasCell : MD := (yX4_hasCell, cX4_hasCell, 3, (some .boolean), 1, 23)
def mX4_hasGutter : MD := (yX4_hasGutter, cX4_hasGutter, 2, (some .boolean), 0, 0)
def mX4_hasOwner : MD := (yX4_hasOwner, cX4_hasOwner, 2, (some .boolean), 0, 0)
def mX4_hasWreck : MD := (yX4_hasWreck, cX4_hasWreck, 4, (some .boolean), 1, 23)
def mX4_hookDistance : MD := (yX4_hookDistance, cX4_hookDistance, 3, (some .int), 1, 23)
def mX4_hookFault : MD := (yX4_hookFault, cX4_hookFault, 4, (some .int), 2, 45)
def mX4_init : MD := (yX4_init, cX4_init, 1, none, 2, 46)
def mX4_launchBoat : MD := (yX4_launchBoat, cX4_launchBoat, 3, (some .int), 2, 49)
def mX4_launchFault : MD := (yX4_launchFault, cX4_launchFault, 3, (some .int), 1, 23)
def mX4_letHeatEnd : MD := (yX4_letHeatEnd, cX4_letHeatEnd, 2, none, 4, 96)
def mX4_lowestWreck : MD := (yX4_lowestWreck, cX4_lowestWreck, 3, (some .int), 2, 46)
def mX4_makeNew : MD := (yX4_makeNew, cX4_makeNew, 3, none, 1, 24)
def mX4_minutesFault : MD := (yX4_minutesFault, cX4_minutesFault, 2, (some .int), 0, 0)
def mX4_minutesUntilEnd : MD := (yX4_minutesUntilEnd, cX4_minutesUntilEnd, 3, (some .int), 4, 96)
def mX4_nextCell : MD := (yX4_nextCell, cX4_nextCell, 3, (some .int), 1, 23)
def mX4_nextGutter : MD := (yX4_nextGutter, cX4_nextGutter, 3, (some .int), 1, 23)
def mX4_number : MD := (yX4_number, cX4_number, 2, (some .int), 2, 47)
def mX4_numberOfGutter : MD := (yX4_numberOfGutter, cX4_numberOfGutter, 3, (some .int), 3, 68)
def mX4_numberOfOwner : MD := (yX4_numberOfOwner, cX4_numberOfOwner, 3, (some .int), 4, 93)
def mX4_passMinutes : MD := (yX4_passMinutes, cX4_passMinutes, 5, (some .int), 3, 72)
def mX4_perform : MD := (yX4_perform, cX4_perform, 6, (some .boolean), 4, 96)
def mX4_putHook : MD := (yX4_putHook, cX4_putHook, 4, none, 1, 24)
def mX4_reasonAgainst : MD := (yX4_reasonAgainst, cX4_reasonAgainst, 6, (some .int), 2, 45)
def mX4_settingFault : MD := (yX4_settingFault, cX4_settingFault, 5, (some .int), 0, 0)
def mX4_settingNow : MD := (yX4_settingNow, cX4_settingNow, 2, (some .int), 0, 0)
def mX4_soakLimit : MD := (yX4_soakLimit, cX4_soakLimit, 2, (some .int), 1, 23)
def mX4_soakUp : MD := (yX4_soakUp, cX4_soakUp, 2, none, 2, 47)
def mX4_takeOut : MD := (yX4_takeOut, cX4_takeOut, 3, none, 1, 24)
def mX4_takeWreck : MD := (yX4_takeWreck, cX4_takeWreck, 4, (some .int), 2, 47)
def mX4_wayByCells : MD := (yX4_wayByCells, cX4_wayByCells, 7, (some .int), 2, 45)
def mX4_wayByGutters : MD := (yX4_wayByGutters, cX4_wayByGutters, 7, (some .int), 1, 23)
def mX5_about : MD := (yX5_about, cX5_about, 2, (some .int), 7, 112)
def mX5_append : MD := (yX5_append, cX5_append, 2, (some .int), 7, 112)
def mX5_boat : MD := (yX5_boat, cX5_boat, 4, (some .int), 7, 130)
def mX5_boatOf : MD := (yX5_boatOf, cX5_boatOf, 3, (some .int), 7, 112)
def mX5_claim : MD := (yX5_claim, cX5_claim, 4, (some .int), 7, 130)
def mX5_clearText : MD := (yX5_clearText, cX5_clearText, 1, (some .int), 1, 21)
def mX5_endsIn : MD := (yX5_endsIn, cX5_endsIn, 5, (some .int), 7, 118)
def mX5_errorPosition : MD := (yX5_errorPosition, cX5_errorPosition, 1, (some .int), 4, 90)
def mX5_gutter : MD := (yX5_gutter, cX5_gutter, 5, (some .int), 7, 130)
def mX5_gutterOf : MD := (yX5_gutterOf, cX5_gutterOf, 3, (some .int), 7, 112)
def mX5_hook : MD := (yX5_hook, cX5_hook, 4, (some .int), 7, 130)
def mX5_init : MD := (yX5_init, cX5_init, 1, none, 5, 109)
def mX5_launch : MD := (yX5_launch, cX5_launch, 3, (some .int), 7, 130)
def mX5_leastFolds : MD := (yX5_leastFolds, cX5_leastFolds, 5, (some .int), 7, 118)
def mX5_load : MD := (yX5_load, cX5_load, 1, (some .int), 7, 144)
def mX5_minutes : MD := (yX5_minutes, cX5_minutes, 2, (some .int), 7, 130)
def mX5_ownerOf : MD := (yX5_ownerOf, cX5_ownerOf, 3, (some .int), 7, 115)
def mX5_restore : MD := (yX5_restore, cX5_restore, 2, (some .int), 7, 112)
def mX5_runScript : MD := (yX5_runScript, cX5_runScript, 5, (some .int), 7, 147)
def mX5_save : MD := (yX5_save, cX5_save, 2, (some .int), 7, 112)
def mX5_set : MD := (yX5_set, cX5_set, 3, (some .int), 7, 130)
def mX5_setting : MD := (yX5_setting, cX5_setting, 2, (some .int), 7, 112)
def mX5_simulate : MD := (yX5_simulate, cX5_simulate, 7, (some .int), 7, 143)
def mX5_succeeds : MD := (yX5_succeeds, cX5_succeeds, 7, (some .boolean), 5, 121)
def mX5_takeTurn : MD := (yX5_takeTurn, cX5_takeTurn, 3, none, 5, 121)
def mX5_throwFor : MD := (yX5_throwFor, cX5_throwFor, 1, none, 6, 92)
def mX5_undo : MD := (yX5_undo, cX5_undo, 1, (some .int), 7, 130)
def mX5_way : MD := (yX5_way, cX5_way, 4, (some .int), 7, 112)
def mX5_why : MD := (yX5_why, cX5_why, 3, (some .int), 7, 112)
def mX5_winner : MD := (yX5_winner, cX5_winner, 2, (some .int), 5, 117)
def mX5_withoutLowest : MD := (yX5_withoutLowest, cX5_withoutLowest, 6, (some .long), 0, 0)
theorem wsi_X0 : ∀ x ∈ u_ws RX0 TX0 3, x ∈ WA := by
  have h1 : ∀ x ∈ u_ws RX0 TX0 3, x ∈ lw_tbl := by decide +kernel
  have h2 : (u_ws RX0 TX0 3).all goodWord = true := by decide +kernel
  exact fun x hx => List.mem_filter.mpr ⟨h1 x hx, List.all_eq_true.mp h2 x hx⟩
theorem wsi_X1 : ∀ x ∈ u_ws RX1 TX1 2, x ∈ WA := by
  have h1 : ∀ x ∈ u_ws RX1 TX1 2, x ∈ lw_tbl := by decide +kernel
  have h2 : (u_ws RX1 TX1 2).all goodWord = true := by decide +kernel
  exact fun x hx => List.mem_filter.mpr ⟨h1 x hx, List.all_eq_true.mp h2 x hx⟩
theorem wsi_X2 : ∀ x ∈ u_ws RX2 TX2 3, x ∈ WA := by
  have h1 : ∀ x ∈ u_ws RX2 TX2 3, x ∈ lw_tbl := by decide +kernel
  have h2 : (u_ws RX2 TX2 3).all goodWord = true := by decide +kernel
  exact fun x hx => List.mem_filter.mpr ⟨h1 x hx, List.all_eq_true.mp h2 x hx⟩
theorem wsi_X3 : ∀ x ∈ u_ws RX3 TX3 5, x ∈ WA := by
  have h1 : ∀ x ∈ u_ws RX3 TX3 5, x ∈ lw_tbl := by decide +kernel
  have h2 : (u_ws RX3 TX3 5).all goodWord = true := by decide +kernel
  exact fun x hx => List.mem_filter.mpr ⟨h1 x hx, List.all_eq_true.mp h2 x hx⟩
theorem wsi_X4 : ∀ x ∈ u_ws RX4 TX4 10, x ∈ WA := by
  have h1 : ∀ x ∈ u_ws RX4 TX4 10, x ∈ lw_tbl := by decide +kernel
  have h2 : (u_ws RX4 TX4 10).all goodWord = true := by decide +kernel
  exact fun x hx => List.mem_filter.mpr ⟨h1 x hx, List.all_eq_true.mp h2 x hx⟩
theorem wsi_X5 : ∀ x ∈ u_ws RX5 TX5 5, x ∈ WA := by
  have h1 : ∀ x ∈ u_ws RX5 TX5 5, x ∈ lw_tbl := by decide +kernel
  have h2 : (u_ws RX5 TX5 5).all goodWord = true := by decide +kernel
  exact fun x hx => List.mem_filter.mpr ⟨h1 x hx, List.all_eq_true.mp h2 x hx⟩
theorem fp_X0_0 : FP 0 0 (.object "GutterBoats$Shelf") true := ⟨RX0, TX0, 3, tyX0, rfl, tyX0_ok, nmX0, rfl, rfl, rfl⟩
theorem fp_X0_1 : FP 0 1 (.int) false := ⟨RX0, TX0, 3, tyX0, rfl, tyX0_ok, nmX0, rfl, rfl, rfl⟩
theorem fp_X0_2 : FP 0 2 (.int) false := ⟨RX0, TX0, 3, tyX0, rfl, tyX0_ok, nmX0, rfl, rfl, rfl⟩
theorem fp_X1_0 : FP 1 0 (.array (.object "GutterBoats$Tournament")) true := ⟨RX1, TX1, 2, tyX1, rfl, tyX1_ok, nmX1, rfl, rfl, rfl⟩
theorem fp_X1_1 : FP 1 1 (.array .boolean) true := ⟨RX1, TX1, 2, tyX1, rfl, tyX1_ok, nmX1, rfl, rfl, rfl⟩
theorem fp_X2_0 : FP 2 0 (.int) true := ⟨RX2, TX2, 3, tyX2, rfl, tyX2_ok, nmX2, rfl, rfl, rfl⟩
theorem fp_X2_1 : FP 2 1 (.array .int) true := ⟨RX2, TX2, 3, tyX2, rfl, tyX2_ok, nmX2, rfl, rfl, rfl⟩
theorem fp_X2_2 : FP 2 2 (.int) false := ⟨RX2, TX2, 3, tyX2, rfl, tyX2_ok, nmX2, rfl, rfl, rfl⟩
theorem fp_X3_0 : FP 3 0 (.array .int) true := ⟨RX3, TX3, 5, tyX3, rfl, tyX3_ok, nmX3, rfl, rfl, rfl⟩
theorem fp_X3_1 : FP 3 1 (.array .int) true := ⟨RX3, TX3, 5, tyX3, rfl, tyX3_ok, nmX3, rfl, rfl, rfl⟩
theorem fp_X3_2 : FP 3 2 (.int) false := ⟨RX3, TX3, 5, tyX3, rfl, tyX3_ok, nmX3, rfl, rfl, rfl⟩
theorem fp_X3_3 : FP 3 3 (.int) false := ⟨RX3, TX3, 5, tyX3, rfl, tyX3_ok, nmX3, rfl, rfl, rfl⟩
theorem fp_X3_4 : FP 3 4 (.int) false := ⟨RX3, TX3, 5, tyX3, rfl, tyX3_ok, nmX3, rfl, rfl, rfl⟩
theorem fp_X4_0 : FP 4 0 (.object "GutterBoats$Table") true := ⟨RX4, TX4, 10, tyX4, rfl, tyX4_ok, nmX4, rfl, rfl, rfl⟩
theorem fp_X4_1 : FP 4 1 (.object "GutterBoats$Table") true := ⟨RX4, TX4, 10, tyX4, rfl, tyX4_ok, nmX4, rfl, rfl, rfl⟩
theorem fp_X4_2 : FP 4 2 (.object "GutterBoats$Table") true := ⟨RX4, TX4, 10, tyX4, rfl, tyX4_ok, nmX4, rfl, rfl, rfl⟩
theorem fp_X4_3 : FP 4 3 (.int) false := ⟨RX4, TX4, 10, tyX4, rfl, tyX4_ok, nmX4, rfl, rfl, rfl⟩
theorem fp_X4_4 : FP 4 4 (.int) false := ⟨RX4, TX4, 10, tyX4, rfl, tyX4_ok, nmX4, rfl, rfl, rfl⟩
theorem fp_X4_5 : FP 4 5 (.int) false := ⟨RX4, TX4, 10, tyX4, rfl, tyX4_ok, nmX4, rfl, rfl, rfl⟩
theorem fp_X4_6 : FP 4 6 (.int) false := ⟨RX4, TX4, 10, tyX4, rfl, tyX4_ok, nmX4, rfl, rfl, rfl⟩
theorem fp_X4_7 : FP 4 7 (.int) false := ⟨RX4, TX4, 10, tyX4, rfl, tyX4_ok, nmX4, rfl, rfl, rfl⟩
theorem fp_X4_8 : FP 4 8 (.boolean) false := ⟨RX4, TX4, 10, tyX4, rfl, tyX4_ok, nmX4, rfl, rfl, rfl⟩
theorem fp_X4_9 : FP 4 9 (.int) false := ⟨RX4, TX4, 10, tyX4, rfl, tyX4_ok, nmX4, rfl, rfl, rfl⟩
theorem fp_X5_0 : FP 5 0 (.object "GutterBoats$Text") true := ⟨RX5, TX5, 5, tyX5, rfl, tyX5_ok, nmX5, rfl, rfl, rfl⟩
theorem fp_X5_1 : FP 5 1 (.object "GutterBoats$Tournament") true := ⟨RX5, TX5, 5, tyX5, rfl, tyX5_ok, nmX5, rfl, rfl, rfl⟩
theorem fp_X5_2 : FP 5 2 (.object "GutterBoats$Tournament") true := ⟨RX5, TX5, 5, tyX5, rfl, tyX5_ok, nmX5, rfl, rfl, rfl⟩
theorem fp_X5_3 : FP 5 3 (.object "GutterBoats$History") true := ⟨RX5, TX5, 5, tyX5, rfl, tyX5_ok, nmX5, rfl, rfl, rfl⟩
theorem fp_X5_4 : FP 5 4 (.object "GutterBoats$Shelf") true := ⟨RX5, TX5, 5, tyX5, rfl, tyX5_ok, nmX5, rfl, rfl, rfl⟩
theorem fg_X5_10 : FG RX5 10 5 0 := ⟨RX5, TX5, 5, rfl, by decide, wsi_X5, Or.inl (wa_mem 158 (by decide +kernel) rfl)⟩
theorem fw_X5_10 : ∀ C T N, vwCl[5]? = some (C, T, N) → C = RX5 ∧ Cond.fieldLink RX5 10 (T 0).1 (T 0).2.1 (T 0).2.2.1 ∈ WA := fun C T N h => by
  have e : (RX5, TX5, 5) = (C, T, N) := Option.some.inj h
  cases e
  exact ⟨rfl, wa_mem 158 (by decide +kernel) rfl⟩
theorem fg_X5_19 : FG RX5 19 5 1 := ⟨RX5, TX5, 5, rfl, by decide, wsi_X5, Or.inl (wa_mem 159 (by decide +kernel) rfl)⟩
theorem fw_X5_19 : ∀ C T N, vwCl[5]? = some (C, T, N) → C = RX5 ∧ Cond.fieldLink RX5 19 (T 1).1 (T 1).2.1 (T 1).2.2.1 ∈ WA := fun C T N h => by
  have e : (RX5, TX5, 5) = (C, T, N) := Option.some.inj h
  cases e
  exact ⟨rfl, wa_mem 159 (by decide +kernel) rfl⟩
theorem fg_X5_23 : FG RX5 23 5 2 := ⟨RX5, TX5, 5, rfl, by decide, wsi_X5, Or.inl (wa_mem 160 (by decide +kernel) rfl)⟩
theorem fw_X5_23 : ∀ C T N, vwCl[5]? = some (C, T, N) → C = RX5 ∧ Cond.fieldLink RX5 23 (T 2).1 (T 2).2.1 (T 2).2.2.1 ∈ WA := fun C T N h => by
  have e : (RX5, TX5, 5) = (C, T, N) := Option.some.inj h
  cases e
  exact ⟨rfl, wa_mem 160 (by decide +kernel) rfl⟩
theorem fg_X5_29 : FG RX5 29 5 3 := ⟨RX5, TX5, 5, rfl, by decide, wsi_X5, Or.inl (wa_mem 161 (by decide +kernel) rfl)⟩
theorem fw_X5_29 : ∀ C T N, vwCl[5]? = some (C, T, N) → C = RX5 ∧ Cond.fieldLink RX5 29 (T 3).1 (T 3).2.1 (T 3).2.2.1 ∈ WA := fun C T N h => by
  have e : (RX5, TX5, 5) = (C, T, N) := Option.some.inj h
  cases e
  exact ⟨rfl, wa_mem 161 (by decide +kernel) rfl⟩
theorem fg_X5_38 : FG RX5 38 5 4 := ⟨RX5, TX5, 5, rfl, by decide, wsi_X5, Or.inl (wa_mem 162 (by decide +kernel) rfl)⟩
theorem fw_X5_38 : ∀ C T N, vwCl[5]? = some (C, T, N) → C = RX5 ∧ Cond.fieldLink RX5 38 (T 4).1 (T 4).2.1 (T 4).2.2.1 ∈ WA := fun C T N h => by
  have e : (RX5, TX5, 5) = (C, T, N) := Option.some.inj h
  cases e
  exact ⟨rfl, wa_mem 162 (by decide +kernel) rfl⟩
theorem fg_X5_90 : FG RX5 90 4 1 := ⟨RX4, TX4, 10, rfl, by decide, wsi_X4, Or.inr ⟨"GutterBoats", by decide +kernel⟩⟩
theorem fg_X5_161 : FG RX5 161 4 9 := ⟨RX4, TX4, 10, rfl, by decide, wsi_X4, Or.inr ⟨"GutterBoats", by decide +kernel⟩⟩
theorem fg_X5_177 : FG RX5 177 0 2 := ⟨RX0, TX0, 3, rfl, by decide, wsi_X0, Or.inr ⟨"GutterBoats", by decide +kernel⟩⟩
theorem fg_X5_192 : FG RX5 192 2 2 := ⟨RX2, TX2, 3, rfl, by decide, wsi_X2, Or.inr ⟨"GutterBoats", by decide +kernel⟩⟩
theorem fg_X5_211 : FG RX5 211 4 7 := ⟨RX4, TX4, 10, rfl, by decide, wsi_X4, Or.inr ⟨"GutterBoats", by decide +kernel⟩⟩
theorem fg_X5_214 : FG RX5 214 4 2 := ⟨RX4, TX4, 10, rfl, by decide, wsi_X4, Or.inr ⟨"GutterBoats", by decide +kernel⟩⟩
theorem fg_X5_226 : FG RX5 226 4 6 := ⟨RX4, TX4, 10, rfl, by decide, wsi_X4, Or.inr ⟨"GutterBoats", by decide +kernel⟩⟩
theorem fg_X0_14 : FG RX0 14 0 0 := ⟨RX0, TX0, 3, rfl, by decide, wsi_X0, Or.inl (wa_mem 145 (by decide +kernel) rfl)⟩
theorem fw_X0_14 : ∀ C T N, vwCl[0]? = some (C, T, N) → C = RX0 ∧ Cond.fieldLink RX0 14 (T 0).1 (T 0).2.1 (T 0).2.2.1 ∈ WA := fun C T N h => by
  have e : (RX0, TX0, 3) = (C, T, N) := Option.some.inj h
  cases e
  exact ⟨rfl, wa_mem 145 (by decide +kernel) rfl⟩
theorem fg_X0_20 : FG RX0 20 0 1 := ⟨RX0, TX0, 3, rfl, by decide, wsi_X0, Or.inl (wa_mem 146 (by decide +kernel) rfl)⟩
theorem fg_X0_28 : FG RX0 28 0 2 := ⟨RX0, TX0, 3, rfl, by decide, wsi_X0, Or.inl (wa_mem 147 (by decide +kernel) rfl)⟩
theorem fg_X1_15 : FG RX1 15 1 0 := ⟨RX1, TX1, 2, rfl, by decide, wsi_X1, Or.inl (wa_mem 137 (by decide +kernel) rfl)⟩
theorem fw_X1_15 : ∀ C T N, vwCl[1]? = some (C, T, N) → C = RX1 ∧ Cond.fieldLink RX1 15 (T 0).1 (T 0).2.1 (T 0).2.2.1 ∈ WA := fun C T N h => by
  have e : (RX1, TX1, 2) = (C, T, N) := Option.some.inj h
  cases e
  exact ⟨rfl, wa_mem 137 (by decide +kernel) rfl⟩
theorem fg_X1_21 : FG RX1 21 1 1 := ⟨RX1, TX1, 2, rfl, by decide, wsi_X1, Or.inl (wa_mem 138 (by decide +kernel) rfl)⟩
theorem fw_X1_21 : ∀ C T N, vwCl[1]? = some (C, T, N) → C = RX1 ∧ Cond.fieldLink RX1 21 (T 1).1 (T 1).2.1 (T 1).2.2.1 ∈ WA := fun C T N h => by
  have e : (RX1, TX1, 2) = (C, T, N) := Option.some.inj h
  cases e
  exact ⟨rfl, wa_mem 138 (by decide +kernel) rfl⟩
theorem fg_X2_15 : FG RX2 15 2 0 := ⟨RX2, TX2, 3, rfl, by decide, wsi_X2, Or.inl (wa_mem 61 (by decide +kernel) rfl)⟩
theorem fw_X2_15 : ∀ C T N, vwCl[2]? = some (C, T, N) → C = RX2 ∧ Cond.fieldLink RX2 15 (T 0).1 (T 0).2.1 (T 0).2.2.1 ∈ WA := fun C T N h => by
  have e : (RX2, TX2, 3) = (C, T, N) := Option.some.inj h
  cases e
  exact ⟨rfl, wa_mem 61 (by decide +kernel) rfl⟩
theorem fg_X2_21 : FG RX2 21 2 1 := ⟨RX2, TX2, 3, rfl, by decide, wsi_X2, Or.inl (wa_mem 62 (by decide +kernel) rfl)⟩
theorem fw_X2_21 : ∀ C T N, vwCl[2]? = some (C, T, N) → C = RX2 ∧ Cond.fieldLink RX2 21 (T 1).1 (T 1).2.1 (T 1).2.2.1 ∈ WA := fun C T N h => by
  have e : (RX2, TX2, 3) = (C, T, N) := Option.some.inj h
  cases e
  exact ⟨rfl, wa_mem 62 (by decide +kernel) rfl⟩
theorem fg_X2_25 : FG RX2 25 2 2 := ⟨RX2, TX2, 3, rfl, by decide, wsi_X2, Or.inl (wa_mem 63 (by decide +kernel) rfl)⟩
theorem fg_X3_9 : FG RX3 9 3 0 := ⟨RX3, TX3, 5, rfl, by decide, wsi_X3, Or.inl (wa_mem 29 (by decide +kernel) rfl)⟩
theorem fw_X3_9 : ∀ C T N, vwCl[3]? = some (C, T, N) → C = RX3 ∧ Cond.fieldLink RX3 9 (T 0).1 (T 0).2.1 (T 0).2.2.1 ∈ WA := fun C T N h => by
  have e : (RX3, TX3, 5) = (C, T, N) := Option.some.inj h
  cases e
  exact ⟨rfl, wa_mem 29 (by decide +kernel) rfl⟩
theorem fg_X3_15 : FG RX3 15 3 1 := ⟨RX3, TX3, 5, rfl, by decide, wsi_X3, Or.inl (wa_mem 30 (by decide +kernel) rfl)⟩
theorem fw_X3_15 : ∀ C T N, vwCl[3]? = some (C, T, N) → C = RX3 ∧ Cond.fieldLink RX3 15 (T 1).1 (T 1).2.1 (T 1).2.2.1 ∈ WA := fun C T N h => by
  have e : (RX3, TX3, 5) = (C, T, N) := Option.some.inj h
  cases e
  exact ⟨rfl, wa_mem 30 (by decide +kernel) rfl⟩
theorem fg_X3_18 : FG RX3 18 3 2 := ⟨RX3, TX3, 5, rfl, by decide, wsi_X3, Or.inl (wa_mem 31 (by decide +kernel) rfl)⟩
theorem fg_X3_22 : FG RX3 22 3 3 := ⟨RX3, TX3, 5, rfl, by decide, wsi_X3, Or.inl (wa_mem 32 (by decide +kernel) rfl)⟩
theorem fg_X3_33 : FG RX3 33 3 4 := ⟨RX3, TX3, 5, rfl, by decide, wsi_X3, Or.inl (wa_mem 33 (by decide +kernel) rfl)⟩
theorem fg_X4_14 : FG RX4 14 4 0 := ⟨RX4, TX4, 10, rfl, by decide, wsi_X4, Or.inl (wa_mem 85 (by decide +kernel) rfl)⟩
theorem fw_X4_14 : ∀ C T N, vwCl[4]? = some (C, T, N) → C = RX4 ∧ Cond.fieldLink RX4 14 (T 0).1 (T 0).2.1 (T 0).2.2.1 ∈ WA := fun C T N h => by
  have e : (RX4, TX4, 10) = (C, T, N) := Option.some.inj h
  cases e
  exact ⟨rfl, wa_mem 85 (by decide +kernel) rfl⟩
theorem fg_X4_20 : FG RX4 20 4 1 := ⟨RX4, TX4, 10, rfl, by decide, wsi_X4, Or.inl (wa_mem 86 (by decide +kernel) rfl)⟩
theorem fw_X4_20 : ∀ C T N, vwCl[4]? = some (C, T, N) → C = RX4 ∧ Cond.fieldLink RX4 20 (T 1).1 (T 1).2.1 (T 1).2.2.1 ∈ WA := fun C T N h => by
  have e : (RX4, TX4, 10) = (C, T, N) := Option.some.inj h
  cases e
  exact ⟨rfl, wa_mem 86 (by decide +kernel) rfl⟩
theorem fg_X4_23 : FG RX4 23 4 2 := ⟨RX4, TX4, 10, rfl, by decide, wsi_X4, Or.inl (wa_mem 88 (by decide +kernel) rfl)⟩
theorem fw_X4_23 : ∀ C T N, vwCl[4]? = some (C, T, N) → C = RX4 ∧ Cond.fieldLink RX4 23 (T 2).1 (T 2).2.1 (T 2).2.2.1 ∈ WA := fun C T N h => by
  have e : (RX4, TX4, 10) = (C, T, N) := Option.some.inj h
  cases e
  exact ⟨rfl, wa_mem 88 (by decide +kernel) rfl⟩
theorem fg_X4_29 : FG RX4 29 2 2 := ⟨RX2, TX2, 3, rfl, by decide, wsi_X2, Or.inr ⟨"GutterBoats", by decide +kernel⟩⟩
theorem fg_X4_41 : FG RX4 41 4 3 := ⟨RX4, TX4, 10, rfl, by decide, wsi_X4, Or.inl (wa_mem 90 (by decide +kernel) rfl)⟩
theorem fg_X4_44 : FG RX4 44 4 4 := ⟨RX4, TX4, 10, rfl, by decide, wsi_X4, Or.inl (wa_mem 91 (by decide +kernel) rfl)⟩
theorem fg_X4_47 : FG RX4 47 4 5 := ⟨RX4, TX4, 10, rfl, by decide, wsi_X4, Or.inl (wa_mem 92 (by decide +kernel) rfl)⟩
theorem fg_X4_50 : FG RX4 50 4 6 := ⟨RX4, TX4, 10, rfl, by decide, wsi_X4, Or.inl (wa_mem 93 (by decide +kernel) rfl)⟩
theorem fg_X4_53 : FG RX4 53 4 7 := ⟨RX4, TX4, 10, rfl, by decide, wsi_X4, Or.inl (wa_mem 95 (by decide +kernel) rfl)⟩
theorem fg_X4_56 : FG RX4 56 4 8 := ⟨RX4, TX4, 10, rfl, by decide, wsi_X4, Or.inl (wa_mem 97 (by decide +kernel) rfl)⟩
theorem fg_X4_60 : FG RX4 60 4 9 := ⟨RX4, TX4, 10, rfl, by decide, wsi_X4, Or.inl (wa_mem 98 (by decide +kernel) rfl)⟩
theorem so_X3_54 : Cond.fieldLink RX3 54 "GutterBoats" (soN 0) "[I" ∈ WA ∨ ∃ host, (RX3, 54, "GutterBoats", soN 0, "[I", host) ∈ nsts := Or.inr ⟨"GutterBoats", by decide +kernel⟩
theorem so_X3_57 : Cond.fieldLink RX3 57 "GutterBoats" (soN 1) "[I" ∈ WA ∨ ∃ host, (RX3, 57, "GutterBoats", soN 1, "[I", host) ∈ nsts := Or.inr ⟨"GutterBoats", by decide +kernel⟩
theorem so_X3_60 : Cond.fieldLink RX3 60 "GutterBoats" (soN 2) "[I" ∈ WA ∨ ∃ host, (RX3, 60, "GutterBoats", soN 2, "[I", host) ∈ nsts := Or.inr ⟨"GutterBoats", by decide +kernel⟩
theorem so_X3_63 : Cond.fieldLink RX3 63 "GutterBoats" (soN 3) "[I" ∈ WA ∨ ∃ host, (RX3, 63, "GutterBoats", soN 3, "[I", host) ∈ nsts := Or.inr ⟨"GutterBoats", by decide +kernel⟩
theorem so_X3_66 : Cond.fieldLink RX3 66 "GutterBoats" (soN 4) "[I" ∈ WA ∨ ∃ host, (RX3, 66, "GutterBoats", soN 4, "[I", host) ∈ nsts := Or.inr ⟨"GutterBoats", by decide +kernel⟩
theorem so_X3_69 : Cond.fieldLink RX3 69 "GutterBoats" (soN 5) "[I" ∈ WA ∨ ∃ host, (RX3, 69, "GutterBoats", soN 5, "[I", host) ∈ nsts := Or.inr ⟨"GutterBoats", by decide +kernel⟩
theorem so_X3_72 : Cond.fieldLink RX3 72 "GutterBoats" (soN 6) "[I" ∈ WA ∨ ∃ host, (RX3, 72, "GutterBoats", soN 6, "[I", host) ∈ nsts := Or.inr ⟨"GutterBoats", by decide +kernel⟩
theorem so_X3_75 : Cond.fieldLink RX3 75 "GutterBoats" (soN 7) "[I" ∈ WA ∨ ∃ host, (RX3, 75, "GutterBoats", soN 7, "[I", host) ∈ nsts := Or.inr ⟨"GutterBoats", by decide +kernel⟩
theorem ci_L_195 : CI RL 195 0 mX5_init := ⟨wa_mem 17 (by decide +kernel) rfl, wa_mem 18 (by decide +kernel) rfl, wa_mem 1 (by decide +kernel) rfl, wa_mem 19 (by decide +kernel) rfl, rfl, rfl, ⟨by decide +kernel, by decide +kernel, by decide +kernel⟩⟩
theorem cs_L_119 : CS RL 119 1 mL_now := ⟨wa_mem 537 (by decide +kernel) rfl, wa_mem 538 (by decide +kernel) rfl, wa_mem 0 (by decide +kernel) rfl, wa_mem 539 (by decide +kernel) rfl, ⟨by decide +kernel, by decide +kernel, by decide +kernel⟩⟩
theorem cs_L_168 : CS RL 168 3 mL_in := ⟨wa_mem 777 (by decide +kernel) rfl, wa_mem 778 (by decide +kernel) rfl, wa_mem 0 (by decide +kernel) rfl, wa_mem 779 (by decide +kernel) rfl, ⟨by decide +kernel, by decide +kernel, by decide +kernel⟩⟩
theorem cs_L_191 : CS RL 191 5 mL_says := ⟨wa_mem 825 (by decide +kernel) rfl, wa_mem 826 (by decide +kernel) rfl, wa_mem 0 (by decide +kernel) rfl, wa_mem 827 (by decide +kernel) rfl, ⟨by decide +kernel, by decide +kernel, by decide +kernel⟩⟩
theorem cs_L_196 : CS RL 196 2 mL_draw := ⟨wa_mem 174 (by decide +kernel) rfl, wa_mem 175 (by decide +kernel) rfl, wa_mem 0 (by decide +kernel) rfl, wa_mem 176 (by decide +kernel) rfl, ⟨by decide +kernel, by decide +kernel, by decide +kernel⟩⟩
theorem cs_L_200 : CS RL 200 3 mL_alike := ⟨wa_mem 797 (by decide +kernel) rfl, wa_mem 798 (by decide +kernel) rfl, wa_mem 0 (by decide +kernel) rfl, wa_mem 799 (by decide +kernel) rfl, ⟨by decide +kernel, by decide +kernel, by decide +kernel⟩⟩
theorem cs_L_204 : CS RL 204 1 mL_errors := ⟨wa_mem 534 (by decide +kernel) rfl, wa_mem 535 (by decide +kernel) rfl, wa_mem 0 (by decide +kernel) rfl, wa_mem 536 tq_L_errors rfl, ⟨by decide +kernel, by decide +kernel, by decide +kernel⟩⟩
theorem cs_L_208 : CS RL 208 1 mL_kept := ⟨wa_mem 771 (by decide +kernel) rfl, wa_mem 772 (by decide +kernel) rfl, wa_mem 0 (by decide +kernel) rfl, wa_mem 773 tq_L_kept rfl, ⟨by decide +kernel, by decide +kernel, by decide +kernel⟩⟩
theorem cs_L_211 : CS RL 211 2 mL_told := ⟨wa_mem 814 (by decide +kernel) rfl, wa_mem 815 (by decide +kernel) rfl, wa_mem 0 (by decide +kernel) rfl, wa_mem 816 (by decide +kernel) rfl, ⟨by decide +kernel, by decide +kernel, by decide +kernel⟩⟩
theorem cs_L_217 : CS RL 217 3 mL_act := ⟨wa_mem 828 (by decide +kernel) rfl, wa_mem 829 (by decide +kernel) rfl, wa_mem 0 (by decide +kernel) rfl, wa_mem 830 (by decide +kernel) rfl, ⟨by decide +kernel, by decide +kernel, by decide +kernel⟩⟩
theorem cs_L_220 : CS RL 220 2 mL_follows := ⟨wa_mem 781 (by decide +kernel) rfl, wa_mem 782 (by decide +kernel) rfl, wa_mem 0 (by decide +kernel) rfl, wa_mem 783 tq_L_follows rfl, ⟨by decide +kernel, by decide +kernel, by decide +kernel⟩⟩
theorem cv_L_9 : CV RL 9 5 1 mX5_append := ⟨wa_mem 759 (by decide +kernel) rfl, wa_mem 760 (by decide +kernel) rfl, wa_mem 761 (by decide +kernel) rfl, wa_mem 1 (by decide +kernel) rfl, wa_mem 762 (by decide +kernel) rfl, ⟨TX5, 5, rfl⟩, ⟨by decide +kernel, by decide +kernel, by decide +kernel⟩⟩
theorem cv_L_23 : CV RL 23 5 0 mX5_load := ⟨wa_mem 183 (by decide +kernel) rfl, wa_mem 184 (by decide +kernel) rfl, wa_mem 185 (by decide +kernel) rfl, wa_mem 1 (by decide +kernel) rfl, wa_mem 186 (by decide +kernel) rfl, ⟨TX5, 5, rfl⟩, ⟨by decide +kernel, by decide +kernel, by decide +kernel⟩⟩
theorem cv_L_27 : CV RL 27 5 1 mX5_about := ⟨wa_mem 546 (by decide +kernel) rfl, wa_mem 547 (by decide +kernel) rfl, wa_mem 548 (by decide +kernel) rfl, wa_mem 1 (by decide +kernel) rfl, wa_mem 549 (by decide +kernel) rfl, ⟨TX5, 5, rfl⟩, ⟨by decide +kernel, by decide +kernel, by decide +kernel⟩⟩
theorem cv_L_30 : CV RL 30 5 2 mX5_gutterOf := ⟨wa_mem 571 (by decide +kernel) rfl, wa_mem 572 (by decide +kernel) rfl, wa_mem 573 (by decide +kernel) rfl, wa_mem 1 (by decide +kernel) rfl, wa_mem 574 (by decide +kernel) rfl, ⟨TX5, 5, rfl⟩, ⟨by decide +kernel, by decide +kernel, by decide +kernel⟩⟩
theorem cv_L_38 : CV RL 38 5 2 mX5_boatOf := ⟨wa_mem 591 (by decide +kernel) rfl, wa_mem 592 (by decide +kernel) rfl, wa_mem 593 (by decide +kernel) rfl, wa_mem 1 (by decide +kernel) rfl, wa_mem 594 (by decide +kernel) rfl, ⟨TX5, 5, rfl⟩, ⟨by decide +kernel, by decide +kernel, by decide +kernel⟩⟩
theorem cv_L_41 : CV RL 41 5 2 mX5_ownerOf := ⟨wa_mem 601 (by decide +kernel) rfl, wa_mem 602 (by decide +kernel) rfl, wa_mem 603 (by decide +kernel) rfl, wa_mem 1 (by decide +kernel) rfl, wa_mem 604 (by decide +kernel) rfl, ⟨TX5, 5, rfl⟩, ⟨by decide +kernel, by decide +kernel, by decide +kernel⟩⟩
theorem cv_L_44 : CV RL 44 5 3 mX5_way := ⟨wa_mem 617 (by decide +kernel) rfl, wa_mem 618 (by decide +kernel) rfl, wa_mem 619 (by decide +kernel) rfl, wa_mem 1 (by decide +kernel) rfl, wa_mem 620 (by decide +kernel) rfl, ⟨TX5, 5, rfl⟩, ⟨by decide +kernel, by decide +kernel, by decide +kernel⟩⟩
theorem cv_L_48 : CV RL 48 5 1 mX5_setting := ⟨wa_mem 563 (by decide +kernel) rfl, wa_mem 564 (by decide +kernel) rfl, wa_mem 565 (by decide +kernel) rfl, wa_mem 1 (by decide +kernel) rfl, wa_mem 566 (by decide +kernel) rfl, ⟨TX5, 5, rfl⟩, ⟨by decide +kernel, by decide +kernel, by decide +kernel⟩⟩
theorem cv_L_51 : CV RL 51 5 4 mX5_gutter := ⟨wa_mem 630 (by decide +kernel) rfl, wa_mem 631 (by decide +kernel) rfl, wa_mem 632 (by decide +kernel) rfl, wa_mem 1 (by decide +kernel) rfl, wa_mem 633 (by decide +kernel) rfl, ⟨TX5, 5, rfl⟩, ⟨by decide +kernel, by decide +kernel, by decide +kernel⟩⟩
theorem cv_L_55 : CV RL 55 5 3 mX5_boat := ⟨wa_mem 645 (by decide +kernel) rfl, wa_mem 646 (by decide +kernel) rfl, wa_mem 647 (by decide +kernel) rfl, wa_mem 1 (by decide +kernel) rfl, wa_mem 648 (by decide +kernel) rfl, ⟨TX5, 5, rfl⟩, ⟨by decide +kernel, by decide +kernel, by decide +kernel⟩⟩
theorem cv_L_58 : CV RL 58 5 2 mX5_launch := ⟨wa_mem 654 (by decide +kernel) rfl, wa_mem 655 (by decide +kernel) rfl, wa_mem 656 (by decide +kernel) rfl, wa_mem 1 (by decide +kernel) rfl, wa_mem 657 (by decide +kernel) rfl, ⟨TX5, 5, rfl⟩, ⟨by decide +kernel, by decide +kernel, by decide +kernel⟩⟩
theorem cv_L_61 : CV RL 61 5 3 mX5_hook := ⟨wa_mem 663 (by decide +kernel) rfl, wa_mem 664 (by decide +kernel) rfl, wa_mem 665 (by decide +kernel) rfl, wa_mem 1 (by decide +kernel) rfl, wa_mem 666 (by decide +kernel) rfl, ⟨TX5, 5, rfl⟩, ⟨by decide +kernel, by decide +kernel, by decide +kernel⟩⟩
theorem cv_L_64 : CV RL 64 5 2 mX5_claim := ⟨wa_mem 673 (by decide +kernel) rfl, wa_mem 674 (by decide +kernel) rfl, wa_mem 675 (by decide +kernel) rfl, wa_mem 1 (by decide +kernel) rfl, wa_mem 676 (by decide +kernel) rfl, ⟨TX5, 5, rfl⟩, ⟨by decide +kernel, by decide +kernel, by decide +kernel⟩⟩
theorem cv_L_67 : CV RL 67 5 1 mX5_minutes := ⟨wa_mem 683 (by decide +kernel) rfl, wa_mem 684 (by decide +kernel) rfl, wa_mem 685 (by decide +kernel) rfl, wa_mem 1 (by decide +kernel) rfl, wa_mem 686 (by decide +kernel) rfl, ⟨TX5, 5, rfl⟩, ⟨by decide +kernel, by decide +kernel, by decide +kernel⟩⟩
theorem cv_L_70 : CV RL 70 5 2 mX5_set := ⟨wa_mem 692 (by decide +kernel) rfl, wa_mem 693 (by decide +kernel) rfl, wa_mem 694 (by decide +kernel) rfl, wa_mem 1 (by decide +kernel) rfl, wa_mem 695 (by decide +kernel) rfl, ⟨TX5, 5, rfl⟩, ⟨by decide +kernel, by decide +kernel, by decide +kernel⟩⟩
theorem cv_L_73 : CV RL 73 5 0 mX5_undo := ⟨wa_mem 787 (by decide +kernel) rfl, wa_mem 788 (by decide +kernel) rfl, wa_mem 789 (by decide +kernel) rfl, wa_mem 1 (by decide +kernel) rfl, wa_mem 790 (by decide +kernel) rfl, ⟨TX5, 5, rfl⟩, ⟨by decide +kernel, by decide +kernel, by decide +kernel⟩⟩
theorem cv_L_76 : CV RL 76 5 2 mX5_why := ⟨wa_mem 701 (by decide +kernel) rfl, wa_mem 702 (by decide +kernel) rfl, wa_mem 703 (by decide +kernel) rfl, wa_mem 1 (by decide +kernel) rfl, wa_mem 704 (by decide +kernel) rfl, ⟨TX5, 5, rfl⟩, ⟨by decide +kernel, by decide +kernel, by decide +kernel⟩⟩
theorem cv_L_79 : CV RL 79 5 2 mX5_endsIn := ⟨wa_mem 708 (by decide +kernel) rfl, wa_mem 709 (by decide +kernel) rfl, wa_mem 710 (by decide +kernel) rfl, wa_mem 1 (by decide +kernel) rfl, wa_mem 711 (by decide +kernel) rfl, ⟨TX5, 5, rfl⟩, ⟨by decide +kernel, by decide +kernel, by decide +kernel⟩⟩
theorem cv_L_82 : CV RL 82 5 2 mX5_leastFolds := ⟨wa_mem 720 (by decide +kernel) rfl, wa_mem 721 (by decide +kernel) rfl, wa_mem 722 (by decide +kernel) rfl, wa_mem 1 (by decide +kernel) rfl, wa_mem 723 (by decide +kernel) rfl, ⟨TX5, 5, rfl⟩, ⟨by decide +kernel, by decide +kernel, by decide +kernel⟩⟩
theorem cv_L_85 : CV RL 85 5 2 mX5_runScript := ⟨wa_mem 727 (by decide +kernel) rfl, wa_mem 728 (by decide +kernel) rfl, wa_mem 729 (by decide +kernel) rfl, wa_mem 1 (by decide +kernel) rfl, wa_mem 730 (by decide +kernel) rfl, ⟨TX5, 5, rfl⟩, ⟨by decide +kernel, by decide +kernel, by decide +kernel⟩⟩
theorem cv_L_89 : CV RL 89 5 2 mX5_simulate := ⟨wa_mem 744 (by decide +kernel) rfl, wa_mem 745 (by decide +kernel) rfl, wa_mem 746 (by decide +kernel) rfl, wa_mem 1 (by decide +kernel) rfl, wa_mem 747 (by decide +kernel) rfl, ⟨TX5, 5, rfl⟩, ⟨by decide +kernel, by decide +kernel, by decide +kernel⟩⟩
theorem cv_L_93 : CV RL 93 5 1 mX5_save := ⟨wa_mem 492 (by decide +kernel) rfl, wa_mem 493 (by decide +kernel) rfl, wa_mem 494 (by decide +kernel) rfl, wa_mem 1 (by decide +kernel) rfl, wa_mem 495 (by decide +kernel) rfl, ⟨TX5, 5, rfl⟩, ⟨by decide +kernel, by decide +kernel, by decide +kernel⟩⟩
theorem cv_L_96 : CV RL 96 5 1 mX5_restore := ⟨wa_mem 522 (by decide +kernel) rfl, wa_mem 523 (by decide +kernel) rfl, wa_mem 524 (by decide +kernel) rfl, wa_mem 1 (by decide +kernel) rfl, wa_mem 525 (by decide +kernel) rfl, ⟨TX5, 5, rfl⟩, ⟨by decide +kernel, by decide +kernel, by decide +kernel⟩⟩
theorem cv_L_178 : CV RL 178 5 0 mX5_errorPosition := ⟨wa_mem 800 (by decide +kernel) rfl, wa_mem 801 (by decide +kernel) rfl, wa_mem 802 (by decide +kernel) rfl, wa_mem 1 (by decide +kernel) rfl, wa_mem 803 (by decide +kernel) rfl, ⟨TX5, 5, rfl⟩, ⟨by decide +kernel, by decide +kernel, by decide +kernel⟩⟩
theorem cv_L_181 : CV RL 181 5 0 mX5_winner := ⟨wa_mem 804 (by decide +kernel) rfl, wa_mem 805 (by decide +kernel) rfl, wa_mem 806 (by decide +kernel) rfl, wa_mem 1 (by decide +kernel) rfl, wa_mem 807 (by decide +kernel) rfl, ⟨TX5, 5, rfl⟩, ⟨by decide +kernel, by decide +kernel, by decide +kernel⟩⟩
theorem cv_L_188 : CV RL 188 5 0 mX5_clearText := ⟨wa_mem 817 (by decide +kernel) rfl, wa_mem 818 (by decide +kernel) rfl, wa_mem 819 (by decide +kernel) rfl, wa_mem 1 (by decide +kernel) rfl, wa_mem 820 (by decide +kernel) rfl, ⟨TX5, 5, rfl⟩, ⟨by decide +kernel, by decide +kernel, by decide +kernel⟩⟩
theorem ci_X0_11 : CI RX0 11 1 mX1_init := ⟨wa_mem 129 (by decide +kernel) rfl, wa_mem 130 (by decide +kernel) rfl, wa_mem 7 (by decide +kernel) rfl, wa_mem 131 (by decide +kernel) rfl, rfl, rfl, ⟨by decide +kernel, by decide +kernel, by decide +kernel⟩⟩
theorem cv_X0_24 : CV RX0 24 1 2 mX1_put := ⟨wa_mem 639 (by decide +kernel) rfl, wa_mem 497 (by decide +kernel) rfl, wa_mem 498 (by decide +kernel) rfl, wa_mem 7 (by decide +kernel) rfl, wa_mem 499 (by decide +kernel) rfl, ⟨TX1, 2, rfl⟩, ⟨by decide +kernel, by decide +kernel, by decide +kernel⟩⟩
theorem cv_X0_37 : CV RX0 37 1 2 mX1_copyTo := ⟨wa_mem 795 (by decide +kernel) rfl, wa_mem 531 (by decide +kernel) rfl, wa_mem 532 (by decide +kernel) rfl, wa_mem 7 (by decide +kernel) rfl, wa_mem 533 (by decide +kernel) rfl, ⟨TX1, 2, rfl⟩, ⟨by decide +kernel, by decide +kernel, by decide +kernel⟩⟩
theorem ci_X1_25 : CI RX1 25 0 mX4_init := ⟨wa_mem 136 (by decide +kernel) rfl, wa_mem 49 (by decide +kernel) rfl, wa_mem 3 (by decide +kernel) rfl, wa_mem 50 (by decide +kernel) rfl, rfl, rfl, ⟨by decide +kernel, by decide +kernel, by decide +kernel⟩⟩
theorem cv_X1_26 : CV RX1 26 1 1 mX1_keptAt := ⟨wa_mem 500 (by decide +kernel) rfl, wa_mem 502 (by decide +kernel) rfl, wa_sel (by decide +kernel) rfl, wa_mem 7 (by decide +kernel) rfl, wa_mem 503 (by decide +kernel) rfl, ⟨TX1, 2, rfl⟩, ⟨by decide +kernel, by decide +kernel, by decide +kernel⟩⟩
theorem cv_X1_30 : CV RX1 30 4 1 mX4_copyFrom := ⟨wa_mem 504 (by decide +kernel) rfl, wa_mem 505 (by decide +kernel) rfl, wa_mem 506 (by decide +kernel) rfl, wa_mem 3 (by decide +kernel) rfl, wa_mem 507 (by decide +kernel) rfl, ⟨TX4, 10, rfl⟩, ⟨by decide +kernel, by decide +kernel, by decide +kernel⟩⟩
theorem cv_X2_28 : CV RX2 28 2 2 mX2_at := ⟨wa_mem 398 (by decide +kernel) rfl, wa_mem 359 (by decide +kernel) rfl, wa_mem 360 (by decide +kernel) rfl, wa_mem 4 (by decide +kernel) rfl, wa_mem 361 (by decide +kernel) rfl, ⟨TX2, 3, rfl⟩, ⟨by decide +kernel, by decide +kernel, by decide +kernel⟩⟩
theorem cv_X2_31 : CV RX2 31 2 3 mX2_put := ⟨wa_mem 431 (by decide +kernel) rfl, wa_mem 82 (by decide +kernel) rfl, wa_mem 83 (by decide +kernel) rfl, wa_mem 4 (by decide +kernel) rfl, wa_mem 84 (by decide +kernel) rfl, ⟨TX2, 3, rfl⟩, ⟨by decide +kernel, by decide +kernel, by decide +kernel⟩⟩
theorem cs_X3_46 : CS RX3 46 1 mX3_numbersBehind := ⟨wa_mem 199 (by decide +kernel) rfl, wa_mem 200 (by decide +kernel) rfl, wa_mem 2 (by decide +kernel) rfl, wa_mem 201 (by decide +kernel) rfl, ⟨by decide +kernel, by decide +kernel, by decide +kernel⟩⟩
theorem cv_X3_25 : CV RX3 25 3 0 mX3_atHand := ⟨wa_mem 191 (by decide +kernel) rfl, wa_mem 193 (by decide +kernel) rfl, wa_sel (by decide +kernel) rfl, wa_mem 2 (by decide +kernel) rfl, wa_mem 194 (by decide +kernel) rfl, ⟨TX3, 5, rfl⟩, ⟨by decide +kernel, by decide +kernel, by decide +kernel⟩⟩
theorem cv_X3_29 : CV RX3 29 3 0 mX3_readCommand := ⟨wa_mem 195 (by decide +kernel) rfl, wa_mem 197 (by decide +kernel) rfl, wa_sel (by decide +kernel) rfl, wa_mem 2 (by decide +kernel) rfl, wa_mem 198 (by decide +kernel) rfl, ⟨TX3, 5, rfl⟩, ⟨by decide +kernel, by decide +kernel, by decide +kernel⟩⟩
theorem cv_X3_36 : CV RX3 36 3 1 mX3_numberAt := ⟨wa_mem 338 (by decide +kernel) rfl, wa_mem 340 (by decide +kernel) rfl, wa_sel (by decide +kernel) rfl, wa_mem 2 (by decide +kernel) rfl, wa_mem 341 (by decide +kernel) rfl, ⟨TX3, 5, rfl⟩, ⟨by decide +kernel, by decide +kernel, by decide +kernel⟩⟩
theorem cv_X3_40 : CV RX3 40 4 5 mX4_perform := ⟨wa_mem 342 (by decide +kernel) rfl, wa_mem 343 (by decide +kernel) rfl, wa_mem 344 (by decide +kernel) rfl, wa_mem 3 (by decide +kernel) rfl, wa_mem 345 (by decide +kernel) rfl, ⟨TX4, 10, rfl⟩, ⟨by decide +kernel, by decide +kernel, by decide +kernel⟩⟩
theorem cv_X3_50 : CV RX3 50 3 3 mX3_readNumber := ⟨wa_mem 218 (by decide +kernel) rfl, wa_mem 220 (by decide +kernel) rfl, wa_sel (by decide +kernel) rfl, wa_mem 2 (by decide +kernel) rfl, wa_mem 221 (by decide +kernel) rfl, ⟨TX3, 5, rfl⟩, ⟨by decide +kernel, by decide +kernel, by decide +kernel⟩⟩
theorem ci_X4_11 : CI RX4 11 2 mX2_init := ⟨wa_mem 54 (by decide +kernel) rfl, wa_mem 55 (by decide +kernel) rfl, wa_mem 4 (by decide +kernel) rfl, wa_mem 56 (by decide +kernel) rfl, rfl, rfl, ⟨by decide +kernel, by decide +kernel, by decide +kernel⟩⟩
theorem cv_X4_26 : CV RX4 26 4 0 mX4_makeNew := ⟨wa_mem 73 (by decide +kernel) rfl, wa_mem 74 (by decide +kernel) rfl, wa_mem 75 (by decide +kernel) rfl, wa_mem 3 (by decide +kernel) rfl, wa_mem 76 (by decide +kernel) rfl, ⟨TX4, 10, rfl⟩, ⟨by decide +kernel, by decide +kernel, by decide +kernel⟩⟩
theorem cv_X4_33 : CV RX4 33 2 0 mX2_addRow := ⟨wa_mem 77 (by decide +kernel) rfl, wa_mem 78 (by decide +kernel) rfl, wa_mem 79 (by decide +kernel) rfl, wa_mem 4 (by decide +kernel) rfl, wa_mem 80 (by decide +kernel) rfl, ⟨TX2, 3, rfl⟩, ⟨by decide +kernel, by decide +kernel, by decide +kernel⟩⟩
theorem cv_X4_37 : CV RX4 37 2 3 mX2_put := ⟨wa_mem 81 (by decide +kernel) rfl, wa_mem 82 (by decide +kernel) rfl, wa_mem 83 (by decide +kernel) rfl, wa_mem 4 (by decide +kernel) rfl, wa_mem 84 (by decide +kernel) rfl, ⟨TX2, 3, rfl⟩, ⟨by decide +kernel, by decide +kernel, by decide +kernel⟩⟩
theorem cv_X4_63 : CV RX4 63 2 1 mX2_copyFrom := ⟨wa_mem 508 (by decide +kernel) rfl, wa_mem 509 (by decide +kernel) rfl, wa_mem 510 (by decide +kernel) rfl, wa_mem 4 (by decide +kernel) rfl, wa_mem 511 (by decide +kernel) rfl, ⟨TX2, 3, rfl⟩, ⟨by decide +kernel, by decide +kernel, by decide +kernel⟩⟩
theorem cv_X4_67 : CV RX4 67 4 1 mX4_hasGutter := ⟨wa_mem 354 (by decide +kernel) rfl, wa_mem 355 (by decide +kernel) rfl, wa_mem 356 (by decide +kernel) rfl, wa_mem 3 (by decide +kernel) rfl, wa_mem 357 (by decide +kernel) rfl, ⟨TX4, 10, rfl⟩, ⟨by decide +kernel, by decide +kernel, by decide +kernel⟩⟩
theorem cv_X4_71 : CV RX4 71 2 2 mX2_at := ⟨wa_mem 358 (by decide +kernel) rfl, wa_mem 359 (by decide +kernel) rfl, wa_mem 360 (by decide +kernel) rfl, wa_mem 4 (by decide +kernel) rfl, wa_mem 361 (by decide +kernel) rfl, ⟨TX2, 3, rfl⟩, ⟨by decide +kernel, by decide +kernel, by decide +kernel⟩⟩
theorem cv_X4_75 : CV RX4 75 4 2 mX4_hasCell := ⟨wa_mem 350 (by decide +kernel) rfl, wa_mem 351 (by decide +kernel) rfl, wa_mem 352 (by decide +kernel) rfl, wa_mem 3 (by decide +kernel) rfl, wa_mem 353 (by decide +kernel) rfl, ⟨TX4, 10, rfl⟩, ⟨by decide +kernel, by decide +kernel, by decide +kernel⟩⟩
theorem cv_X4_79 : CV RX4 79 4 1 mX4_hasOwner := ⟨wa_mem 370 (by decide +kernel) rfl, wa_mem 371 (by decide +kernel) rfl, wa_mem 372 (by decide +kernel) rfl, wa_mem 3 (by decide +kernel) rfl, wa_mem 373 (by decide +kernel) rfl, ⟨TX4, 10, rfl⟩, ⟨by decide +kernel, by decide +kernel, by decide +kernel⟩⟩
theorem cv_X4_82 : CV RX4 82 4 1 mX4_hasBoat := ⟨wa_mem 386 (by decide +kernel) rfl, wa_mem 387 (by decide +kernel) rfl, wa_mem 388 (by decide +kernel) rfl, wa_mem 3 (by decide +kernel) rfl, wa_mem 389 (by decide +kernel) rfl, ⟨TX4, 10, rfl⟩, ⟨by decide +kernel, by decide +kernel, by decide +kernel⟩⟩
theorem cv_X4_85 : CV RX4 85 4 4 mX4_gutterFault := ⟨wa_mem 346 (by decide +kernel) rfl, wa_mem 347 (by decide +kernel) rfl, wa_mem 348 (by decide +kernel) rfl, wa_mem 3 (by decide +kernel) rfl, wa_mem 349 (by decide +kernel) rfl, ⟨TX4, 10, rfl⟩, ⟨by decide +kernel, by decide +kernel, by decide +kernel⟩⟩
theorem cv_X4_89 : CV RX4 89 4 4 mX4_addGutter := ⟨wa_mem 362 (by decide +kernel) rfl, wa_mem 363 (by decide +kernel) rfl, wa_mem 364 (by decide +kernel) rfl, wa_mem 3 (by decide +kernel) rfl, wa_mem 365 (by decide +kernel) rfl, ⟨TX4, 10, rfl⟩, ⟨by decide +kernel, by decide +kernel, by decide +kernel⟩⟩
theorem cv_X4_92 : CV RX4 92 4 3 mX4_boatFault := ⟨wa_mem 366 (by decide +kernel) rfl, wa_mem 367 (by decide +kernel) rfl, wa_mem 368 (by decide +kernel) rfl, wa_mem 3 (by decide +kernel) rfl, wa_mem 369 (by decide +kernel) rfl, ⟨TX4, 10, rfl⟩, ⟨by decide +kernel, by decide +kernel, by decide +kernel⟩⟩
theorem cv_X4_96 : CV RX4 96 4 3 mX4_addBoat := ⟨wa_mem 374 (by decide +kernel) rfl, wa_mem 375 (by decide +kernel) rfl, wa_mem 376 (by decide +kernel) rfl, wa_mem 3 (by decide +kernel) rfl, wa_mem 377 (by decide +kernel) rfl, ⟨TX4, 10, rfl⟩, ⟨by decide +kernel, by decide +kernel, by decide +kernel⟩⟩
theorem cv_X4_99 : CV RX4 99 4 2 mX4_launchFault := ⟨wa_mem 382 (by decide +kernel) rfl, wa_mem 383 (by decide +kernel) rfl, wa_mem 384 (by decide +kernel) rfl, wa_mem 3 (by decide +kernel) rfl, wa_mem 385 (by decide +kernel) rfl, ⟨TX4, 10, rfl⟩, ⟨by decide +kernel, by decide +kernel, by decide +kernel⟩⟩
theorem cv_X4_102 : CV RX4 102 4 2 mX4_launchBoat := ⟨wa_mem 390 (by decide +kernel) rfl, wa_mem 391 (by decide +kernel) rfl, wa_mem 392 (by decide +kernel) rfl, wa_mem 3 (by decide +kernel) rfl, wa_mem 393 (by decide +kernel) rfl, ⟨TX4, 10, rfl⟩, ⟨by decide +kernel, by decide +kernel, by decide +kernel⟩⟩
theorem cv_X4_105 : CV RX4 105 4 1 mX4_minutesFault := ⟨wa_mem 403 (by decide +kernel) rfl, wa_mem 404 (by decide +kernel) rfl, wa_mem 405 (by decide +kernel) rfl, wa_mem 3 (by decide +kernel) rfl, wa_mem 406 (by decide +kernel) rfl, ⟨TX4, 10, rfl⟩, ⟨by decide +kernel, by decide +kernel, by decide +kernel⟩⟩
theorem cv_X4_109 : CV RX4 109 4 1 mX4_passMinutes := ⟨wa_mem 407 (by decide +kernel) rfl, wa_mem 408 (by decide +kernel) rfl, wa_mem 409 (by decide +kernel) rfl, wa_mem 3 (by decide +kernel) rfl, wa_mem 410 (by decide +kernel) rfl, ⟨TX4, 10, rfl⟩, ⟨by decide +kernel, by decide +kernel, by decide +kernel⟩⟩
theorem cv_X4_112 : CV RX4 112 4 3 mX4_hookFault := ⟨wa_mem 448 (by decide +kernel) rfl, wa_mem 449 (by decide +kernel) rfl, wa_mem 450 (by decide +kernel) rfl, wa_mem 3 (by decide +kernel) rfl, wa_mem 451 (by decide +kernel) rfl, ⟨TX4, 10, rfl⟩, ⟨by decide +kernel, by decide +kernel, by decide +kernel⟩⟩
theorem cv_X4_115 : CV RX4 115 4 3 mX4_putHook := ⟨wa_mem 452 (by decide +kernel) rfl, wa_mem 453 (by decide +kernel) rfl, wa_mem 454 (by decide +kernel) rfl, wa_mem 3 (by decide +kernel) rfl, wa_mem 455 (by decide +kernel) rfl, ⟨TX4, 10, rfl⟩, ⟨by decide +kernel, by decide +kernel, by decide +kernel⟩⟩
theorem cv_X4_118 : CV RX4 118 4 2 mX4_claimFault := ⟨wa_mem 456 (by decide +kernel) rfl, wa_mem 457 (by decide +kernel) rfl, wa_mem 458 (by decide +kernel) rfl, wa_mem 3 (by decide +kernel) rfl, wa_mem 459 (by decide +kernel) rfl, ⟨TX4, 10, rfl⟩, ⟨by decide +kernel, by decide +kernel, by decide +kernel⟩⟩
theorem cv_X4_121 : CV RX4 121 4 2 mX4_reasonAgainst := ⟨wa_mem 460 (by decide +kernel) rfl, wa_mem 461 (by decide +kernel) rfl, wa_mem 462 (by decide +kernel) rfl, wa_mem 3 (by decide +kernel) rfl, wa_mem 463 (by decide +kernel) rfl, ⟨TX4, 10, rfl⟩, ⟨by decide +kernel, by decide +kernel, by decide +kernel⟩⟩
theorem cv_X4_124 : CV RX4 124 4 2 mX4_takeWreck := ⟨wa_mem 471 (by decide +kernel) rfl, wa_mem 472 (by decide +kernel) rfl, wa_mem 473 (by decide +kernel) rfl, wa_mem 3 (by decide +kernel) rfl, wa_mem 474 (by decide +kernel) rfl, ⟨TX4, 10, rfl⟩, ⟨by decide +kernel, by decide +kernel, by decide +kernel⟩⟩
theorem cv_X4_127 : CV RX4 127 4 2 mX4_settingFault := ⟨wa_mem 475 (by decide +kernel) rfl, wa_mem 476 (by decide +kernel) rfl, wa_mem 477 (by decide +kernel) rfl, wa_mem 3 (by decide +kernel) rfl, wa_mem 478 (by decide +kernel) rfl, ⟨TX4, 10, rfl⟩, ⟨by decide +kernel, by decide +kernel, by decide +kernel⟩⟩
theorem cv_X4_130 : CV RX4 130 4 2 mX4_changeSetting := ⟨wa_mem 479 (by decide +kernel) rfl, wa_mem 480 (by decide +kernel) rfl, wa_mem 481 (by decide +kernel) rfl, wa_mem 3 (by decide +kernel) rfl, wa_mem 482 (by decide +kernel) rfl, ⟨TX4, 10, rfl⟩, ⟨by decide +kernel, by decide +kernel, by decide +kernel⟩⟩
theorem cv_X4_133 : CV RX4 133 4 2 mX4_takeOut := ⟨wa_mem 378 (by decide +kernel) rfl, wa_mem 380 (by decide +kernel) rfl, wa_sel (by decide +kernel) rfl, wa_mem 3 (by decide +kernel) rfl, wa_mem 381 (by decide +kernel) rfl, ⟨TX4, 10, rfl⟩, ⟨by decide +kernel, by decide +kernel, by decide +kernel⟩⟩
theorem cv_X4_136 : CV RX4 136 2 2 mX2_count := ⟨wa_mem 394 (by decide +kernel) rfl, wa_mem 395 (by decide +kernel) rfl, wa_mem 396 (by decide +kernel) rfl, wa_mem 4 (by decide +kernel) rfl, wa_mem 397 (by decide +kernel) rfl, ⟨TX2, 3, rfl⟩, ⟨by decide +kernel, by decide +kernel, by decide +kernel⟩⟩
theorem cv_X4_139 : CV RX4 139 4 2 mX4_wayByGutters := ⟨wa_mem 399 (by decide +kernel) rfl, wa_mem 400 (by decide +kernel) rfl, wa_mem 401 (by decide +kernel) rfl, wa_mem 3 (by decide +kernel) rfl, wa_mem 402 (by decide +kernel) rfl, ⟨TX4, 10, rfl⟩, ⟨by decide +kernel, by decide +kernel, by decide +kernel⟩⟩
theorem cv_X4_142 : CV RX4 142 2 3 mX2_increase := ⟨wa_mem 427 (by decide +kernel) rfl, wa_mem 428 (by decide +kernel) rfl, wa_mem 429 (by decide +kernel) rfl, wa_mem 4 (by decide +kernel) rfl, wa_mem 430 (by decide +kernel) rfl, ⟨TX2, 3, rfl⟩, ⟨by decide +kernel, by decide +kernel, by decide +kernel⟩⟩
theorem cv_X4_145 : CV RX4 145 4 1 mX4_settingNow := ⟨wa_mem 483 (by decide +kernel) rfl, wa_mem 484 (by decide +kernel) rfl, wa_mem 485 (by decide +kernel) rfl, wa_mem 3 (by decide +kernel) rfl, wa_mem 486 (by decide +kernel) rfl, ⟨TX4, 10, rfl⟩, ⟨by decide +kernel, by decide +kernel, by decide +kernel⟩⟩
theorem cv_X4_148 : CV RX4 148 4 1 mX4_driftsIntoDrain := ⟨wa_mem 411 (by decide +kernel) rfl, wa_mem 413 (by decide +kernel) rfl, wa_sel (by decide +kernel) rfl, wa_mem 3 (by decide +kernel) rfl, wa_mem 414 (by decide +kernel) rfl, ⟨TX4, 10, rfl⟩, ⟨by decide +kernel, by decide +kernel, by decide +kernel⟩⟩
theorem cv_X4_151 : CV RX4 151 4 1 mX4_arrive := ⟨wa_mem 432 (by decide +kernel) rfl, wa_mem 434 (by decide +kernel) rfl, wa_sel (by decide +kernel) rfl, wa_mem 3 (by decide +kernel) rfl, wa_mem 435 (by decide +kernel) rfl, ⟨TX4, 10, rfl⟩, ⟨by decide +kernel, by decide +kernel, by decide +kernel⟩⟩
theorem cv_X4_155 : CV RX4 155 4 1 mX4_soakUp := ⟨wa_mem 436 (by decide +kernel) rfl, wa_mem 438 (by decide +kernel) rfl, wa_sel (by decide +kernel) rfl, wa_mem 3 (by decide +kernel) rfl, wa_mem 439 (by decide +kernel) rfl, ⟨TX4, 10, rfl⟩, ⟨by decide +kernel, by decide +kernel, by decide +kernel⟩⟩
theorem cv_X4_158 : CV RX4 158 4 0 mX4_endHeat := ⟨wa_mem 444 (by decide +kernel) rfl, wa_mem 446 (by decide +kernel) rfl, wa_sel (by decide +kernel) rfl, wa_mem 3 (by decide +kernel) rfl, wa_mem 447 (by decide +kernel) rfl, ⟨TX4, 10, rfl⟩, ⟨by decide +kernel, by decide +kernel, by decide +kernel⟩⟩
theorem cv_X4_161 : CV RX4 161 4 2 mX4_nextGutter := ⟨wa_mem 415 (by decide +kernel) rfl, wa_mem 417 (by decide +kernel) rfl, wa_sel (by decide +kernel) rfl, wa_mem 3 (by decide +kernel) rfl, wa_mem 418 (by decide +kernel) rfl, ⟨TX4, 10, rfl⟩, ⟨by decide +kernel, by decide +kernel, by decide +kernel⟩⟩
theorem cv_X4_164 : CV RX4 164 4 2 mX4_nextCell := ⟨wa_mem 419 (by decide +kernel) rfl, wa_mem 421 (by decide +kernel) rfl, wa_sel (by decide +kernel) rfl, wa_mem 3 (by decide +kernel) rfl, wa_mem 422 (by decide +kernel) rfl, ⟨TX4, 10, rfl⟩, ⟨by decide +kernel, by decide +kernel, by decide +kernel⟩⟩
theorem cv_X4_167 : CV RX4 167 4 2 mX4_hasWreck := ⟨wa_mem 423 (by decide +kernel) rfl, wa_mem 425 (by decide +kernel) rfl, wa_sel (by decide +kernel) rfl, wa_mem 3 (by decide +kernel) rfl, wa_mem 426 (by decide +kernel) rfl, ⟨TX4, 10, rfl⟩, ⟨by decide +kernel, by decide +kernel, by decide +kernel⟩⟩
theorem cv_X4_170 : CV RX4 170 4 1 mX4_soakLimit := ⟨wa_mem 440 (by decide +kernel) rfl, wa_mem 441 (by decide +kernel) rfl, wa_mem 442 (by decide +kernel) rfl, wa_mem 3 (by decide +kernel) rfl, wa_mem 443 (by decide +kernel) rfl, ⟨TX4, 10, rfl⟩, ⟨by decide +kernel, by decide +kernel, by decide +kernel⟩⟩
theorem cv_X4_173 : CV RX4 173 4 2 mX4_hookDistance := ⟨wa_mem 464 (by decide +kernel) rfl, wa_mem 466 (by decide +kernel) rfl, wa_sel (by decide +kernel) rfl, wa_mem 3 (by decide +kernel) rfl, wa_mem 467 (by decide +kernel) rfl, ⟨TX4, 10, rfl⟩, ⟨by decide +kernel, by decide +kernel, by decide +kernel⟩⟩
theorem cv_X4_181 : CV RX4 181 2 1 mX2_sum := ⟨wa_mem 554 (by decide +kernel) rfl, wa_mem 555 (by decide +kernel) rfl, wa_mem 556 (by decide +kernel) rfl, wa_mem 4 (by decide +kernel) rfl, wa_mem 557 (by decide +kernel) rfl, ⟨TX2, 3, rfl⟩, ⟨by decide +kernel, by decide +kernel, by decide +kernel⟩⟩
theorem cv_X4_184 : CV RX4 184 4 2 mX4_countInGutter := ⟨wa_mem 580 (by decide +kernel) rfl, wa_mem 582 (by decide +kernel) rfl, wa_sel (by decide +kernel) rfl, wa_mem 3 (by decide +kernel) rfl, wa_mem 583 (by decide +kernel) rfl, ⟨TX4, 10, rfl⟩, ⟨by decide +kernel, by decide +kernel, by decide +kernel⟩⟩
theorem cv_X4_187 : CV RX4 187 4 1 mX4_lowestWreck := ⟨wa_mem 584 (by decide +kernel) rfl, wa_mem 586 (by decide +kernel) rfl, wa_sel (by decide +kernel) rfl, wa_mem 3 (by decide +kernel) rfl, wa_mem 587 (by decide +kernel) rfl, ⟨TX4, 10, rfl⟩, ⟨by decide +kernel, by decide +kernel, by decide +kernel⟩⟩
theorem cv_X4_190 : CV RX4 190 4 1 mX4_countClaimable := ⟨wa_mem 610 (by decide +kernel) rfl, wa_mem 611 (by decide +kernel) rfl, wa_mem 612 (by decide +kernel) rfl, wa_mem 3 (by decide +kernel) rfl, wa_mem 613 (by decide +kernel) rfl, ⟨TX4, 10, rfl⟩, ⟨by decide +kernel, by decide +kernel, by decide +kernel⟩⟩
theorem ci_X5_9 : CI RX5 9 0 mX3_init := ⟨wa_mem 25 (by decide +kernel) rfl, wa_mem 26 (by decide +kernel) rfl, wa_mem 2 (by decide +kernel) rfl, wa_mem 27 (by decide +kernel) rfl, rfl, rfl, ⟨by decide +kernel, by decide +kernel, by decide +kernel⟩⟩
theorem ci_X5_18 : CI RX5 18 0 mX4_init := ⟨wa_mem 48 (by decide +kernel) rfl, wa_mem 49 (by decide +kernel) rfl, wa_mem 3 (by decide +kernel) rfl, wa_mem 50 (by decide +kernel) rfl, rfl, rfl, ⟨by decide +kernel, by decide +kernel, by decide +kernel⟩⟩
theorem ci_X5_28 : CI RX5 28 0 mX0_init := ⟨wa_mem 123 (by decide +kernel) rfl, wa_mem 124 (by decide +kernel) rfl, wa_mem 6 (by decide +kernel) rfl, wa_mem 125 (by decide +kernel) rfl, rfl, rfl, ⟨by decide +kernel, by decide +kernel, by decide +kernel⟩⟩
theorem ci_X5_35 : CI RX5 35 1 mX1_init := ⟨wa_mem 157 (by decide +kernel) rfl, wa_mem 130 (by decide +kernel) rfl, wa_mem 7 (by decide +kernel) rfl, wa_mem 131 (by decide +kernel) rfl, rfl, rfl, ⟨by decide +kernel, by decide +kernel, by decide +kernel⟩⟩
theorem cs_X5_42 : CS RX5 42 1 mX5_throwFor := ⟨wa_mem 222 (by decide +kernel) rfl, wa_mem 223 (by decide +kernel) rfl, wa_mem 1 (by decide +kernel) rfl, wa_mem 224 (by decide +kernel) rfl, ⟨by decide +kernel, by decide +kernel, by decide +kernel⟩⟩
theorem cs_X5_195 : CS RX5 195 2 mX5_withoutLowest := ⟨wa_mem 731 (by decide +kernel) rfl, wa_mem 732 (by decide +kernel) rfl, wa_mem 1 (by decide +kernel) rfl, wa_mem 733 (by decide +kernel) rfl, ⟨by decide +kernel, by decide +kernel, by decide +kernel⟩⟩
theorem cv_X5_45 : CV RX5 45 3 0 mX3_isFull := ⟨wa_mem 763 (by decide +kernel) rfl, wa_mem 764 (by decide +kernel) rfl, wa_mem 765 (by decide +kernel) rfl, wa_mem 2 (by decide +kernel) rfl, wa_mem 766 (by decide +kernel) rfl, ⟨TX3, 5, rfl⟩, ⟨by decide +kernel, by decide +kernel, by decide +kernel⟩⟩
theorem cv_X5_49 : CV RX5 49 3 1 mX3_add := ⟨wa_mem 767 (by decide +kernel) rfl, wa_mem 768 (by decide +kernel) rfl, wa_mem 769 (by decide +kernel) rfl, wa_mem 2 (by decide +kernel) rfl, wa_mem 770 (by decide +kernel) rfl, ⟨TX3, 5, rfl⟩, ⟨by decide +kernel, by decide +kernel, by decide +kernel⟩⟩
theorem cv_X5_53 : CV RX5 53 3 0 mX3_makeEmpty := ⟨wa_mem 821 (by decide +kernel) rfl, wa_mem 822 (by decide +kernel) rfl, wa_mem 823 (by decide +kernel) rfl, wa_mem 2 (by decide +kernel) rfl, wa_mem 824 (by decide +kernel) rfl, ⟨TX3, 5, rfl⟩, ⟨by decide +kernel, by decide +kernel, by decide +kernel⟩⟩
theorem cv_X5_57 : CV RX5 57 3 0 mX3_firstError := ⟨wa_mem 187 (by decide +kernel) rfl, wa_mem 188 (by decide +kernel) rfl, wa_mem 189 (by decide +kernel) rfl, wa_mem 2 (by decide +kernel) rfl, wa_mem 190 (by decide +kernel) rfl, ⟨TX3, 5, rfl⟩, ⟨by decide +kernel, by decide +kernel, by decide +kernel⟩⟩
theorem cv_X5_60 : CV RX5 60 4 0 mX4_makeNew := ⟨wa_mem 325 (by decide +kernel) rfl, wa_mem 74 (by decide +kernel) rfl, wa_mem 75 (by decide +kernel) rfl, wa_mem 3 (by decide +kernel) rfl, wa_mem 76 (by decide +kernel) rfl, ⟨TX4, 10, rfl⟩, ⟨by decide +kernel, by decide +kernel, by decide +kernel⟩⟩
theorem cv_X5_63 : CV RX5 63 0 0 mX0_forget := ⟨wa_mem 326 (by decide +kernel) rfl, wa_mem 327 (by decide +kernel) rfl, wa_mem 328 (by decide +kernel) rfl, wa_mem 6 (by decide +kernel) rfl, wa_mem 329 (by decide +kernel) rfl, ⟨TX0, 3, rfl⟩, ⟨by decide +kernel, by decide +kernel, by decide +kernel⟩⟩
theorem cv_X5_66 : CV RX5 66 1 0 mX1_clear := ⟨wa_mem 330 (by decide +kernel) rfl, wa_mem 331 (by decide +kernel) rfl, wa_mem 332 (by decide +kernel) rfl, wa_mem 7 (by decide +kernel) rfl, wa_mem 333 (by decide +kernel) rfl, ⟨TX1, 2, rfl⟩, ⟨by decide +kernel, by decide +kernel, by decide +kernel⟩⟩
theorem cv_X5_69 : CV RX5 69 3 1 mX3_runCommands := ⟨wa_mem 334 (by decide +kernel) rfl, wa_mem 335 (by decide +kernel) rfl, wa_mem 336 (by decide +kernel) rfl, wa_mem 2 (by decide +kernel) rfl, wa_mem 337 (by decide +kernel) rfl, ⟨TX3, 5, rfl⟩, ⟨by decide +kernel, by decide +kernel, by decide +kernel⟩⟩
theorem cv_X5_73 : CV RX5 73 4 1 mX4_number := ⟨wa_mem 550 (by decide +kernel) rfl, wa_mem 551 (by decide +kernel) rfl, wa_mem 552 (by decide +kernel) rfl, wa_mem 3 (by decide +kernel) rfl, wa_mem 553 (by decide +kernel) rfl, ⟨TX4, 10, rfl⟩, ⟨by decide +kernel, by decide +kernel, by decide +kernel⟩⟩
theorem cv_X5_76 : CV RX5 76 4 1 mX4_hasGutter := ⟨wa_mem 575 (by decide +kernel) rfl, wa_mem 355 (by decide +kernel) rfl, wa_mem 356 (by decide +kernel) rfl, wa_mem 3 (by decide +kernel) rfl, wa_mem 357 (by decide +kernel) rfl, ⟨TX4, 10, rfl⟩, ⟨by decide +kernel, by decide +kernel, by decide +kernel⟩⟩
theorem cv_X5_80 : CV RX5 80 4 2 mX4_numberOfGutter := ⟨wa_mem 576 (by decide +kernel) rfl, wa_mem 577 (by decide +kernel) rfl, wa_mem 578 (by decide +kernel) rfl, wa_mem 3 (by decide +kernel) rfl, wa_mem 579 (by decide +kernel) rfl, ⟨TX4, 10, rfl⟩, ⟨by decide +kernel, by decide +kernel, by decide +kernel⟩⟩
theorem cv_X5_84 : CV RX5 84 4 1 mX4_hasBoat := ⟨wa_mem 595 (by decide +kernel) rfl, wa_mem 387 (by decide +kernel) rfl, wa_mem 388 (by decide +kernel) rfl, wa_mem 3 (by decide +kernel) rfl, wa_mem 389 (by decide +kernel) rfl, ⟨TX4, 10, rfl⟩, ⟨by decide +kernel, by decide +kernel, by decide +kernel⟩⟩
theorem cv_X5_87 : CV RX5 87 4 1 mX4_soakLimit := ⟨wa_mem 596 (by decide +kernel) rfl, wa_mem 441 (by decide +kernel) rfl, wa_mem 442 (by decide +kernel) rfl, wa_mem 3 (by decide +kernel) rfl, wa_mem 443 (by decide +kernel) rfl, ⟨TX4, 10, rfl⟩, ⟨by decide +kernel, by decide +kernel, by decide +kernel⟩⟩
theorem cv_X5_94 : CV RX5 94 2 2 mX2_at := ⟨wa_mem 597 (by decide +kernel) rfl, wa_mem 359 (by decide +kernel) rfl, wa_mem 360 (by decide +kernel) rfl, wa_mem 4 (by decide +kernel) rfl, wa_mem 361 (by decide +kernel) rfl, ⟨TX2, 3, rfl⟩, ⟨by decide +kernel, by decide +kernel, by decide +kernel⟩⟩
theorem cv_X5_99 : CV RX5 99 4 1 mX4_hasOwner := ⟨wa_mem 605 (by decide +kernel) rfl, wa_mem 371 (by decide +kernel) rfl, wa_mem 372 (by decide +kernel) rfl, wa_mem 3 (by decide +kernel) rfl, wa_mem 373 (by decide +kernel) rfl, ⟨TX4, 10, rfl⟩, ⟨by decide +kernel, by decide +kernel, by decide +kernel⟩⟩
theorem cv_X5_102 : CV RX5 102 4 2 mX4_numberOfOwner := ⟨wa_mem 606 (by decide +kernel) rfl, wa_mem 607 (by decide +kernel) rfl, wa_mem 608 (by decide +kernel) rfl, wa_mem 3 (by decide +kernel) rfl, wa_mem 609 (by decide +kernel) rfl, ⟨TX4, 10, rfl⟩, ⟨by decide +kernel, by decide +kernel, by decide +kernel⟩⟩
theorem cv_X5_105 : CV RX5 105 4 2 mX4_hasCell := ⟨wa_mem 621 (by decide +kernel) rfl, wa_mem 351 (by decide +kernel) rfl, wa_mem 352 (by decide +kernel) rfl, wa_mem 3 (by decide +kernel) rfl, wa_mem 353 (by decide +kernel) rfl, ⟨TX4, 10, rfl⟩, ⟨by decide +kernel, by decide +kernel, by decide +kernel⟩⟩
theorem cv_X5_109 : CV RX5 109 4 2 mX4_wayByGutters := ⟨wa_mem 622 (by decide +kernel) rfl, wa_mem 400 (by decide +kernel) rfl, wa_mem 401 (by decide +kernel) rfl, wa_mem 3 (by decide +kernel) rfl, wa_mem 402 (by decide +kernel) rfl, ⟨TX4, 10, rfl⟩, ⟨by decide +kernel, by decide +kernel, by decide +kernel⟩⟩
theorem cv_X5_112 : CV RX5 112 4 2 mX4_wayByCells := ⟨wa_mem 623 (by decide +kernel) rfl, wa_mem 624 (by decide +kernel) rfl, wa_mem 625 (by decide +kernel) rfl, wa_mem 3 (by decide +kernel) rfl, wa_mem 626 (by decide +kernel) rfl, ⟨TX4, 10, rfl⟩, ⟨by decide +kernel, by decide +kernel, by decide +kernel⟩⟩
theorem cv_X5_115 : CV RX5 115 4 1 mX4_settingNow := ⟨wa_mem 567 (by decide +kernel) rfl, wa_mem 484 (by decide +kernel) rfl, wa_mem 485 (by decide +kernel) rfl, wa_mem 3 (by decide +kernel) rfl, wa_mem 486 (by decide +kernel) rfl, ⟨TX4, 10, rfl⟩, ⟨by decide +kernel, by decide +kernel, by decide +kernel⟩⟩
theorem cv_X5_118 : CV RX5 118 4 4 mX4_gutterFault := ⟨wa_mem 634 (by decide +kernel) rfl, wa_mem 347 (by decide +kernel) rfl, wa_mem 348 (by decide +kernel) rfl, wa_mem 3 (by decide +kernel) rfl, wa_mem 349 (by decide +kernel) rfl, ⟨TX4, 10, rfl⟩, ⟨by decide +kernel, by decide +kernel, by decide +kernel⟩⟩
theorem cv_X5_122 : CV RX5 122 0 1 mX0_remember := ⟨wa_mem 635 (by decide +kernel) rfl, wa_mem 636 (by decide +kernel) rfl, wa_mem 637 (by decide +kernel) rfl, wa_mem 6 (by decide +kernel) rfl, wa_mem 638 (by decide +kernel) rfl, ⟨TX0, 3, rfl⟩, ⟨by decide +kernel, by decide +kernel, by decide +kernel⟩⟩
theorem cv_X5_126 : CV RX5 126 4 4 mX4_addGutter := ⟨wa_mem 641 (by decide +kernel) rfl, wa_mem 363 (by decide +kernel) rfl, wa_mem 364 (by decide +kernel) rfl, wa_mem 3 (by decide +kernel) rfl, wa_mem 365 (by decide +kernel) rfl, ⟨TX4, 10, rfl⟩, ⟨by decide +kernel, by decide +kernel, by decide +kernel⟩⟩
theorem cv_X5_129 : CV RX5 129 4 3 mX4_boatFault := ⟨wa_mem 649 (by decide +kernel) rfl, wa_mem 367 (by decide +kernel) rfl, wa_mem 368 (by decide +kernel) rfl, wa_mem 3 (by decide +kernel) rfl, wa_mem 369 (by decide +kernel) rfl, ⟨TX4, 10, rfl⟩, ⟨by decide +kernel, by decide +kernel, by decide +kernel⟩⟩
theorem cv_X5_133 : CV RX5 133 4 3 mX4_addBoat := ⟨wa_mem 650 (by decide +kernel) rfl, wa_mem 375 (by decide +kernel) rfl, wa_mem 376 (by decide +kernel) rfl, wa_mem 3 (by decide +kernel) rfl, wa_mem 377 (by decide +kernel) rfl, ⟨TX4, 10, rfl⟩, ⟨by decide +kernel, by decide +kernel, by decide +kernel⟩⟩
theorem cv_X5_136 : CV RX5 136 4 2 mX4_launchFault := ⟨wa_mem 658 (by decide +kernel) rfl, wa_mem 383 (by decide +kernel) rfl, wa_mem 384 (by decide +kernel) rfl, wa_mem 3 (by decide +kernel) rfl, wa_mem 385 (by decide +kernel) rfl, ⟨TX4, 10, rfl⟩, ⟨by decide +kernel, by decide +kernel, by decide +kernel⟩⟩
theorem cv_X5_139 : CV RX5 139 4 2 mX4_launchBoat := ⟨wa_mem 659 (by decide +kernel) rfl, wa_mem 391 (by decide +kernel) rfl, wa_mem 392 (by decide +kernel) rfl, wa_mem 3 (by decide +kernel) rfl, wa_mem 393 (by decide +kernel) rfl, ⟨TX4, 10, rfl⟩, ⟨by decide +kernel, by decide +kernel, by decide +kernel⟩⟩
theorem cv_X5_142 : CV RX5 142 4 3 mX4_hookFault := ⟨wa_mem 667 (by decide +kernel) rfl, wa_mem 449 (by decide +kernel) rfl, wa_mem 450 (by decide +kernel) rfl, wa_mem 3 (by decide +kernel) rfl, wa_mem 451 (by decide +kernel) rfl, ⟨TX4, 10, rfl⟩, ⟨by decide +kernel, by decide +kernel, by decide +kernel⟩⟩
theorem cv_X5_145 : CV RX5 145 4 3 mX4_putHook := ⟨wa_mem 668 (by decide +kernel) rfl, wa_mem 453 (by decide +kernel) rfl, wa_mem 454 (by decide +kernel) rfl, wa_mem 3 (by decide +kernel) rfl, wa_mem 455 (by decide +kernel) rfl, ⟨TX4, 10, rfl⟩, ⟨by decide +kernel, by decide +kernel, by decide +kernel⟩⟩
theorem cv_X5_149 : CV RX5 149 4 1 mX4_countClaimable := ⟨wa_mem 669 (by decide +kernel) rfl, wa_mem 611 (by decide +kernel) rfl, wa_mem 612 (by decide +kernel) rfl, wa_mem 3 (by decide +kernel) rfl, wa_mem 613 (by decide +kernel) rfl, ⟨TX4, 10, rfl⟩, ⟨by decide +kernel, by decide +kernel, by decide +kernel⟩⟩
theorem cv_X5_152 : CV RX5 152 4 2 mX4_claimFault := ⟨wa_mem 677 (by decide +kernel) rfl, wa_mem 457 (by decide +kernel) rfl, wa_mem 458 (by decide +kernel) rfl, wa_mem 3 (by decide +kernel) rfl, wa_mem 459 (by decide +kernel) rfl, ⟨TX4, 10, rfl⟩, ⟨by decide +kernel, by decide +kernel, by decide +kernel⟩⟩
theorem cv_X5_155 : CV RX5 155 4 2 mX4_reasonAgainst := ⟨wa_mem 678 (by decide +kernel) rfl, wa_mem 461 (by decide +kernel) rfl, wa_mem 462 (by decide +kernel) rfl, wa_mem 3 (by decide +kernel) rfl, wa_mem 463 (by decide +kernel) rfl, ⟨TX4, 10, rfl⟩, ⟨by decide +kernel, by decide +kernel, by decide +kernel⟩⟩
theorem cv_X5_158 : CV RX5 158 4 2 mX4_takeWreck := ⟨wa_mem 679 (by decide +kernel) rfl, wa_mem 472 (by decide +kernel) rfl, wa_mem 473 (by decide +kernel) rfl, wa_mem 3 (by decide +kernel) rfl, wa_mem 474 (by decide +kernel) rfl, ⟨TX4, 10, rfl⟩, ⟨by decide +kernel, by decide +kernel, by decide +kernel⟩⟩
theorem cv_X5_165 : CV RX5 165 4 1 mX4_minutesFault := ⟨wa_mem 687 (by decide +kernel) rfl, wa_mem 404 (by decide +kernel) rfl, wa_mem 405 (by decide +kernel) rfl, wa_mem 3 (by decide +kernel) rfl, wa_mem 406 (by decide +kernel) rfl, ⟨TX4, 10, rfl⟩, ⟨by decide +kernel, by decide +kernel, by decide +kernel⟩⟩
theorem cv_X5_168 : CV RX5 168 4 1 mX4_passMinutes := ⟨wa_mem 688 (by decide +kernel) rfl, wa_mem 408 (by decide +kernel) rfl, wa_mem 409 (by decide +kernel) rfl, wa_mem 3 (by decide +kernel) rfl, wa_mem 410 (by decide +kernel) rfl, ⟨TX4, 10, rfl⟩, ⟨by decide +kernel, by decide +kernel, by decide +kernel⟩⟩
theorem cv_X5_171 : CV RX5 171 4 2 mX4_settingFault := ⟨wa_mem 696 (by decide +kernel) rfl, wa_mem 476 (by decide +kernel) rfl, wa_mem 477 (by decide +kernel) rfl, wa_mem 3 (by decide +kernel) rfl, wa_mem 478 (by decide +kernel) rfl, ⟨TX4, 10, rfl⟩, ⟨by decide +kernel, by decide +kernel, by decide +kernel⟩⟩
theorem cv_X5_174 : CV RX5 174 4 2 mX4_changeSetting := ⟨wa_mem 697 (by decide +kernel) rfl, wa_mem 480 (by decide +kernel) rfl, wa_mem 481 (by decide +kernel) rfl, wa_mem 3 (by decide +kernel) rfl, wa_mem 482 (by decide +kernel) rfl, ⟨TX4, 10, rfl⟩, ⟨by decide +kernel, by decide +kernel, by decide +kernel⟩⟩
theorem cv_X5_180 : CV RX5 180 0 1 mX0_takeBack := ⟨wa_mem 791 (by decide +kernel) rfl, wa_mem 792 (by decide +kernel) rfl, wa_mem 793 (by decide +kernel) rfl, wa_mem 6 (by decide +kernel) rfl, wa_mem 794 (by decide +kernel) rfl, ⟨TX0, 3, rfl⟩, ⟨by decide +kernel, by decide +kernel, by decide +kernel⟩⟩
theorem cv_X5_183 : CV RX5 183 4 1 mX4_copyFrom := ⟨wa_mem 712 (by decide +kernel) rfl, wa_mem 505 (by decide +kernel) rfl, wa_mem 506 (by decide +kernel) rfl, wa_mem 3 (by decide +kernel) rfl, wa_mem 507 (by decide +kernel) rfl, ⟨TX4, 10, rfl⟩, ⟨by decide +kernel, by decide +kernel, by decide +kernel⟩⟩
theorem cv_X5_186 : CV RX5 186 4 1 mX4_minutesUntilEnd := ⟨wa_mem 713 (by decide +kernel) rfl, wa_mem 714 (by decide +kernel) rfl, wa_mem 715 (by decide +kernel) rfl, wa_mem 3 (by decide +kernel) rfl, wa_mem 716 (by decide +kernel) rfl, ⟨TX4, 10, rfl⟩, ⟨by decide +kernel, by decide +kernel, by decide +kernel⟩⟩
theorem cv_X5_189 : CV RX5 189 4 0 mX4_letHeatEnd := ⟨wa_mem 808 (by decide +kernel) rfl, wa_mem 809 (by decide +kernel) rfl, wa_mem 810 (by decide +kernel) rfl, wa_mem 3 (by decide +kernel) rfl, wa_mem 811 (by decide +kernel) rfl, ⟨TX4, 10, rfl⟩, ⟨by decide +kernel, by decide +kernel, by decide +kernel⟩⟩
theorem cv_X5_201 : CV RX5 201 5 1 mX5_succeeds := ⟨wa_mem 735 (by decide +kernel) rfl, wa_mem 737 (by decide +kernel) rfl, wa_sel (by decide +kernel) rfl, wa_mem 1 (by decide +kernel) rfl, wa_mem 738 (by decide +kernel) rfl, ⟨TX5, 5, rfl⟩, ⟨by decide +kernel, by decide +kernel, by decide +kernel⟩⟩
theorem cv_X5_208 : CV RX5 208 5 1 mX5_takeTurn := ⟨wa_mem 750 (by decide +kernel) rfl, wa_mem 752 (by decide +kernel) rfl, wa_sel (by decide +kernel) rfl, wa_mem 1 (by decide +kernel) rfl, wa_mem 753 (by decide +kernel) rfl, ⟨TX5, 5, rfl⟩, ⟨by decide +kernel, by decide +kernel, by decide +kernel⟩⟩
theorem cv_X5_217 : CV RX5 217 2 1 mX2_sum := ⟨wa_mem 754 (by decide +kernel) rfl, wa_mem 555 (by decide +kernel) rfl, wa_mem 556 (by decide +kernel) rfl, wa_mem 4 (by decide +kernel) rfl, wa_mem 557 (by decide +kernel) rfl, ⟨TX2, 3, rfl⟩, ⟨by decide +kernel, by decide +kernel, by decide +kernel⟩⟩
theorem cv_X5_220 : CV RX5 220 2 2 mX2_count := ⟨wa_mem 755 (by decide +kernel) rfl, wa_mem 395 (by decide +kernel) rfl, wa_mem 396 (by decide +kernel) rfl, wa_mem 4 (by decide +kernel) rfl, wa_mem 397 (by decide +kernel) rfl, ⟨TX2, 3, rfl⟩, ⟨by decide +kernel, by decide +kernel, by decide +kernel⟩⟩
theorem cv_X5_222 : CV RX5 222 1 2 mX1_put := ⟨wa_mem 496 (by decide +kernel) rfl, wa_mem 497 (by decide +kernel) rfl, wa_mem 498 (by decide +kernel) rfl, wa_mem 7 (by decide +kernel) rfl, wa_mem 499 (by decide +kernel) rfl, ⟨TX1, 2, rfl⟩, ⟨by decide +kernel, by decide +kernel, by decide +kernel⟩⟩
theorem cv_X5_229 : CV RX5 229 1 1 mX1_holds := ⟨wa_mem 526 (by decide +kernel) rfl, wa_mem 527 (by decide +kernel) rfl, wa_mem 528 (by decide +kernel) rfl, wa_mem 7 (by decide +kernel) rfl, wa_mem 529 (by decide +kernel) rfl, ⟨TX1, 2, rfl⟩, ⟨by decide +kernel, by decide +kernel, by decide +kernel⟩⟩
theorem cv_X5_232 : CV RX5 232 1 2 mX1_copyTo := ⟨wa_mem 530 (by decide +kernel) rfl, wa_mem 531 (by decide +kernel) rfl, wa_mem 532 (by decide +kernel) rfl, wa_mem 7 (by decide +kernel) rfl, wa_mem 533 (by decide +kernel) rfl, ⟨TX1, 2, rfl⟩, ⟨by decide +kernel, by decide +kernel, by decide +kernel⟩⟩
theorem cv_X5_252 : CV RX5 252 4 5 mX4_perform := ⟨wa_mem 739 (by decide +kernel) rfl, wa_mem 343 (by decide +kernel) rfl, wa_mem 344 (by decide +kernel) rfl, wa_mem 3 (by decide +kernel) rfl, wa_mem 345 (by decide +kernel) rfl, ⟨TX4, 10, rfl⟩, ⟨by decide +kernel, by decide +kernel, by decide +kernel⟩⟩
theorem fn_L_10 : FN RL 10 5 5 [.null, .null, .null, .null, .null] := ⟨RX5, TX5, tyX5, rfl, wsi_X5, wa_mem 15 (by decide +kernel) rfl, wa_mem 16 (by decide +kernel) rfl, wa_mem 1 (by decide +kernel) rfl, tyX5_ok, fun j hj => by match j, hj with | 0, _ => rfl | 1, _ => rfl | 2, _ => rfl | 3, _ => rfl | 4, _ => rfl | q + 5, h => omega⟩
theorem fn_X0_9 : FN RX0 9 1 2 [.null, .null] := ⟨RX1, TX1, tyX1, rfl, wsi_X1, wa_mem 127 (by decide +kernel) rfl, wa_mem 128 (by decide +kernel) rfl, wa_mem 7 (by decide +kernel) rfl, tyX1_ok, fun j hj => by match j, hj with | 0, _ => rfl | 1, _ => rfl | q + 2, h => omega⟩
theorem fn_X1_13 : FN RX1 13 4 10 [.null, .null, .null, .int 0, .int 0, .int 0, .int 0, .int 0, .int 0, .int 0] := ⟨RX4, TX4, tyX4, rfl, wsi_X4, wa_mem 134 (by decide +kernel) rfl, wa_mem 47 (by decide +kernel) rfl, wa_mem 3 (by decide +kernel) rfl, tyX4_ok, fun j hj => by match j, hj with | 0, _ => rfl | 1, _ => rfl | 2, _ => rfl | 3, _ => rfl | 4, _ => rfl | 5, _ => rfl | 6, _ => rfl | 7, _ => rfl | 8, _ => rfl | 9, _ => rfl | q + 10, h => omega⟩
theorem fn_X4_9 : FN RX4 9 2 3 [.int 0, .null, .int 0] := ⟨RX2, TX2, tyX2, rfl, wsi_X2, wa_mem 52 (by decide +kernel) rfl, wa_mem 53 (by decide +kernel) rfl, wa_mem 4 (by decide +kernel) rfl, tyX2_ok, fun j hj => by match j, hj with | 0, _ => rfl | 1, _ => rfl | 2, _ => rfl | q + 3, h => omega⟩
theorem fn_X5_7 : FN RX5 7 3 5 [.null, .null, .int 0, .int 0, .int 0] := ⟨RX3, TX3, tyX3, rfl, wsi_X3, wa_mem 23 (by decide +kernel) rfl, wa_mem 24 (by decide +kernel) rfl, wa_mem 2 (by decide +kernel) rfl, tyX3_ok, fun j hj => by match j, hj with | 0, _ => rfl | 1, _ => rfl | 2, _ => rfl | 3, _ => rfl | 4, _ => rfl | q + 5, h => omega⟩
theorem fn_X5_16 : FN RX5 16 4 10 [.null, .null, .null, .int 0, .int 0, .int 0, .int 0, .int 0, .int 0, .int 0] := ⟨RX4, TX4, tyX4, rfl, wsi_X4, wa_mem 46 (by decide +kernel) rfl, wa_mem 47 (by decide +kernel) rfl, wa_mem 3 (by decide +kernel) rfl, tyX4_ok, fun j hj => by match j, hj with | 0, _ => rfl | 1, _ => rfl | 2, _ => rfl | 3, _ => rfl | 4, _ => rfl | 5, _ => rfl | 6, _ => rfl | 7, _ => rfl | 8, _ => rfl | 9, _ => rfl | q + 10, h => omega⟩
theorem fn_X5_26 : FN RX5 26 0 3 [.null, .int 0, .int 0] := ⟨RX0, TX0, tyX0, rfl, wsi_X0, wa_mem 121 (by decide +kernel) rfl, wa_mem 122 (by decide +kernel) rfl, wa_mem 6 (by decide +kernel) rfl, tyX0_ok, fun j hj => by match j, hj with | 0, _ => rfl | 1, _ => rfl | 2, _ => rfl | q + 3, h => omega⟩
theorem fn_X5_33 : FN RX5 33 1 2 [.null, .null] := ⟨RX1, TX1, tyX1, rfl, wsi_X1, wa_mem 156 (by decide +kernel) rfl, wa_mem 128 (by decide +kernel) rfl, wa_mem 7 (by decide +kernel) rfl, tyX1_ok, fun j hj => by match j, hj with | 0, _ => rfl | 1, _ => rfl | q + 2, h => omega⟩

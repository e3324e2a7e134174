theorem hd_J9_max_7cf53 : yJ9_max_7cf53.cls ≠ "java/lang/invoke/MethodHandle" ∧ yJ9_max_7cf53.cls ≠ "java/lang/invoke/VarHandle" ∧ (parseMethodDescriptor yJ9_max_7cf53.desc).map (fun d => d.parameters.length) = some 2 := by decide +kernel
theorem hd_J9_min_7cf53 : yJ9_min_7cf53.cls ≠ "java/lang/invoke/MethodHandle" ∧ yJ9_min_7cf53.cls ≠ "java/lang/invoke/VarHandle" ∧ (parseMethodDescriptor yJ9_min_7cf53.desc).map (fun d => d.parameters.length) = some 2 := by decide +kernel
theorem hd_J9_abs_0f7a4 : yJ9_abs_0f7a4.cls ≠ "java/lang/invoke/MethodHandle" ∧ yJ9_abs_0f7a4.cls ≠ "java/lang/invoke/VarHandle" ∧ (parseMethodDescriptor yJ9_abs_0f7a4.desc).map (fun d => d.parameters.length) = some 1 := by decide +kernel
theorem hd_J9_max_f86c9 : yJ9_max_f86c9.cls ≠ "java/lang/invoke/MethodHandle" ∧ yJ9_max_f86c9.cls ≠ "java/lang/invoke/VarHandle" ∧ (parseMethodDescriptor yJ9_max_f86c9.desc).map (fun d => d.parameters.length) = some 2 := by decide +kernel
theorem hd_J9_min_f86c9 : yJ9_min_f86c9.cls ≠ "java/lang/invoke/MethodHandle" ∧ yJ9_min_f86c9.cls ≠ "java/lang/invoke/VarHandle" ∧ (parseMethodDescriptor yJ9_min_f86c9.desc).map (fun d => d.parameters.length) = some 2 := by decide +kernel
theorem hd_J9_abs_067f4 : yJ9_abs_067f4.cls ≠ "java/lang/invoke/MethodHandle" ∧ yJ9_abs_067f4.cls ≠ "java/lang/invoke/VarHandle" ∧ (parseMethodDescriptor yJ9_abs_067f4.desc).map (fun d => d.parameters.length) = some 1 := by decide +kernel
theorem hd_J9_floorDiv_f86c9 : yJ9_floorDiv_f86c9.cls ≠ "java/lang/invoke/MethodHandle" ∧ yJ9_floorDiv_f86c9.cls ≠ "java/lang/invoke/VarHandle" ∧ (parseMethodDescriptor yJ9_floorDiv_f86c9.desc).map (fun d => d.parameters.length) = some 2 := by decide +kernel
theorem hd_J9_floorMod_f86c9 : yJ9_floorMod_f86c9.cls ≠ "java/lang/invoke/MethodHandle" ∧ yJ9_floorMod_f86c9.cls ≠ "java/lang/invoke/VarHandle" ∧ (parseMethodDescriptor yJ9_floorMod_f86c9.desc).map (fun d => d.parameters.length) = some 2 := by decide +kernel
theorem hd_J7_fill_53178 : yJ7_fill_53178.cls ≠ "java/lang/invoke/MethodHandle" ∧ yJ7_fill_53178.cls ≠ "java/lang/invoke/VarHandle" ∧ (parseMethodDescriptor yJ7_fill_53178.desc).map (fun d => d.parameters.length) = some 2 := by decide +kernel
theorem hd_X9_isPlace : yX9_isPlace.cls ≠ "java/lang/invoke/MethodHandle" ∧ yX9_isPlace.cls ≠ "java/lang/invoke/VarHandle" ∧ (parseMethodDescriptor yX9_isPlace.desc).map (fun d => d.parameters.length) = some 1 := by decide +kernel
theorem hd_X9_isClockKind : yX9_isClockKind.cls ≠ "java/lang/invoke/MethodHandle" ∧ yX9_isClockKind.cls ≠ "java/lang/invoke/VarHandle" ∧ (parseMethodDescriptor yX9_isClockKind.desc).map (fun d => d.parameters.length) = some 1 := by decide +kernel
theorem hd_X9_isLinkKind : yX9_isLinkKind.cls ≠ "java/lang/invoke/MethodHandle" ∧ yX9_isLinkKind.cls ≠ "java/lang/invoke/VarHandle" ∧ (parseMethodDescriptor yX9_isLinkKind.desc).map (fun d => d.parameters.length) = some 1 := by decide +kernel
theorem hd_X9_isWithin : yX9_isWithin.cls ≠ "java/lang/invoke/MethodHandle" ∧ yX9_isWithin.cls ≠ "java/lang/invoke/VarHandle" ∧ (parseMethodDescriptor yX9_isWithin.desc).map (fun d => d.parameters.length) = some 2 := by decide +kernel
theorem hd_X9_cut : yX9_cut.cls ≠ "java/lang/invoke/MethodHandle" ∧ yX9_cut.cls ≠ "java/lang/invoke/VarHandle" ∧ (parseMethodDescriptor yX9_cut.desc).map (fun d => d.parameters.length) = some 2 := by decide +kernel
theorem hd_X0_beginAnew : yX0_beginAnew.cls ≠ "java/lang/invoke/MethodHandle" ∧ yX0_beginAnew.cls ≠ "java/lang/invoke/VarHandle" ∧ (parseMethodDescriptor yX0_beginAnew.desc).map (fun d => d.parameters.length) = some 1 := by decide +kernel
theorem hd_X0_lay : yX0_lay.cls ≠ "java/lang/invoke/MethodHandle" ∧ yX0_lay.cls ≠ "java/lang/invoke/VarHandle" ∧ (parseMethodDescriptor yX0_lay.desc).map (fun d => d.parameters.length) = some 4 := by decide +kernel
theorem hd_X0_isTaken : yX0_isTaken.cls ≠ "java/lang/invoke/MethodHandle" ∧ yX0_isTaken.cls ≠ "java/lang/invoke/VarHandle" ∧ (parseMethodDescriptor yX0_isTaken.desc).map (fun d => d.parameters.length) = some 0 := by decide +kernel
theorem hd_X0_isSteered : yX0_isSteered.cls ≠ "java/lang/invoke/MethodHandle" ∧ yX0_isSteered.cls ≠ "java/lang/invoke/VarHandle" ∧ (parseMethodDescriptor yX0_isSteered.desc).map (fun d => d.parameters.length) = some 0 := by decide +kernel
theorem hd_X3_count : yX3_count.cls ≠ "java/lang/invoke/MethodHandle" ∧ yX3_count.cls ≠ "java/lang/invoke/VarHandle" ∧ (parseMethodDescriptor yX3_count.desc).map (fun d => d.parameters.length) = some 0 := by decide +kernel
theorem hd_X3_clear : yX3_clear.cls ≠ "java/lang/invoke/MethodHandle" ∧ yX3_clear.cls ≠ "java/lang/invoke/VarHandle" ∧ (parseMethodDescriptor yX3_clear.desc).map (fun d => d.parameters.length) = some 0 := by decide +kernel
theorem hd_X3_add : yX3_add.cls ≠ "java/lang/invoke/MethodHandle" ∧ yX3_add.cls ≠ "java/lang/invoke/VarHandle" ∧ (parseMethodDescriptor yX3_add.desc).map (fun d => d.parameters.length) = some 2 := by decide +kernel
theorem hd_X3_rawAbove : yX3_rawAbove.cls ≠ "java/lang/invoke/MethodHandle" ∧ yX3_rawAbove.cls ≠ "java/lang/invoke/VarHandle" ∧ (parseMethodDescriptor yX3_rawAbove.desc).map (fun d => d.parameters.length) = some 0 := by decide +kernel
theorem hd_X3_rawBelow : yX3_rawBelow.cls ≠ "java/lang/invoke/MethodHandle" ∧ yX3_rawBelow.cls ≠ "java/lang/invoke/VarHandle" ∧ (parseMethodDescriptor yX3_rawBelow.desc).map (fun d => d.parameters.length) = some 0 := by decide +kernel
theorem hd_X3_valueAtZero : yX3_valueAtZero.cls ≠ "java/lang/invoke/MethodHandle" ∧ yX3_valueAtZero.cls ≠ "java/lang/invoke/VarHandle" ∧ (parseMethodDescriptor yX3_valueAtZero.desc).map (fun d => d.parameters.length) = some 0 := by decide +kernel
theorem hd_X3_divisorOfBoth : yX3_divisorOfBoth.cls ≠ "java/lang/invoke/MethodHandle" ∧ yX3_divisorOfBoth.cls ≠ "java/lang/invoke/VarHandle" ∧ (parseMethodDescriptor yX3_divisorOfBoth.desc).map (fun d => d.parameters.length) = some 0 := by decide +kernel
theorem hd_X3_slopeAbove : yX3_slopeAbove.cls ≠ "java/lang/invoke/MethodHandle" ∧ yX3_slopeAbove.cls ≠ "java/lang/invoke/VarHandle" ∧ (parseMethodDescriptor yX3_slopeAbove.desc).map (fun d => d.parameters.length) = some 0 := by decide +kernel
theorem hd_X3_slopeBelow : yX3_slopeBelow.cls ≠ "java/lang/invoke/MethodHandle" ∧ yX3_slopeBelow.cls ≠ "java/lang/invoke/VarHandle" ∧ (parseMethodDescriptor yX3_slopeBelow.desc).map (fun d => d.parameters.length) = some 0 := by decide +kernel
theorem hd_X4_dropReadings : yX4_dropReadings.cls ≠ "java/lang/invoke/MethodHandle" ∧ yX4_dropReadings.cls ≠ "java/lang/invoke/VarHandle" ∧ (parseMethodDescriptor yX4_dropReadings.desc).map (fun d => d.parameters.length) = some 0 := by decide +kernel
theorem hd_X4_readThere : yX4_readThere.cls ≠ "java/lang/invoke/MethodHandle" ∧ yX4_readThere.cls ≠ "java/lang/invoke/VarHandle" ∧ (parseMethodDescriptor yX4_readThere.desc).map (fun d => d.parameters.length) = some 2 := by decide +kernel
theorem hd_X4_readBack : yX4_readBack.cls ≠ "java/lang/invoke/MethodHandle" ∧ yX4_readBack.cls ≠ "java/lang/invoke/VarHandle" ∧ (parseMethodDescriptor yX4_readBack.desc).map (fun d => d.parameters.length) = some 2 := by decide +kernel
theorem hd_X4_toldAt : yX4_toldAt.cls ≠ "java/lang/invoke/MethodHandle" ∧ yX4_toldAt.cls ≠ "java/lang/invoke/VarHandle" ∧ (parseMethodDescriptor yX4_toldAt.desc).map (fun d => d.parameters.length) = some 1 := by decide +kernel
theorem hd_X4_otherEndFrom : yX4_otherEndFrom.cls ≠ "java/lang/invoke/MethodHandle" ∧ yX4_otherEndFrom.cls ≠ "java/lang/invoke/VarHandle" ∧ (parseMethodDescriptor yX4_otherEndFrom.desc).map (fun d => d.parameters.length) = some 1 := by decide +kernel
theorem hd_X4_lay : yX4_lay.cls ≠ "java/lang/invoke/MethodHandle" ∧ yX4_lay.cls ≠ "java/lang/invoke/VarHandle" ∧ (parseMethodDescriptor yX4_lay.desc).map (fun d => d.parameters.length) = some 3 := by decide +kernel
theorem hd_X5_kindAt : yX5_kindAt.cls ≠ "java/lang/invoke/MethodHandle" ∧ yX5_kindAt.cls ≠ "java/lang/invoke/VarHandle" ∧ (parseMethodDescriptor yX5_kindAt.desc).map (fun d => d.parameters.length) = some 1 := by decide +kernel
theorem hd_X5_clockAt : yX5_clockAt.cls ≠ "java/lang/invoke/MethodHandle" ∧ yX5_clockAt.cls ≠ "java/lang/invoke/VarHandle" ∧ (parseMethodDescriptor yX5_clockAt.desc).map (fun d => d.parameters.length) = some 1 := by decide +kernel
theorem hd_X5_linkAt : yX5_linkAt.cls ≠ "java/lang/invoke/MethodHandle" ∧ yX5_linkAt.cls ≠ "java/lang/invoke/VarHandle" ∧ (parseMethodDescriptor yX5_linkAt.desc).map (fun d => d.parameters.length) = some 1 := by decide +kernel
theorem hd_X5_empty : yX5_empty.cls ≠ "java/lang/invoke/MethodHandle" ∧ yX5_empty.cls ≠ "java/lang/invoke/VarHandle" ∧ (parseMethodDescriptor yX5_empty.desc).map (fun d => d.parameters.length) = some 1 := by decide +kernel
theorem hd_X5_layLamp : yX5_layLamp.cls ≠ "java/lang/invoke/MethodHandle" ∧ yX5_layLamp.cls ≠ "java/lang/invoke/VarHandle" ∧ (parseMethodDescriptor yX5_layLamp.desc).map (fun d => d.parameters.length) = some 1 := by decide +kernel
theorem hd_X5_layClock : yX5_layClock.cls ≠ "java/lang/invoke/MethodHandle" ∧ yX5_layClock.cls ≠ "java/lang/invoke/VarHandle" ∧ (parseMethodDescriptor yX5_layClock.desc).map (fun d => d.parameters.length) = some 5 := by decide +kernel
theorem hd_X5_hasLinkOf : yX5_hasLinkOf.cls ≠ "java/lang/invoke/MethodHandle" ∧ yX5_hasLinkOf.cls ≠ "java/lang/invoke/VarHandle" ∧ (parseMethodDescriptor yX5_hasLinkOf.desc).map (fun d => d.parameters.length) = some 1 := by decide +kernel
theorem hd_X5_toldBetween : yX5_toldBetween.cls ≠ "java/lang/invoke/MethodHandle" ∧ yX5_toldBetween.cls ≠ "java/lang/invoke/VarHandle" ∧ (parseMethodDescriptor yX5_toldBetween.desc).map (fun d => d.parameters.length) = some 3 := by decide +kernel
theorem hd_X5_layLink : yX5_layLink.cls ≠ "java/lang/invoke/MethodHandle" ∧ yX5_layLink.cls ≠ "java/lang/invoke/VarHandle" ∧ (parseMethodDescriptor yX5_layLink.desc).map (fun d => d.parameters.length) = some 4 := by decide +kernel
theorem hd_X6_add : yX6_add.cls ≠ "java/lang/invoke/MethodHandle" ∧ yX6_add.cls ≠ "java/lang/invoke/VarHandle" ∧ (parseMethodDescriptor yX6_add.desc).map (fun d => d.parameters.length) = some 3 := by decide +kernel
theorem hd_X6_valueOf : yX6_valueOf.cls ≠ "java/lang/invoke/MethodHandle" ∧ yX6_valueOf.cls ≠ "java/lang/invoke/VarHandle" ∧ (parseMethodDescriptor yX6_valueOf.desc).map (fun d => d.parameters.length) = some 2 := by decide +kernel
theorem hd_X7_tell : yX7_tell.cls ≠ "java/lang/invoke/MethodHandle" ∧ yX7_tell.cls ≠ "java/lang/invoke/VarHandle" ∧ (parseMethodDescriptor yX7_tell.desc).map (fun d => d.parameters.length) = some 4 := by decide +kernel
theorem hd_X7_tellPaper : yX7_tellPaper.cls ≠ "java/lang/invoke/MethodHandle" ∧ yX7_tellPaper.cls ≠ "java/lang/invoke/VarHandle" ∧ (parseMethodDescriptor yX7_tellPaper.desc).map (fun d => d.parameters.length) = some 3 := by decide +kernel
theorem hd_X7_ofClock : yX7_ofClock.cls ≠ "java/lang/invoke/MethodHandle" ∧ yX7_ofClock.cls ≠ "java/lang/invoke/VarHandle" ∧ (parseMethodDescriptor yX7_ofClock.desc).map (fun d => d.parameters.length) = some 3 := by decide +kernel
theorem hd_X7_ofPaper : yX7_ofPaper.cls ≠ "java/lang/invoke/MethodHandle" ∧ yX7_ofPaper.cls ≠ "java/lang/invoke/VarHandle" ∧ (parseMethodDescriptor yX7_ofPaper.desc).map (fun d => d.parameters.length) = some 2 := by decide +kernel
theorem hd_X8_lengthTo : yX8_lengthTo.cls ≠ "java/lang/invoke/MethodHandle" ∧ yX8_lengthTo.cls ≠ "java/lang/invoke/VarHandle" ∧ (parseMethodDescriptor yX8_lengthTo.desc).map (fun d => d.parameters.length) = some 1 := by decide +kernel
theorem hd_X8_sumTo : yX8_sumTo.cls ≠ "java/lang/invoke/MethodHandle" ∧ yX8_sumTo.cls ≠ "java/lang/invoke/VarHandle" ∧ (parseMethodDescriptor yX8_sumTo.desc).map (fun d => d.parameters.length) = some 1 := by decide +kernel
theorem hd_X8_reach : yX8_reach.cls ≠ "java/lang/invoke/MethodHandle" ∧ yX8_reach.cls ≠ "java/lang/invoke/VarHandle" ∧ (parseMethodDescriptor yX8_reach.desc).map (fun d => d.parameters.length) = some 5 := by decide +kernel
theorem hd_X8_spreadOn : yX8_spreadOn.cls ≠ "java/lang/invoke/MethodHandle" ∧ yX8_spreadOn.cls ≠ "java/lang/invoke/VarHandle" ∧ (parseMethodDescriptor yX8_spreadOn.desc).map (fun d => d.parameters.length) = some 2 := by decide +kernel
theorem hd_X8_spread : yX8_spread.cls ≠ "java/lang/invoke/MethodHandle" ∧ yX8_spread.cls ≠ "java/lang/invoke/VarHandle" ∧ (parseMethodDescriptor yX8_spread.desc).map (fun d => d.parameters.length) = some 2 := by decide +kernel
theorem hd_X8_writeWay : yX8_writeWay.cls ≠ "java/lang/invoke/MethodHandle" ∧ yX8_writeWay.cls ≠ "java/lang/invoke/VarHandle" ∧ (parseMethodDescriptor yX8_writeWay.desc).map (fun d => d.parameters.length) = some 4 := by decide +kernel
theorem hd_X2_xOf : yX2_xOf.cls ≠ "java/lang/invoke/MethodHandle" ∧ yX2_xOf.cls ≠ "java/lang/invoke/VarHandle" ∧ (parseMethodDescriptor yX2_xOf.desc).map (fun d => d.parameters.length) = some 2 := by decide +kernel
theorem hd_X2_missedOf : yX2_missedOf.cls ≠ "java/lang/invoke/MethodHandle" ∧ yX2_missedOf.cls ≠ "java/lang/invoke/VarHandle" ∧ (parseMethodDescriptor yX2_missedOf.desc).map (fun d => d.parameters.length) = some 2 := by decide +kernel
theorem hd_X2_countXs : yX2_countXs.cls ≠ "java/lang/invoke/MethodHandle" ∧ yX2_countXs.cls ≠ "java/lang/invoke/VarHandle" ∧ (parseMethodDescriptor yX2_countXs.desc).map (fun d => d.parameters.length) = some 2 := by decide +kernel
theorem hd_X2_lineOf : yX2_lineOf.cls ≠ "java/lang/invoke/MethodHandle" ∧ yX2_lineOf.cls ≠ "java/lang/invoke/VarHandle" ∧ (parseMethodDescriptor yX2_lineOf.desc).map (fun d => d.parameters.length) = some 2 := by decide +kernel
theorem hd_X2_foretoldOf : yX2_foretoldOf.cls ≠ "java/lang/invoke/MethodHandle" ∧ yX2_foretoldOf.cls ≠ "java/lang/invoke/VarHandle" ∧ (parseMethodDescriptor yX2_foretoldOf.desc).map (fun d => d.parameters.length) = some 2 := by decide +kernel
theorem hd_X2_gatherMissed : yX2_gatherMissed.cls ≠ "java/lang/invoke/MethodHandle" ∧ yX2_gatherMissed.cls ≠ "java/lang/invoke/VarHandle" ∧ (parseMethodDescriptor yX2_gatherMissed.desc).map (fun d => d.parameters.length) = some 2 := by decide +kernel
theorem hd_X2_fullWeightOf : yX2_fullWeightOf.cls ≠ "java/lang/invoke/MethodHandle" ∧ yX2_fullWeightOf.cls ≠ "java/lang/invoke/VarHandle" ∧ (parseMethodDescriptor yX2_fullWeightOf.desc).map (fun d => d.parameters.length) = some 3 := by decide +kernel
theorem hd_X2_usuallyMissedBy : yX2_usuallyMissedBy.cls ≠ "java/lang/invoke/MethodHandle" ∧ yX2_usuallyMissedBy.cls ≠ "java/lang/invoke/VarHandle" ∧ (parseMethodDescriptor yX2_usuallyMissedBy.desc).map (fun d => d.parameters.length) = some 2 := by decide +kernel
theorem hd_X2_haveOneSign : yX2_haveOneSign.cls ≠ "java/lang/invoke/MethodHandle" ∧ yX2_haveOneSign.cls ≠ "java/lang/invoke/VarHandle" ∧ (parseMethodDescriptor yX2_haveOneSign.desc).map (fun d => d.parameters.length) = some 2 := by decide +kernel
theorem hd_X2_drifts : yX2_drifts.cls ≠ "java/lang/invoke/MethodHandle" ∧ yX2_drifts.cls ≠ "java/lang/invoke/VarHandle" ∧ (parseMethodDescriptor yX2_drifts.desc).map (fun d => d.parameters.length) = some 2 := by decide +kernel
theorem hd_X1_leastTaken : yX1_leastTaken.cls ≠ "java/lang/invoke/MethodHandle" ∧ yX1_leastTaken.cls ≠ "java/lang/invoke/VarHandle" ∧ (parseMethodDescriptor yX1_leastTaken.desc).map (fun d => d.parameters.length) = some 0 := by decide +kernel
theorem hd_X1_hold : yX1_hold.cls ≠ "java/lang/invoke/MethodHandle" ∧ yX1_hold.cls ≠ "java/lang/invoke/VarHandle" ∧ (parseMethodDescriptor yX1_hold.desc).map (fun d => d.parameters.length) = some 2 := by decide +kernel
theorem hd_X1_weigh : yX1_weigh.cls ≠ "java/lang/invoke/MethodHandle" ∧ yX1_weigh.cls ≠ "java/lang/invoke/VarHandle" ∧ (parseMethodDescriptor yX1_weigh.desc).map (fun d => d.parameters.length) = some 2 := by decide +kernel
theorem hd_X1_makePaper : yX1_makePaper.cls ≠ "java/lang/invoke/MethodHandle" ∧ yX1_makePaper.cls ≠ "java/lang/invoke/VarHandle" ∧ (parseMethodDescriptor yX1_makePaper.desc).map (fun d => d.parameters.length) = some 1 := by decide +kernel
theorem hd_X1_tellXs : yX1_tellXs.cls ≠ "java/lang/invoke/MethodHandle" ∧ yX1_tellXs.cls ≠ "java/lang/invoke/VarHandle" ∧ (parseMethodDescriptor yX1_tellXs.desc).map (fun d => d.parameters.length) = some 2 := by decide +kernel
theorem hd_X1_judgeSuspect : yX1_judgeSuspect.cls ≠ "java/lang/invoke/MethodHandle" ∧ yX1_judgeSuspect.cls ≠ "java/lang/invoke/VarHandle" ∧ (parseMethodDescriptor yX1_judgeSuspect.desc).map (fun d => d.parameters.length) = some 3 := by decide +kernel
theorem hd_X1_judge : yX1_judge.cls ≠ "java/lang/invoke/MethodHandle" ∧ yX1_judge.cls ≠ "java/lang/invoke/VarHandle" ∧ (parseMethodDescriptor yX1_judge.desc).map (fun d => d.parameters.length) = some 4 := by decide +kernel
theorem hd_X1_judgeAll : yX1_judgeAll.cls ≠ "java/lang/invoke/MethodHandle" ∧ yX1_judgeAll.cls ≠ "java/lang/invoke/VarHandle" ∧ (parseMethodDescriptor yX1_judgeAll.desc).map (fun d => d.parameters.length) = some 2 := by decide +kernel
theorem hd_X1_closeHour : yX1_closeHour.cls ≠ "java/lang/invoke/MethodHandle" ∧ yX1_closeHour.cls ≠ "java/lang/invoke/VarHandle" ∧ (parseMethodDescriptor yX1_closeHour.desc).map (fun d => d.parameters.length) = some 3 := by decide +kernel
theorem hd_X9_refusalAt : yX9_refusalAt.cls ≠ "java/lang/invoke/MethodHandle" ∧ yX9_refusalAt.cls ≠ "java/lang/invoke/VarHandle" ∧ (parseMethodDescriptor yX9_refusalAt.desc).map (fun d => d.parameters.length) = some 1 := by decide +kernel
theorem hd_X9_hasCome : yX9_hasCome.cls ≠ "java/lang/invoke/MethodHandle" ∧ yX9_hasCome.cls ≠ "java/lang/invoke/VarHandle" ∧ (parseMethodDescriptor yX9_hasCome.desc).map (fun d => d.parameters.length) = some 1 := by decide +kernel
theorem hd_X9_refusalOfClocks : yX9_refusalOfClocks.cls ≠ "java/lang/invoke/MethodHandle" ∧ yX9_refusalOfClocks.cls ≠ "java/lang/invoke/VarHandle" ∧ (parseMethodDescriptor yX9_refusalOfClocks.desc).map (fun d => d.parameters.length) = some 2 := by decide +kernel
theorem hd_X9_findWay : yX9_findWay.cls ≠ "java/lang/invoke/MethodHandle" ∧ yX9_findWay.cls ≠ "java/lang/invoke/VarHandle" ∧ (parseMethodDescriptor yX9_findWay.desc).map (fun d => d.parameters.length) = some 3 := by decide +kernel
theorem hd_X9_put : yX9_put.cls ≠ "java/lang/invoke/MethodHandle" ∧ yX9_put.cls ≠ "java/lang/invoke/VarHandle" ∧ (parseMethodDescriptor yX9_put.desc).map (fun d => d.parameters.length) = some 4 := by decide +kernel
theorem hd_X9_lift : yX9_lift.cls ≠ "java/lang/invoke/MethodHandle" ∧ yX9_lift.cls ≠ "java/lang/invoke/VarHandle" ∧ (parseMethodDescriptor yX9_lift.desc).map (fun d => d.parameters.length) = some 1 := by decide +kernel
theorem hd_X9_kind : yX9_kind.cls ≠ "java/lang/invoke/MethodHandle" ∧ yX9_kind.cls ≠ "java/lang/invoke/VarHandle" ∧ (parseMethodDescriptor yX9_kind.desc).map (fun d => d.parameters.length) = some 1 := by decide +kernel
theorem hd_X9_read : yX9_read.cls ≠ "java/lang/invoke/MethodHandle" ∧ yX9_read.cls ≠ "java/lang/invoke/VarHandle" ∧ (parseMethodDescriptor yX9_read.desc).map (fun d => d.parameters.length) = some 2 := by decide +kernel
theorem hd_X9_back : yX9_back.cls ≠ "java/lang/invoke/MethodHandle" ∧ yX9_back.cls ≠ "java/lang/invoke/VarHandle" ∧ (parseMethodDescriptor yX9_back.desc).map (fun d => d.parameters.length) = some 2 := by decide +kernel
theorem hd_X9_tear : yX9_tear.cls ≠ "java/lang/invoke/MethodHandle" ∧ yX9_tear.cls ≠ "java/lang/invoke/VarHandle" ∧ (parseMethodDescriptor yX9_tear.desc).map (fun d => d.parameters.length) = some 1 := by decide +kernel
theorem hd_X9_way : yX9_way.cls ≠ "java/lang/invoke/MethodHandle" ∧ yX9_way.cls ≠ "java/lang/invoke/VarHandle" ∧ (parseMethodDescriptor yX9_way.desc).map (fun d => d.parameters.length) = some 2 := by decide +kernel
theorem hd_X9_tells : yX9_tells.cls ≠ "java/lang/invoke/MethodHandle" ∧ yX9_tells.cls ≠ "java/lang/invoke/VarHandle" ∧ (parseMethodDescriptor yX9_tells.desc).map (fun d => d.parameters.length) = some 2 := by decide +kernel
theorem hd_X9_difference : yX9_difference.cls ≠ "java/lang/invoke/MethodHandle" ∧ yX9_difference.cls ≠ "java/lang/invoke/VarHandle" ∧ (parseMethodDescriptor yX9_difference.desc).map (fun d => d.parameters.length) = some 3 := by decide +kernel
theorem hd_X9_along : yX9_along.cls ≠ "java/lang/invoke/MethodHandle" ∧ yX9_along.cls ≠ "java/lang/invoke/VarHandle" ∧ (parseMethodDescriptor yX9_along.desc).map (fun d => d.parameters.length) = some 3 := by decide +kernel
theorem hd_X9_link : yX9_link.cls ≠ "java/lang/invoke/MethodHandle" ∧ yX9_link.cls ≠ "java/lang/invoke/VarHandle" ∧ (parseMethodDescriptor yX9_link.desc).map (fun d => d.parameters.length) = some 1 := by decide +kernel
theorem hd_X9_take : yX9_take.cls ≠ "java/lang/invoke/MethodHandle" ∧ yX9_take.cls ≠ "java/lang/invoke/VarHandle" ∧ (parseMethodDescriptor yX9_take.desc).map (fun d => d.parameters.length) = some 1 := by decide +kernel
theorem hd_X9_leave : yX9_leave.cls ≠ "java/lang/invoke/MethodHandle" ∧ yX9_leave.cls ≠ "java/lang/invoke/VarHandle" ∧ (parseMethodDescriptor yX9_leave.desc).map (fun d => d.parameters.length) = some 1 := by decide +kernel
theorem hd_X9_call : yX9_call.cls ≠ "java/lang/invoke/MethodHandle" ∧ yX9_call.cls ≠ "java/lang/invoke/VarHandle" ∧ (parseMethodDescriptor yX9_call.desc).map (fun d => d.parameters.length) = some 2 := by decide +kernel
theorem hd_X9_steer : yX9_steer.cls ≠ "java/lang/invoke/MethodHandle" ∧ yX9_steer.cls ≠ "java/lang/invoke/VarHandle" ∧ (parseMethodDescriptor yX9_steer.desc).map (fun d => d.parameters.length) = some 2 := by decide +kernel
theorem hd_X9_set : yX9_set.cls ≠ "java/lang/invoke/MethodHandle" ∧ yX9_set.cls ≠ "java/lang/invoke/VarHandle" ∧ (parseMethodDescriptor yX9_set.desc).map (fun d => d.parameters.length) = some 2 := by decide +kernel
theorem hd_X9_moveScale : yX9_moveScale.cls ≠ "java/lang/invoke/MethodHandle" ∧ yX9_moveScale.cls ≠ "java/lang/invoke/VarHandle" ∧ (parseMethodDescriptor yX9_moveScale.desc).map (fun d => d.parameters.length) = some 0 := by decide +kernel
theorem hd_X9_close : yX9_close.cls ≠ "java/lang/invoke/MethodHandle" ∧ yX9_close.cls ≠ "java/lang/invoke/VarHandle" ∧ (parseMethodDescriptor yX9_close.desc).map (fun d => d.parameters.length) = some 0 := by decide +kernel
theorem hd_X9_hour : yX9_hour.cls ≠ "java/lang/invoke/MethodHandle" ∧ yX9_hour.cls ≠ "java/lang/invoke/VarHandle" ∧ (parseMethodDescriptor yX9_hour.desc).map (fun d => d.parameters.length) = some 0 := by decide +kernel
theorem hd_X9_clock : yX9_clock.cls ≠ "java/lang/invoke/MethodHandle" ∧ yX9_clock.cls ≠ "java/lang/invoke/VarHandle" ∧ (parseMethodDescriptor yX9_clock.desc).map (fun d => d.parameters.length) = some 2 := by decide +kernel
theorem hd_X9_foretell : yX9_foretell.cls ≠ "java/lang/invoke/MethodHandle" ∧ yX9_foretell.cls ≠ "java/lang/invoke/VarHandle" ∧ (parseMethodDescriptor yX9_foretell.desc).map (fun d => d.parameters.length) = some 1 := by decide +kernel
theorem hd_X9_slope : yX9_slope.cls ≠ "java/lang/invoke/MethodHandle" ∧ yX9_slope.cls ≠ "java/lang/invoke/VarHandle" ∧ (parseMethodDescriptor yX9_slope.desc).map (fun d => d.parameters.length) = some 2 := by decide +kernel
theorem hd_X9_weight : yX9_weight.cls ≠ "java/lang/invoke/MethodHandle" ∧ yX9_weight.cls ≠ "java/lang/invoke/VarHandle" ∧ (parseMethodDescriptor yX9_weight.desc).map (fun d => d.parameters.length) = some 1 := by decide +kernel
theorem hd_X9_as : yX9_as.cls ≠ "java/lang/invoke/MethodHandle" ∧ yX9_as.cls ≠ "java/lang/invoke/VarHandle" ∧ (parseMethodDescriptor yX9_as.desc).map (fun d => d.parameters.length) = some 3 := by decide +kernel
theorem hd_X9_paper : yX9_paper.cls ≠ "java/lang/invoke/MethodHandle" ∧ yX9_paper.cls ≠ "java/lang/invoke/VarHandle" ∧ (parseMethodDescriptor yX9_paper.desc).map (fun d => d.parameters.length) = some 2 := by decide +kernel
theorem hd_X9_step : yX9_step.cls ≠ "java/lang/invoke/MethodHandle" ∧ yX9_step.cls ≠ "java/lang/invoke/VarHandle" ∧ (parseMethodDescriptor yX9_step.desc).map (fun d => d.parameters.length) = some 2 := by decide +kernel
theorem hd_X9_show : yX9_show.cls ≠ "java/lang/invoke/MethodHandle" ∧ yX9_show.cls ≠ "java/lang/invoke/VarHandle" ∧ (parseMethodDescriptor yX9_show.desc).map (fun d => d.parameters.length) = some 1 := by decide +kernel
theorem hd_X9_off : yX9_off.cls ≠ "java/lang/invoke/MethodHandle" ∧ yX9_off.cls ≠ "java/lang/invoke/VarHandle" ∧ (parseMethodDescriptor yX9_off.desc).map (fun d => d.parameters.length) = some 0 := by decide +kernel
theorem hd_X9_ring : yX9_ring.cls ≠ "java/lang/invoke/MethodHandle" ∧ yX9_ring.cls ≠ "java/lang/invoke/VarHandle" ∧ (parseMethodDescriptor yX9_ring.desc).map (fun d => d.parameters.length) = some 4 := by decide +kernel
theorem hd_X10_isIn : yX10_isIn.cls ≠ "java/lang/invoke/MethodHandle" ∧ yX10_isIn.cls ≠ "java/lang/invoke/VarHandle" ∧ (parseMethodDescriptor yX10_isIn.desc).map (fun d => d.parameters.length) = some 3 := by decide +kernel
theorem hd_X10_at : yX10_at.cls ≠ "java/lang/invoke/MethodHandle" ∧ yX10_at.cls ≠ "java/lang/invoke/VarHandle" ∧ (parseMethodDescriptor yX10_at.desc).map (fun d => d.parameters.length) = some 2 := by decide +kernel
theorem hd_X10_isClock : yX10_isClock.cls ≠ "java/lang/invoke/MethodHandle" ∧ yX10_isClock.cls ≠ "java/lang/invoke/VarHandle" ∧ (parseMethodDescriptor yX10_isClock.desc).map (fun d => d.parameters.length) = some 1 := by decide +kernel
theorem hd_X10_isLink : yX10_isLink.cls ≠ "java/lang/invoke/MethodHandle" ∧ yX10_isLink.cls ≠ "java/lang/invoke/VarHandle" ∧ (parseMethodDescriptor yX10_isLink.desc).map (fun d => d.parameters.length) = some 1 := by decide +kernel
theorem hd_X10_fails : yX10_fails.cls ≠ "java/lang/invoke/MethodHandle" ∧ yX10_fails.cls ≠ "java/lang/invoke/VarHandle" ∧ (parseMethodDescriptor yX10_fails.desc).map (fun d => d.parameters.length) = some 3 := by decide +kernel
theorem hd_X10_put : yX10_put.cls ≠ "java/lang/invoke/MethodHandle" ∧ yX10_put.cls ≠ "java/lang/invoke/VarHandle" ∧ (parseMethodDescriptor yX10_put.desc).map (fun d => d.parameters.length) = some 4 := by decide +kernel
theorem hd_X10_lift : yX10_lift.cls ≠ "java/lang/invoke/MethodHandle" ∧ yX10_lift.cls ≠ "java/lang/invoke/VarHandle" ∧ (parseMethodDescriptor yX10_lift.desc).map (fun d => d.parameters.length) = some 1 := by decide +kernel
theorem hd_X10_kind : yX10_kind.cls ≠ "java/lang/invoke/MethodHandle" ∧ yX10_kind.cls ≠ "java/lang/invoke/VarHandle" ∧ (parseMethodDescriptor yX10_kind.desc).map (fun d => d.parameters.length) = some 1 := by decide +kernel
theorem hd_X10_read : yX10_read.cls ≠ "java/lang/invoke/MethodHandle" ∧ yX10_read.cls ≠ "java/lang/invoke/VarHandle" ∧ (parseMethodDescriptor yX10_read.desc).map (fun d => d.parameters.length) = some 2 := by decide +kernel
theorem hd_X10_back : yX10_back.cls ≠ "java/lang/invoke/MethodHandle" ∧ yX10_back.cls ≠ "java/lang/invoke/VarHandle" ∧ (parseMethodDescriptor yX10_back.desc).map (fun d => d.parameters.length) = some 2 := by decide +kernel
theorem hd_X10_tear : yX10_tear.cls ≠ "java/lang/invoke/MethodHandle" ∧ yX10_tear.cls ≠ "java/lang/invoke/VarHandle" ∧ (parseMethodDescriptor yX10_tear.desc).map (fun d => d.parameters.length) = some 1 := by decide +kernel
theorem hd_X10_way : yX10_way.cls ≠ "java/lang/invoke/MethodHandle" ∧ yX10_way.cls ≠ "java/lang/invoke/VarHandle" ∧ (parseMethodDescriptor yX10_way.desc).map (fun d => d.parameters.length) = some 2 := by decide +kernel
theorem hd_X10_told : yX10_told.cls ≠ "java/lang/invoke/MethodHandle" ∧ yX10_told.cls ≠ "java/lang/invoke/VarHandle" ∧ (parseMethodDescriptor yX10_told.desc).map (fun d => d.parameters.length) = some 2 := by decide +kernel
theorem hd_X10_tells : yX10_tells.cls ≠ "java/lang/invoke/MethodHandle" ∧ yX10_tells.cls ≠ "java/lang/invoke/VarHandle" ∧ (parseMethodDescriptor yX10_tells.desc).map (fun d => d.parameters.length) = some 2 := by decide +kernel
theorem hd_X10_other : yX10_other.cls ≠ "java/lang/invoke/MethodHandle" ∧ yX10_other.cls ≠ "java/lang/invoke/VarHandle" ∧ (parseMethodDescriptor yX10_other.desc).map (fun d => d.parameters.length) = some 2 := by decide +kernel
theorem hd_X10_hour : yX10_hour.cls ≠ "java/lang/invoke/MethodHandle" ∧ yX10_hour.cls ≠ "java/lang/invoke/VarHandle" ∧ (parseMethodDescriptor yX10_hour.desc).map (fun d => d.parameters.length) = some 0 := by decide +kernel
theorem hd_X10_off : yX10_off.cls ≠ "java/lang/invoke/MethodHandle" ∧ yX10_off.cls ≠ "java/lang/invoke/VarHandle" ∧ (parseMethodDescriptor yX10_off.desc).map (fun d => d.parameters.length) = some 0 := by decide +kernel
theorem hd_X10_show : yX10_show.cls ≠ "java/lang/invoke/MethodHandle" ∧ yX10_show.cls ≠ "java/lang/invoke/VarHandle" ∧ (parseMethodDescriptor yX10_show.desc).map (fun d => d.parameters.length) = some 1 := by decide +kernel
theorem hd_X10_set : yX10_set.cls ≠ "java/lang/invoke/MethodHandle" ∧ yX10_set.cls ≠ "java/lang/invoke/VarHandle" ∧ (parseMethodDescriptor yX10_set.desc).map (fun d => d.parameters.length) = some 2 := by decide +kernel
theorem hd_X10_link : yX10_link.cls ≠ "java/lang/invoke/MethodHandle" ∧ yX10_link.cls ≠ "java/lang/invoke/VarHandle" ∧ (parseMethodDescriptor yX10_link.desc).map (fun d => d.parameters.length) = some 1 := by decide +kernel
theorem hd_X10_step : yX10_step.cls ≠ "java/lang/invoke/MethodHandle" ∧ yX10_step.cls ≠ "java/lang/invoke/VarHandle" ∧ (parseMethodDescriptor yX10_step.desc).map (fun d => d.parameters.length) = some 2 := by decide +kernel
theorem hd_X10_paper : yX10_paper.cls ≠ "java/lang/invoke/MethodHandle" ∧ yX10_paper.cls ≠ "java/lang/invoke/VarHandle" ∧ (parseMethodDescriptor yX10_paper.desc).map (fun d => d.parameters.length) = some 2 := by decide +kernel
theorem hd_X10_as : yX10_as.cls ≠ "java/lang/invoke/MethodHandle" ∧ yX10_as.cls ≠ "java/lang/invoke/VarHandle" ∧ (parseMethodDescriptor yX10_as.desc).map (fun d => d.parameters.length) = some 3 := by decide +kernel
theorem hd_X10_take : yX10_take.cls ≠ "java/lang/invoke/MethodHandle" ∧ yX10_take.cls ≠ "java/lang/invoke/VarHandle" ∧ (parseMethodDescriptor yX10_take.desc).map (fun d => d.parameters.length) = some 1 := by decide +kernel
theorem hd_X10_leave : yX10_leave.cls ≠ "java/lang/invoke/MethodHandle" ∧ yX10_leave.cls ≠ "java/lang/invoke/VarHandle" ∧ (parseMethodDescriptor yX10_leave.desc).map (fun d => d.parameters.length) = some 1 := by decide +kernel
theorem hd_X10_call : yX10_call.cls ≠ "java/lang/invoke/MethodHandle" ∧ yX10_call.cls ≠ "java/lang/invoke/VarHandle" ∧ (parseMethodDescriptor yX10_call.desc).map (fun d => d.parameters.length) = some 2 := by decide +kernel
theorem hd_X10_steer : yX10_steer.cls ≠ "java/lang/invoke/MethodHandle" ∧ yX10_steer.cls ≠ "java/lang/invoke/VarHandle" ∧ (parseMethodDescriptor yX10_steer.desc).map (fun d => d.parameters.length) = some 2 := by decide +kernel
theorem hd_X10_isTaken : yX10_isTaken.cls ≠ "java/lang/invoke/MethodHandle" ∧ yX10_isTaken.cls ≠ "java/lang/invoke/VarHandle" ∧ (parseMethodDescriptor yX10_isTaken.desc).map (fun d => d.parameters.length) = some 1 := by decide +kernel
theorem hd_X10_isX : yX10_isX.cls ≠ "java/lang/invoke/MethodHandle" ∧ yX10_isX.cls ≠ "java/lang/invoke/VarHandle" ∧ (parseMethodDescriptor yX10_isX.desc).map (fun d => d.parameters.length) = some 2 := by decide +kernel
theorem hd_X10_isMissed : yX10_isMissed.cls ≠ "java/lang/invoke/MethodHandle" ∧ yX10_isMissed.cls ≠ "java/lang/invoke/VarHandle" ∧ (parseMethodDescriptor yX10_isMissed.desc).map (fun d => d.parameters.length) = some 2 := by decide +kernel
theorem hd_X10_isGain : yX10_isGain.cls ≠ "java/lang/invoke/MethodHandle" ∧ yX10_isGain.cls ≠ "java/lang/invoke/VarHandle" ∧ (parseMethodDescriptor yX10_isGain.desc).map (fun d => d.parameters.length) = some 2 := by decide +kernel
theorem hd_X10_downwards : yX10_downwards.cls ≠ "java/lang/invoke/MethodHandle" ∧ yX10_downwards.cls ≠ "java/lang/invoke/VarHandle" ∧ (parseMethodDescriptor yX10_downwards.desc).map (fun d => d.parameters.length) = some 2 := by decide +kernel
theorem hd_X10_amount : yX10_amount.cls ≠ "java/lang/invoke/MethodHandle" ∧ yX10_amount.cls ≠ "java/lang/invoke/VarHandle" ∧ (parseMethodDescriptor yX10_amount.desc).map (fun d => d.parameters.length) = some 1 := by decide +kernel
theorem hd_X10_byGains : yX10_byGains.cls ≠ "java/lang/invoke/MethodHandle" ∧ yX10_byGains.cls ≠ "java/lang/invoke/VarHandle" ∧ (parseMethodDescriptor yX10_byGains.desc).map (fun d => d.parameters.length) = some 1 := by decide +kernel
theorem hd_X10_root : yX10_root.cls ≠ "java/lang/invoke/MethodHandle" ∧ yX10_root.cls ≠ "java/lang/invoke/VarHandle" ∧ (parseMethodDescriptor yX10_root.desc).map (fun d => d.parameters.length) = some 0 := by decide +kernel
theorem hd_X10_steps : yX10_steps.cls ≠ "java/lang/invoke/MethodHandle" ∧ yX10_steps.cls ≠ "java/lang/invoke/VarHandle" ∧ (parseMethodDescriptor yX10_steps.desc).map (fun d => d.parameters.length) = some 2 := by decide +kernel
theorem hd_X10_goes : yX10_goes.cls ≠ "java/lang/invoke/MethodHandle" ∧ yX10_goes.cls ≠ "java/lang/invoke/VarHandle" ∧ (parseMethodDescriptor yX10_goes.desc).map (fun d => d.parameters.length) = some 3 := by decide +kernel
theorem hd_X10_line : yX10_line.cls ≠ "java/lang/invoke/MethodHandle" ∧ yX10_line.cls ≠ "java/lang/invoke/VarHandle" ∧ (parseMethodDescriptor yX10_line.desc).map (fun d => d.parameters.length) = some 2 := by decide +kernel
theorem hd_X10_foretold : yX10_foretold.cls ≠ "java/lang/invoke/MethodHandle" ∧ yX10_foretold.cls ≠ "java/lang/invoke/VarHandle" ∧ (parseMethodDescriptor yX10_foretold.desc).map (fun d => d.parameters.length) = some 1 := by decide +kernel
theorem hd_X10_full : yX10_full.cls ≠ "java/lang/invoke/MethodHandle" ∧ yX10_full.cls ≠ "java/lang/invoke/VarHandle" ∧ (parseMethodDescriptor yX10_full.desc).map (fun d => d.parameters.length) = some 1 := by decide +kernel
theorem hd_X10_clock : yX10_clock.cls ≠ "java/lang/invoke/MethodHandle" ∧ yX10_clock.cls ≠ "java/lang/invoke/VarHandle" ∧ (parseMethodDescriptor yX10_clock.desc).map (fun d => d.parameters.length) = some 2 := by decide +kernel
theorem hd_X10_foretell : yX10_foretell.cls ≠ "java/lang/invoke/MethodHandle" ∧ yX10_foretell.cls ≠ "java/lang/invoke/VarHandle" ∧ (parseMethodDescriptor yX10_foretell.desc).map (fun d => d.parameters.length) = some 1 := by decide +kernel
theorem hd_X10_weight : yX10_weight.cls ≠ "java/lang/invoke/MethodHandle" ∧ yX10_weight.cls ≠ "java/lang/invoke/VarHandle" ∧ (parseMethodDescriptor yX10_weight.desc).map (fun d => d.parameters.length) = some 1 := by decide +kernel
theorem hd_X10_common : yX10_common.cls ≠ "java/lang/invoke/MethodHandle" ∧ yX10_common.cls ≠ "java/lang/invoke/VarHandle" ∧ (parseMethodDescriptor yX10_common.desc).map (fun d => d.parameters.length) = some 2 := by decide +kernel
theorem hd_X10_slope : yX10_slope.cls ≠ "java/lang/invoke/MethodHandle" ∧ yX10_slope.cls ≠ "java/lang/invoke/VarHandle" ∧ (parseMethodDescriptor yX10_slope.desc).map (fun d => d.parameters.length) = some 2 := by decide +kernel
theorem hd_X10_direct : yX10_direct.cls ≠ "java/lang/invoke/MethodHandle" ∧ yX10_direct.cls ≠ "java/lang/invoke/VarHandle" ∧ (parseMethodDescriptor yX10_direct.desc).map (fun d => d.parameters.length) = some 3 := by decide +kernel
theorem hd_X10_ring : yX10_ring.cls ≠ "java/lang/invoke/MethodHandle" ∧ yX10_ring.cls ≠ "java/lang/invoke/VarHandle" ∧ (parseMethodDescriptor yX10_ring.desc).map (fun d => d.parameters.length) = some 4 := by decide +kernel
theorem hd_X10_difference : yX10_difference.cls ≠ "java/lang/invoke/MethodHandle" ∧ yX10_difference.cls ≠ "java/lang/invoke/VarHandle" ∧ (parseMethodDescriptor yX10_difference.desc).map (fun d => d.parameters.length) = some 3 := by decide +kernel
theorem hd_X10_along : yX10_along.cls ≠ "java/lang/invoke/MethodHandle" ∧ yX10_along.cls ≠ "java/lang/invoke/VarHandle" ∧ (parseMethodDescriptor yX10_along.desc).map (fun d => d.parameters.length) = some 3 := by decide +kernel
theorem hd_X10_looks : yX10_looks.cls ≠ "java/lang/invoke/MethodHandle" ∧ yX10_looks.cls ≠ "java/lang/invoke/VarHandle" ∧ (parseMethodDescriptor yX10_looks.desc).map (fun d => d.parameters.length) = some 2 := by decide +kernel
theorem hd_X10_closes : yX10_closes.cls ≠ "java/lang/invoke/MethodHandle" ∧ yX10_closes.cls ≠ "java/lang/invoke/VarHandle" ∧ (parseMethodDescriptor yX10_closes.desc).map (fun d => d.parameters.length) = some 1 := by decide +kernel
theorem hd_X10_close : yX10_close.cls ≠ "java/lang/invoke/MethodHandle" ∧ yX10_close.cls ≠ "java/lang/invoke/VarHandle" ∧ (parseMethodDescriptor yX10_close.desc).map (fun d => d.parameters.length) = some 0 := by decide +kernel

/-- what a link tells: FIRST less SECOND, 1000000 for nothing -/
def toldC (σ : SI) (q : Nat) (hr : Int32) : Int32 :=
  if hr.toInt < 0 ∨ 201 ≤ hr.toInt then 1000000 else if (σ (128 + q) hr.toInt.toNat).toInt = 1000000 then 1000000
  else if (σ (104 + q) 0).toInt = 5 then σ (128 + q) hr.toInt.toNat - σ (104 + q) 3
  else if (σ (104 + q) 0).toInt = 6 then (if (σ (152 + q) hr.toInt.toNat).toInt = 1000000 then 1000000 else (σ (128 + q) hr.toInt.toNat + σ (152 + q) hr.toInt.toNat) / 8)
  else σ (128 + q) hr.toInt.toNat
def otherC (σ : SI) (q : Nat) (pl : Int32) : Int32 := if pl.toInt = (σ (104 + q) 1).toInt then σ (104 + q) 2 else if pl.toInt = (σ (104 + q) 2).toInt then σ (104 + q) 1 else -1
/-- how many of the first n hours of a link have a reading -/
def cntR (σ : SI) (q : Nat) : Nat → Int32
  | 0 => 0
  | n + 1 => if (σ (128 + q) n).toInt = 1000000 ∧ (σ (152 + q) n).toInt = 1000000 then cntR σ q n else cntR σ q n + 1
/-- the rows of a link are emptied -/
def Torn (σ σ1 : SI) (q : Nat) : Prop := Fr (fun k => k = 128 + q ∨ k = 152 + q) σ σ1 ∧ ∀ j, j < 201 → σ1 (128 + q) j = 1000000 ∧ σ1 (152 + q) j = 1000000
def hasLk (σ : SI) (pl : Int32) : Prop := ∃ q, q < 24 ∧ 4 ≤ (σ 2 q).toInt ∧ (σ 2 q).toInt ≤ 6 ∧ ((σ (104 + q) 1).toInt = pl.toInt ∨ (σ (104 + q) 2).toInt = pl.toInt)
/-- what a closing may change -/
def CF (σ σ1 : SI) : Prop := Fr (fun k => (5 ≤ k ∧ k ≤ 22) ∨ (24 ≤ k ∧ k ≤ 34) ∨ (80 ≤ k ∧ k < 104)) σ σ1 ∧ ∀ q j, q < 24 → (j < 7 ∨ j = 8) → σ1 (80 + q) j = σ (80 + q) j
theorem CF.rf {σ : SI} : CF σ σ := ⟨Fr.rf, fun _ _ _ _ => rfl⟩
theorem CF.tr {σ σ1 σ2 : SI} (h : CF σ σ1) (h2 : CF σ1 σ2) : CF σ σ2 := ⟨h.1.tr h2.1, fun q j hq hj => (h2.2 q j hq hj).trans (h.2 q j hq hj)⟩
theorem CF.fr {S : Nat → Prop} {σ σ1 : SI} (h : Fr S σ σ1) (hS : ∀ k, S k → (5 ≤ k ∧ k ≤ 22) ∨ (24 ≤ k ∧ k ≤ 34)) : CF σ σ1 :=
  ⟨h.mo (fun k hk => by have := hS k hk; omega), fun q j hq _ => by rw [h (80 + q) (fun hs => by have := hS _ hs; omega)]⟩
theorem CF.up {σ σ1 : SI} {k j : Nat} {x : Int32} (h : CF σ σ1) (hk : (5 ≤ k ∧ k ≤ 22) ∨ (24 ≤ k ∧ k ≤ 34)) : CF σ (up2 σ1 k j x) := h.tr (CF.fr (S := fun k' => k' = k) (Fr.rf.up rfl) (fun k' hk' => by rw [hk']; exact hk))
theorem CF.upc {σ σ1 : SI} {q j : Nat} {x : Int32} (h : CF σ σ1) (hq : q < 24) (hj : j = 7 ∨ 9 ≤ j) : CF σ (up2 σ1 (80 + q) j x) := by
  refine h.tr ⟨Fr.rf.up (by omega), fun q' j' hq' hj' => ?_⟩
  by_cases e : q' = q
  · subst e
    exact up2_n (by omega)
  · exact up2_o (by omega)
theorem CF.ways {σ σ1 : SI} (h : Fr (fun k => 12 ≤ k ∧ k ≤ 17) σ σ1) : CF σ σ1 := CF.fr h (fun k hk => by omega)
theorem CF.fore {σ σ1 : SI} (h : Fr (fun k => 18 ≤ k ∧ k ≤ 20) σ σ1) : CF σ σ1 := CF.fr h (fun k hk => by omega)
def ClC (σ s4 : SI) : Prop := Fr (fun k => k = 0 ∨ (5 ≤ k ∧ k ≤ 22) ∨ (24 ≤ k ∧ k ≤ 34) ∨ (80 ≤ k ∧ k < 104)) σ s4 ∧ (∀ q j, q < 24 → (j < 7 ∨ j = 8) → s4 (80 + q) j = σ (80 + q) j) ∧ (∀ j, j ≠ 8 → j ≠ 12 → s4 0 j = σ 0 j)
theorem ClC.mk {σ s1 s2 s3 : SI} {x : Int32} (h1 : CF σ s1) (h2 : Fr (fun k => k = 0) s1 s2) (h3 : ∀ j, j ≠ 12 → s2 0 j = s1 0 j) (h4 : CF s2 s3) : ClC σ (up2 s3 0 8 x) := by
  refine ⟨fun k hk => ?_, fun q j hq hj => ?_, fun j h8 h12 => ?_⟩
  · rw [up2_ne (by omega), h4.1 k (by omega), h2 k (by omega), h1.1 k (by omega)]
  · rw [up2_o (by omega), h4.2 q j hq hj, h2 (80 + q) (by omega), h1.2 q j hq hj]
  · rw [up2_n h8, h4.1 0 (by omega), h3 j h12, h1.1 0 (by omega)]
def AL (σ s4 : SI) : Prop := Fr (fun k => k = 0 ∨ (12 ≤ k ∧ k ≤ 17) ∨ k = 23) σ s4 ∧ ∀ j, j ≠ 7 → s4 0 j = σ 0 j
theorem AL.rf {σ : SI} : AL σ σ := ⟨Fr.rf, fun _ _ => rfl⟩
theorem AL.mk {σ s1 s3 : SI} {x : Int32} (h1 : Fr (fun k => 12 ≤ k ∧ k ≤ 17) σ s1) (h2 : Fr (fun k => k = 23) (up2 s1 0 7 x) s3) : AL σ s3 := by
  refine ⟨fun k hk => ?_, fun j hj => ?_⟩
  · rw [h2 k (by omega), up2_ne (by omega), h1 k (by omega)]
  · rw [h2 0 (by omega), up2_n hj, h1 0 (by omega)]
def MRel (S J : Nat → Prop) (σ σ1 : SI) : Prop := (∀ k, k ≠ 35 → ¬ S k → σ1 k = σ k) ∧ ∀ j, ¬ J j → σ1 35 j = σ 35 j
theorem MRel.rf {S J : Nat → Prop} {σ : SI} : MRel S J σ σ := ⟨fun _ _ _ => rfl, fun _ _ => rfl⟩
theorem MRel.tr {S J : Nat → Prop} {σ σ1 σ2 : SI} (h : MRel S J σ σ1) (h2 : MRel S J σ1 σ2) : MRel S J σ σ2 := ⟨fun k hk hs => (h2.1 k hk hs).trans (h.1 k hk hs), fun j hj => (h2.2 j hj).trans (h.2 j hj)⟩
theorem MRel.up {S J : Nat → Prop} {σ σ1 : SI} {k j : Nat} {x : Int32} (h : MRel S J σ σ1) (hk : k ≠ 35) (hs : S k) : MRel S J σ (up2 σ1 k j x) :=
  ⟨fun k' h1 h2 => (up2_ne (fun (q : k' = k) => h2 (by rw [q]; exact hs))).trans (h.1 k' h1 h2), fun j' h1 => (up2_o (fun q => hk q.symm)).trans (h.2 j' h1)⟩
theorem MRel.upm {S J : Nat → Prop} {σ σ1 : SI} {j : Nat} {x : Int32} (h : MRel S J σ σ1) (hj : J j) : MRel S J σ (up2 σ1 35 j x) :=
  ⟨fun k' h1 h2 => (up2_ne h1).trans (h.1 k' h1 h2), fun j' h1 => (up2_n (fun (q : j' = j) => h1 (by rw [q]; exact hj))).trans (h.2 j' h1)⟩
theorem MRel.mo {S J S2 J2 : Nat → Prop} {σ σ1 : SI} (h : MRel S J σ σ1) (h1 : ∀ k, S k → S2 k) (h2 : ∀ j, J j → J2 j) : MRel S2 J2 σ σ1 := ⟨fun k hk hs => h.1 k hk (fun q => hs (h1 k q)), fun j hj => h.2 j (fun q => hj (h2 j q))⟩
theorem MRel.mfc {σ σ1 : SI} (h : MRel (fun _ => False) (fun j => j = 44) σ σ1) : MRel (fun k => (41 ≤ k ∧ k ≤ 46 ∧ k ≠ 42 ∧ k ≠ 43) ∨ (52 ≤ k ∧ k ≤ 69) ∨ k = 71) (fun j => j = 37 ∨ j = 41 ∨ j = 43 ∨ j = 44) σ σ1 := h.mo (fun _ q => q.elim) (fun j q => by omega)
theorem MRel.mgc {σ σ1 : SI} (h : MRel (fun k => k = 68 ∨ k = 69) (fun j => j = 41 ∨ j = 43) σ σ1) : MRel (fun k => (41 ≤ k ∧ k ≤ 46 ∧ k ≠ 42 ∧ k ≠ 43) ∨ (52 ≤ k ∧ k ≤ 69) ∨ k = 71) (fun j => j = 37 ∨ j = 41 ∨ j = 43 ∨ j = 44) σ σ1 := h.mo (fun k q => by omega) (fun j q => by omega)
theorem atE {x y : Int32} {a b : Nat} (h1 : 0 ≤ x.toInt ∧ x.toInt ≤ 200) (h2 : 0 ≤ y.toInt ∧ y.toInt < 24) (ha : x.toInt.toNat = a) (hb : y.toInt.toNat = b) : (24 : Int32) * x + y = nI (24 * a + b) := by
  apply i32_ext
  have e1 : ((24 : Int32) * x).toInt = 24 * x.toInt := mulI (by decide) rfl (by omega) (by omega)
  rw [addI e1 rfl (by omega) (by omega), nI_T _ (by omega)]
  omega
def toldM (σ : SI) (q : Nat) (hr : Int32) (hq : Nat) : Int32 :=
  if hr.toInt < 0 ∨ (σ 35 29).toInt < hr.toInt then 1000000 else if (σ 50 (24 * hq + q)).toInt = 0 then 1000000
  else if (σ 36 q).toInt = 4 then σ 48 (24 * hq + q) else if (σ 36 q).toInt = 5 then σ 48 (24 * hq + q) - σ 47 q
  else if (σ 51 (24 * hq + q)).toInt = 0 then 1000000 else (σ 48 (24 * hq + q) + σ 49 (24 * hq + q)) / 8
def otherM (σ : SI) (j : Nat) (pl : Int32) : Int32 := if (σ 37 j).toInt = pl.toInt then σ 38 j else if (σ 38 j).toInt = pl.toInt then σ 37 j else -1
def cntM (σ : SI) (q : Nat) : Nat → Int32
  | 0 => 0
  | n + 1 => if (σ 50 (24 * n + q)).toInt = 0 ∧ (σ 51 (24 * n + q)).toInt = 0 then cntM σ q n else cntM σ q n + 1
/-- the first n hours of place q have no reading any more -/
def TornN (σ σ1 : SI) (q n : Nat) : Prop := Fr (fun k => k = 50 ∨ k = 51) σ σ1 ∧ (∀ h, h < n → σ1 50 (24 * h + q) = 0 ∧ σ1 51 (24 * h + q) = 0) ∧ ∀ j, (∀ h, h < n → j ≠ 24 * h + q) → σ1 50 j = σ 50 j ∧ σ1 51 j = σ 51 j
theorem TornN.rf {σ : SI} {q : Nat} : TornN σ σ q 0 := ⟨Fr.rf, fun h hh => by omega, fun _ _ => ⟨rfl, rfl⟩⟩
theorem TornN.st {σ σ1 : SI} {q n : Nat} (h : TornN σ σ1 q n) : TornN σ (up2 (up2 σ1 50 (24 * n + q) 0) 51 (24 * n + q) 0) q (n + 1) := by
  obtain ⟨h1, h2, h3⟩ := h
  refine ⟨(h1.up (Or.inl rfl)).up (Or.inr rfl), fun k hk => ?_, fun j hj => ?_⟩
  · by_cases e : k = n
    · subst e
      exact ⟨(up2_o (by omega)).trans up2_s, up2_s⟩
    · obtain ⟨a, b⟩ := h2 k (by omega)
      exact ⟨(up2_o (by omega)).trans ((up2_n (by omega)).trans a), (up2_n (by omega)).trans ((up2_o (by omega)).trans b)⟩
  · obtain ⟨a, b⟩ := h3 j (fun k hk => hj k (by omega))
    have hne := hj n (by omega)
    exact ⟨(up2_o (by omega)).trans ((up2_n hne).trans a), (up2_n hne).trans ((up2_o (by omega)).trans b)⟩
def hasLkM (σ : SI) (pl : Int32) : Prop := ∃ q, q < 24 ∧ 4 ≤ (σ 36 q).toInt ∧ (σ 36 q).toInt ≤ 6 ∧ ((σ 37 q).toInt = pl.toInt ∨ (σ 38 q).toInt = pl.toInt)
theorem ne0I {y : Int32} {a : Int} (h : y.toInt = a) (h2 : a ≠ 0) : ¬ y = 0 := fun q => h2 (by rw [← h, q]; rfl)
theorem ne0L {y : Int64} {a : Int} (h : y.toInt = a) (h2 : a ≠ 0) : ¬ y = 0 := fun q => h2 (by rw [← h, q]; rfl)
theorem ct_line {k : Nat} (h : k = 19 ∨ k = 20) (G : Gx) (f : Nat → Int32) (g : Nat → Int64) : ct G k f g = some (.inr (3, [.int (f 0), .long (g 1), .long (g 2), .long (g 3), .long (g 4)])) := by rcases h with rfl | rfl <;> rfl
def DJ9 : List String := ["(II)I", "(I)I", "(JJ)J", "(J)J", "(JI)J", "(JI)I", "(J)I"]
theorem nat_J9 : (Jvm.natives.all fun r => r.cls != RJ9 || DJ9.all fun d => r.desc != d) = true := by decide +kernel
theorem nat_J7 : (Jvm.natives.all fun r => r.cls != RJ7) = true := by decide +kernel
theorem plainJ7 {y : MethodName} (hy : y.cls = RJ7) : plainFor y = true := by
  unfold plainFor NativeRow.find?
  have e : (Jvm.natives.find? fun r => r.name == y.name && r.cls == y.cls && r.desc == y.desc) = none := by
    rw [List.find?_eq_none]
    intro r hr hc
    have h2 := List.all_eq_true.mp nat_J7 r hr
    simp only [Bool.and_eq_true, beq_iff_eq] at hc
    rw [hc.1.2, hy] at h2
    exact absurd h2 (by decide)
  rw [e]
  simp
theorem plainJ9 {y : MethodName} (hy : y.cls = RJ9) (hd : y.desc ∈ DJ9) : plainFor y = true := by
  unfold plainFor NativeRow.find?
  have e : (Jvm.natives.find? fun r => r.name == y.name && r.cls == y.cls && r.desc == y.desc) = none := by
    rw [List.find?_eq_none]
    intro r hr hc
    have h2 := List.all_eq_true.mp nat_J9 r hr
    simp only [Bool.and_eq_true, beq_iff_eq] at hc
    rw [hc.1.2, hy, hc.2] at h2
    simp only [bne_self_eq_false, Bool.false_or] at h2
    have h3 := List.all_eq_true.mp h2 y.desc hd
    rw [bne_self_eq_false] at h3
    exact absurd h3 (by decide)
  rw [e]
  simp

def codes0 : List (List (Nat × AOP)) := [cd_X0_init, cd_X0_actOf, cd_X0_hasEmber, cd_X0_forget, cd_X0_add, cd_X1_init, cd_X1_clear, cd_X1_become, cd_X1_has, cd_X1_isFree, cd_X1_lay, cd_X1_takeOut, cd_X1_takeOutAll, cd_X1_giveFullHeat, cd_X1_carry, cd_X1_stoke, cd_X1_addFuel, cd_X1_pass, cd_X1_litBits, cd_X1_ashBits, cd_X1_hereBits, cd_X1_heatOfAll, cd_X1_fuelOfAll, cd_X1_heatBeside, cd_X1_touching, cd_X1_hangingWith, cd_X1_stackOf, cd_X1_warm, cd_X1_burn, cd_X1_besideOf, cd_X2_init, cd_X2_behind, cd_X2_watch, cd_X2_outOf, cd_X2_firstLit, cd_X2_longest, cd_X2_hottestHour, cd_X2_lastsNow, cd_X2_bestMove, cd_X2_bestBanking]
theorem scodes0 {w : WD} {l : Launch} : ∀ q ∈ mts0.zip codes0, ∀ z ∈ q.2, SndOp w l mt q.1 z.1 z.2 ∧ MonOp z.2 := List.forall_mem_cons.mpr ⟨scd_X0_init, List.forall_mem_cons.mpr ⟨scd_X0_actOf, List.forall_mem_cons.mpr ⟨scd_X0_hasEmber, List.forall_mem_cons.mpr ⟨scd_X0_forget, List.forall_mem_cons.mpr ⟨scd_X0_add, List.forall_mem_cons.mpr ⟨scd_X1_init, List.forall_mem_cons.mpr ⟨scd_X1_clear, List.forall_mem_cons.mpr ⟨scd_X1_become, List.forall_mem_cons.mpr ⟨scd_X1_has, List.forall_mem_cons.mpr ⟨scd_X1_isFree, List.forall_mem_cons.mpr ⟨scd_X1_lay, List.forall_mem_cons.mpr ⟨scd_X1_takeOut, List.forall_mem_cons.mpr ⟨scd_X1_takeOutAll, List.forall_mem_cons.mpr ⟨scd_X1_giveFullHeat, List.forall_mem_cons.mpr ⟨scd_X1_carry, List.forall_mem_cons.mpr ⟨scd_X1_stoke, List.forall_mem_cons.mpr ⟨scd_X1_addFuel, List.forall_mem_cons.mpr ⟨scd_X1_pass, List.forall_mem_cons.mpr ⟨scd_X1_litBits, List.forall_mem_cons.mpr ⟨scd_X1_ashBits, List.forall_mem_cons.mpr ⟨scd_X1_hereBits, List.forall_mem_cons.mpr ⟨scd_X1_heatOfAll, List.forall_mem_cons.mpr ⟨scd_X1_fuelOfAll, List.forall_mem_cons.mpr ⟨scd_X1_heatBeside, List.forall_mem_cons.mpr ⟨scd_X1_touching, List.forall_mem_cons.mpr ⟨scd_X1_hangingWith, List.forall_mem_cons.mpr ⟨scd_X1_stackOf, List.forall_mem_cons.mpr ⟨scd_X1_warm, List.forall_mem_cons.mpr ⟨scd_X1_burn, List.forall_mem_cons.mpr ⟨scd_X1_besideOf, List.forall_mem_cons.mpr ⟨scd_X2_init, List.forall_mem_cons.mpr ⟨scd_X2_behind, List.forall_mem_cons.mpr ⟨scd_X2_watch, List.forall_mem_cons.mpr ⟨scd_X2_outOf, List.forall_mem_cons.mpr ⟨scd_X2_firstLit, List.forall_mem_cons.mpr ⟨scd_X2_longest, List.forall_mem_cons.mpr ⟨scd_X2_hottestHour, List.forall_mem_cons.mpr ⟨scd_X2_lastsNow, List.forall_mem_cons.mpr ⟨scd_X2_bestMove, List.forall_mem_cons.mpr ⟨scd_X2_bestBanking, List.forall_mem_nil _⟩⟩⟩⟩⟩⟩⟩⟩⟩⟩⟩⟩⟩⟩⟩⟩⟩⟩⟩⟩⟩⟩⟩⟩⟩⟩⟩⟩⟩⟩⟩⟩⟩⟩⟩⟩⟩⟩⟩⟩
def codes1 : List (List (Nat × AOP)) := [cd_X2_bestPoke, cd_X2_nextFalls, cd_X2_gainBy, cd_X2_judge, cd_X2_winter, cd_X2_tryLine, cd_X2_tend, cd_X2_draw, cd_X2_trialLasts, cd_X3_init, cd_X3_forget, cd_X3_addEmber, cd_X3_addDraught, cd_X3_emberNamed, cd_X3_draughtAt, cd_X4_withLetter, cd_X4_ofLetters, cd_X5_init, cd_X5_ofFact, cd_X5_add, cd_X5_tells, cd_X5_join, cd_X6_init, cd_X6_keep, cd_X6_bringBack, cd_X6_lay, cd_X6_goBack, cd_X6_forget, cd_X7_init, cd_X7_readGrate, cd_X7_readEvening, cd_X7_wrong, cd_X7_takeKey, cd_X7_takeSign, cd_X7_takeNumber, cd_X7_grateLine, cd_X7_emberLine, cd_X7_draughtLine, cd_X7_catchesLine, cd_X7_joined]
theorem scodes1 {w : WD} {l : Launch} : ∀ q ∈ mts1.zip codes1, ∀ z ∈ q.2, SndOp w l mt q.1 z.1 z.2 ∧ MonOp z.2 := List.forall_mem_cons.mpr ⟨scd_X2_bestPoke, List.forall_mem_cons.mpr ⟨scd_X2_nextFalls, List.forall_mem_cons.mpr ⟨scd_X2_gainBy, List.forall_mem_cons.mpr ⟨scd_X2_judge, List.forall_mem_cons.mpr ⟨scd_X2_winter, List.forall_mem_cons.mpr ⟨scd_X2_tryLine, List.forall_mem_cons.mpr ⟨scd_X2_tend, List.forall_mem_cons.mpr ⟨scd_X2_draw, List.forall_mem_cons.mpr ⟨scd_X2_trialLasts, List.forall_mem_cons.mpr ⟨scd_X3_init, List.forall_mem_cons.mpr ⟨scd_X3_forget, List.forall_mem_cons.mpr ⟨scd_X3_addEmber, List.forall_mem_cons.mpr ⟨scd_X3_addDraught, List.forall_mem_cons.mpr ⟨scd_X3_emberNamed, List.forall_mem_cons.mpr ⟨scd_X3_draughtAt, List.forall_mem_cons.mpr ⟨scd_X4_withLetter, List.forall_mem_cons.mpr ⟨scd_X4_ofLetters, List.forall_mem_cons.mpr ⟨scd_X5_init, List.forall_mem_cons.mpr ⟨scd_X5_ofFact, List.forall_mem_cons.mpr ⟨scd_X5_add, List.forall_mem_cons.mpr ⟨scd_X5_tells, List.forall_mem_cons.mpr ⟨scd_X5_join, List.forall_mem_cons.mpr ⟨scd_X6_init, List.forall_mem_cons.mpr ⟨scd_X6_keep, List.forall_mem_cons.mpr ⟨scd_X6_bringBack, List.forall_mem_cons.mpr ⟨scd_X6_lay, List.forall_mem_cons.mpr ⟨scd_X6_goBack, List.forall_mem_cons.mpr ⟨scd_X6_forget, List.forall_mem_cons.mpr ⟨scd_X7_init, List.forall_mem_cons.mpr ⟨scd_X7_readGrate, List.forall_mem_cons.mpr ⟨scd_X7_readEvening, List.forall_mem_cons.mpr ⟨scd_X7_wrong, List.forall_mem_cons.mpr ⟨scd_X7_takeKey, List.forall_mem_cons.mpr ⟨scd_X7_takeSign, List.forall_mem_cons.mpr ⟨scd_X7_takeNumber, List.forall_mem_cons.mpr ⟨scd_X7_grateLine, List.forall_mem_cons.mpr ⟨scd_X7_emberLine, List.forall_mem_cons.mpr ⟨scd_X7_draughtLine, List.forall_mem_cons.mpr ⟨scd_X7_catchesLine, List.forall_mem_cons.mpr ⟨scd_X7_joined, List.forall_mem_nil _⟩⟩⟩⟩⟩⟩⟩⟩⟩⟩⟩⟩⟩⟩⟩⟩⟩⟩⟩⟩⟩⟩⟩⟩⟩⟩⟩⟩⟩⟩⟩⟩⟩⟩⟩⟩⟩⟩⟩⟩
def codes2 : List (List (Nat × AOP)) := [cd_X7_levelHere, cd_X7_stepHere, cd_X7_part, cd_X7_eveningLine, cd_X7_takeEmber, cd_X8_init, cd_X8_fewestLit, cd_X8_fewestTaken, cd_X8_suspects, cd_X8_bestLook, cd_X8_millionths, cd_X8_trialGlows, cd_X8_suspectsSeen, cd_X9_init, cd_X9_put, cd_X9_empty, cd_X9_toFirst, cd_X9_toNext, cd_X9_isSign, cd_X9_isBlank, cd_X9_isLetter, cd_X9_isDigit, cd_X9_isOwnSign, cd_X10_init, cd_X10_add, cd_X10_become, cd_X10_forget, cd_X10_agrees, cd_X11_init, cd_X11_feed, cd_X11_grate, cd_X11_evening, cd_X11_ember, cd_X11_cell, cd_X11_hour, cd_X11_poke, cd_X11_tongs, cd_X11_fuel, cd_X11_bank, cd_X11_undo]
theorem scodes2 {w : WD} {l : Launch} : ∀ q ∈ mts2.zip codes2, ∀ z ∈ q.2, SndOp w l mt q.1 z.1 z.2 ∧ MonOp z.2 := List.forall_mem_cons.mpr ⟨scd_X7_levelHere, List.forall_mem_cons.mpr ⟨scd_X7_stepHere, List.forall_mem_cons.mpr ⟨scd_X7_part, List.forall_mem_cons.mpr ⟨scd_X7_eveningLine, List.forall_mem_cons.mpr ⟨scd_X7_takeEmber, List.forall_mem_cons.mpr ⟨scd_X8_init, List.forall_mem_cons.mpr ⟨scd_X8_fewestLit, List.forall_mem_cons.mpr ⟨scd_X8_fewestTaken, List.forall_mem_cons.mpr ⟨scd_X8_suspects, List.forall_mem_cons.mpr ⟨scd_X8_bestLook, List.forall_mem_cons.mpr ⟨scd_X8_millionths, List.forall_mem_cons.mpr ⟨scd_X8_trialGlows, List.forall_mem_cons.mpr ⟨scd_X8_suspectsSeen, List.forall_mem_cons.mpr ⟨scd_X9_init, List.forall_mem_cons.mpr ⟨scd_X9_put, List.forall_mem_cons.mpr ⟨scd_X9_empty, List.forall_mem_cons.mpr ⟨scd_X9_toFirst, List.forall_mem_cons.mpr ⟨scd_X9_toNext, List.forall_mem_cons.mpr ⟨scd_X9_isSign, List.forall_mem_cons.mpr ⟨scd_X9_isBlank, List.forall_mem_cons.mpr ⟨scd_X9_isLetter, List.forall_mem_cons.mpr ⟨scd_X9_isDigit, List.forall_mem_cons.mpr ⟨scd_X9_isOwnSign, List.forall_mem_cons.mpr ⟨scd_X10_init, List.forall_mem_cons.mpr ⟨scd_X10_add, List.forall_mem_cons.mpr ⟨scd_X10_become, List.forall_mem_cons.mpr ⟨scd_X10_forget, List.forall_mem_cons.mpr ⟨scd_X10_agrees, List.forall_mem_cons.mpr ⟨scd_X11_init, List.forall_mem_cons.mpr ⟨scd_X11_feed, List.forall_mem_cons.mpr ⟨scd_X11_grate, List.forall_mem_cons.mpr ⟨scd_X11_evening, List.forall_mem_cons.mpr ⟨scd_X11_ember, List.forall_mem_cons.mpr ⟨scd_X11_cell, List.forall_mem_cons.mpr ⟨scd_X11_hour, List.forall_mem_cons.mpr ⟨scd_X11_poke, List.forall_mem_cons.mpr ⟨scd_X11_tongs, List.forall_mem_cons.mpr ⟨scd_X11_fuel, List.forall_mem_cons.mpr ⟨scd_X11_bank, List.forall_mem_cons.mpr ⟨scd_X11_undo, List.forall_mem_nil _⟩⟩⟩⟩⟩⟩⟩⟩⟩⟩⟩⟩⟩⟩⟩⟩⟩⟩⟩⟩⟩⟩⟩⟩⟩⟩⟩⟩⟩⟩⟩⟩⟩⟩⟩⟩⟩⟩⟩⟩
def codes3 : List (List (Nat × AOP)) := [cd_X11_judged, cd_X11_out, cd_X11_lasts, cd_X11_last, cd_X11_peak, cd_X11_age, cd_X11_move, cd_X11_banks, cd_X11_stir, cd_X11_kindle, cd_X11_save, cd_X11_tell, cd_X11_which, cd_X11_look, cd_X11_chance, cd_X11_touch, cd_X11_hall, cd_X11_halls, cd_X11_tower, cd_X11_alight, cd_X11_caught, cd_X11_ash, cd_X11_falls, cd_X11_spare, cd_X11_lone, cd_X11_warmest, cd_X11_winters, cd_X11_mark, cd_X11_count, cd_X11_beginAnew, cd_X11_isEmber, cd_X11_isCell, cd_X11_isLongView, cd_X11_isGain, cd_X11_isAtRest, cd_X11_gainsByTurning, cd_X11_gainOf, cd_X12_thrown, cd_X12_feed, cd_X12_lay]
theorem scodes3 {w : WD} {l : Launch} : ∀ q ∈ mts3.zip codes3, ∀ z ∈ q.2, SndOp w l mt q.1 z.1 z.2 ∧ MonOp z.2 := List.forall_mem_cons.mpr ⟨scd_X11_judged, List.forall_mem_cons.mpr ⟨scd_X11_out, List.forall_mem_cons.mpr ⟨scd_X11_lasts, List.forall_mem_cons.mpr ⟨scd_X11_last, List.forall_mem_cons.mpr ⟨scd_X11_peak, List.forall_mem_cons.mpr ⟨scd_X11_age, List.forall_mem_cons.mpr ⟨scd_X11_move, List.forall_mem_cons.mpr ⟨scd_X11_banks, List.forall_mem_cons.mpr ⟨scd_X11_stir, List.forall_mem_cons.mpr ⟨scd_X11_kindle, List.forall_mem_cons.mpr ⟨scd_X11_save, List.forall_mem_cons.mpr ⟨scd_X11_tell, List.forall_mem_cons.mpr ⟨scd_X11_which, List.forall_mem_cons.mpr ⟨scd_X11_look, List.forall_mem_cons.mpr ⟨scd_X11_chance, List.forall_mem_cons.mpr ⟨scd_X11_touch, List.forall_mem_cons.mpr ⟨scd_X11_hall, List.forall_mem_cons.mpr ⟨scd_X11_halls, List.forall_mem_cons.mpr ⟨scd_X11_tower, List.forall_mem_cons.mpr ⟨scd_X11_alight, List.forall_mem_cons.mpr ⟨scd_X11_caught, List.forall_mem_cons.mpr ⟨scd_X11_ash, List.forall_mem_cons.mpr ⟨scd_X11_falls, List.forall_mem_cons.mpr ⟨scd_X11_spare, List.forall_mem_cons.mpr ⟨scd_X11_lone, List.forall_mem_cons.mpr ⟨scd_X11_warmest, List.forall_mem_cons.mpr ⟨scd_X11_winters, List.forall_mem_cons.mpr ⟨scd_X11_mark, List.forall_mem_cons.mpr ⟨scd_X11_count, List.forall_mem_cons.mpr ⟨scd_X11_beginAnew, List.forall_mem_cons.mpr ⟨scd_X11_isEmber, List.forall_mem_cons.mpr ⟨scd_X11_isCell, List.forall_mem_cons.mpr ⟨scd_X11_isLongView, List.forall_mem_cons.mpr ⟨scd_X11_isGain, List.forall_mem_cons.mpr ⟨scd_X11_isAtRest, List.forall_mem_cons.mpr ⟨scd_X11_gainsByTurning, List.forall_mem_cons.mpr ⟨scd_X11_gainOf, List.forall_mem_cons.mpr ⟨scd_X12_thrown, List.forall_mem_cons.mpr ⟨scd_X12_feed, List.forall_mem_cons.mpr ⟨scd_X12_lay, List.forall_mem_nil _⟩⟩⟩⟩⟩⟩⟩⟩⟩⟩⟩⟩⟩⟩⟩⟩⟩⟩⟩⟩⟩⟩⟩⟩⟩⟩⟩⟩⟩⟩⟩⟩⟩⟩⟩⟩⟩⟩⟩⟩
def codes4 : List (List (Nat × AOP)) := [cd_X12_init, cd_X12_isLetter, cd_X12_isDigit, cd_X12_rank, cd_X12_isSignOf, cd_X12_cutAll, cd_X12_wrong, cd_X12_isSign, cd_X12_isWord, cd_X12_takeSign, cd_X12_hasSign, cd_X12_hasWord, cd_X12_takeWord, cd_X12_within, cd_X12_standsAsAlways, cd_X12_takeNumber, cd_X12_takeAfter, cd_X12_wordHere, cd_X12_takeOne, cd_X12_isName, cd_X12_nameAt, cd_X12_takeTold, cd_X12_grate, cd_X12_takeCell, cd_X12_readEmber, cd_X12_readOnce, cd_X12_readDraught, cd_X12_evening, cd_X12_emit, cd_X12_whole, cd_X12_test, cd_X12_sums, cd_X12_products, cd_X12_takePart, cd_X12_worthAt, cd_X12_both, cd_X12_copies, cd_X12_starts, cd_X12_begins, cd_X12_keeps]
theorem scodes4 {w : WD} {l : Launch} : ∀ q ∈ mts4.zip codes4, ∀ z ∈ q.2, SndOp w l mt q.1 z.1 z.2 ∧ MonOp z.2 := List.forall_mem_cons.mpr ⟨scd_X12_init, List.forall_mem_cons.mpr ⟨scd_X12_isLetter, List.forall_mem_cons.mpr ⟨scd_X12_isDigit, List.forall_mem_cons.mpr ⟨scd_X12_rank, List.forall_mem_cons.mpr ⟨scd_X12_isSignOf, List.forall_mem_cons.mpr ⟨scd_X12_cutAll, List.forall_mem_cons.mpr ⟨scd_X12_wrong, List.forall_mem_cons.mpr ⟨scd_X12_isSign, List.forall_mem_cons.mpr ⟨scd_X12_isWord, List.forall_mem_cons.mpr ⟨scd_X12_takeSign, List.forall_mem_cons.mpr ⟨scd_X12_hasSign, List.forall_mem_cons.mpr ⟨scd_X12_hasWord, List.forall_mem_cons.mpr ⟨scd_X12_takeWord, List.forall_mem_cons.mpr ⟨scd_X12_within, List.forall_mem_cons.mpr ⟨scd_X12_standsAsAlways, List.forall_mem_cons.mpr ⟨scd_X12_takeNumber, List.forall_mem_cons.mpr ⟨scd_X12_takeAfter, List.forall_mem_cons.mpr ⟨scd_X12_wordHere, List.forall_mem_cons.mpr ⟨scd_X12_takeOne, List.forall_mem_cons.mpr ⟨scd_X12_isName, List.forall_mem_cons.mpr ⟨scd_X12_nameAt, List.forall_mem_cons.mpr ⟨scd_X12_takeTold, List.forall_mem_cons.mpr ⟨scd_X12_grate, List.forall_mem_cons.mpr ⟨scd_X12_takeCell, List.forall_mem_cons.mpr ⟨scd_X12_readEmber, List.forall_mem_cons.mpr ⟨scd_X12_readOnce, List.forall_mem_cons.mpr ⟨scd_X12_readDraught, List.forall_mem_cons.mpr ⟨scd_X12_evening, List.forall_mem_cons.mpr ⟨scd_X12_emit, List.forall_mem_cons.mpr ⟨scd_X12_whole, List.forall_mem_cons.mpr ⟨scd_X12_test, List.forall_mem_cons.mpr ⟨scd_X12_sums, List.forall_mem_cons.mpr ⟨scd_X12_products, List.forall_mem_cons.mpr ⟨scd_X12_takePart, List.forall_mem_cons.mpr ⟨scd_X12_worthAt, List.forall_mem_cons.mpr ⟨scd_X12_both, List.forall_mem_cons.mpr ⟨scd_X12_copies, List.forall_mem_cons.mpr ⟨scd_X12_starts, List.forall_mem_cons.mpr ⟨scd_X12_begins, List.forall_mem_cons.mpr ⟨scd_X12_keeps, List.forall_mem_nil _⟩⟩⟩⟩⟩⟩⟩⟩⟩⟩⟩⟩⟩⟩⟩⟩⟩⟩⟩⟩⟩⟩⟩⟩⟩⟩⟩⟩⟩⟩⟩⟩⟩⟩⟩⟩⟩⟩⟩⟩
def codes5 : List (List (Nat × AOP)) := [cd_X12_embers, cd_X12_emberOf, cd_X12_isEmber, cd_X12_isThere, cd_X12_isAlight, cd_X12_alightNow, cd_X12_lyingIn, cd_X12_doTouch, cd_X12_touchOf, cd_X12_nearOf, cd_X12_bits, cd_X12_falls, cd_X12_vanishes, cd_X12_draughtOf, cd_X12_passes, cd_X12_passes_, cd_X12_heatOfAll, cd_X12_pokes, cd_X12_feeds, cd_X12_ember, cd_X12_cell, cd_X12_hour, cd_X12_poke, cd_X12_mayCarry, cd_X12_tongs, cd_X12_fuel, cd_X12_bank, cd_X12_undo, cd_X12_judged, cd_X12_triesNow, cd_X12_outOf, cd_X12_out, cd_X12_last, cd_X12_lastsFor, cd_X12_lasts, cd_X12_caught, cd_X12_ash, cd_X12_falls_, cd_X12_spare, cd_X12_peak]
theorem scodes5 {w : WD} {l : Launch} : ∀ q ∈ mts5.zip codes5, ∀ z ∈ q.2, SndOp w l mt q.1 z.1 z.2 ∧ MonOp z.2 := List.forall_mem_cons.mpr ⟨scd_X12_embers, List.forall_mem_cons.mpr ⟨scd_X12_emberOf, List.forall_mem_cons.mpr ⟨scd_X12_isEmber, List.forall_mem_cons.mpr ⟨scd_X12_isThere, List.forall_mem_cons.mpr ⟨scd_X12_isAlight, List.forall_mem_cons.mpr ⟨scd_X12_alightNow, List.forall_mem_cons.mpr ⟨scd_X12_lyingIn, List.forall_mem_cons.mpr ⟨scd_X12_doTouch, List.forall_mem_cons.mpr ⟨scd_X12_touchOf, List.forall_mem_cons.mpr ⟨scd_X12_nearOf, List.forall_mem_cons.mpr ⟨scd_X12_bits, List.forall_mem_cons.mpr ⟨scd_X12_falls, List.forall_mem_cons.mpr ⟨scd_X12_vanishes, List.forall_mem_cons.mpr ⟨scd_X12_draughtOf, List.forall_mem_cons.mpr ⟨scd_X12_passes, List.forall_mem_cons.mpr ⟨scd_X12_passes_, List.forall_mem_cons.mpr ⟨scd_X12_heatOfAll, List.forall_mem_cons.mpr ⟨scd_X12_pokes, List.forall_mem_cons.mpr ⟨scd_X12_feeds, List.forall_mem_cons.mpr ⟨scd_X12_ember, List.forall_mem_cons.mpr ⟨scd_X12_cell, List.forall_mem_cons.mpr ⟨scd_X12_hour, List.forall_mem_cons.mpr ⟨scd_X12_poke, List.forall_mem_cons.mpr ⟨scd_X12_mayCarry, List.forall_mem_cons.mpr ⟨scd_X12_tongs, List.forall_mem_cons.mpr ⟨scd_X12_fuel, List.forall_mem_cons.mpr ⟨scd_X12_bank, List.forall_mem_cons.mpr ⟨scd_X12_undo, List.forall_mem_cons.mpr ⟨scd_X12_judged, List.forall_mem_cons.mpr ⟨scd_X12_triesNow, List.forall_mem_cons.mpr ⟨scd_X12_outOf, List.forall_mem_cons.mpr ⟨scd_X12_out, List.forall_mem_cons.mpr ⟨scd_X12_last, List.forall_mem_cons.mpr ⟨scd_X12_lastsFor, List.forall_mem_cons.mpr ⟨scd_X12_lasts, List.forall_mem_cons.mpr ⟨scd_X12_caught, List.forall_mem_cons.mpr ⟨scd_X12_ash, List.forall_mem_cons.mpr ⟨scd_X12_falls_, List.forall_mem_cons.mpr ⟨scd_X12_spare, List.forall_mem_cons.mpr ⟨scd_X12_peak, List.forall_mem_nil _⟩⟩⟩⟩⟩⟩⟩⟩⟩⟩⟩⟩⟩⟩⟩⟩⟩⟩⟩⟩⟩⟩⟩⟩⟩⟩⟩⟩⟩⟩⟩⟩⟩⟩⟩⟩⟩⟩⟩⟩
def codes6 : List (List (Nat × AOP)) := [cd_X12_age, cd_X12_move, cd_X12_lastsBanked, cd_X12_banks, cd_X12_stir, cd_X12_everAlight, cd_X12_thereNow, cd_X12_kindle, cd_X12_save, cd_X12_tell, cd_X12_litFor, cd_X12_whichNow, cd_X12_which, cd_X12_look, cd_X12_chance, cd_X12_touch, cd_X12_lone, cd_X12_warmest, cd_X12_hallOf, cd_X12_hall, cd_X12_halls, cd_X12_tower, cd_X12_alight, cd_X12_getsBy, cd_X12_rests, cd_X12_draw, cd_X12_drawsDeed, cd_X12_winters, cd_X12_mark, cd_X12_count, cd_J6_bitCount_0f7a4]
theorem scodes6 {w : WD} {l : Launch} : ∀ q ∈ mts6.zip codes6, ∀ z ∈ q.2, SndOp w l mt q.1 z.1 z.2 ∧ MonOp z.2 := List.forall_mem_cons.mpr ⟨scd_X12_age, List.forall_mem_cons.mpr ⟨scd_X12_move, List.forall_mem_cons.mpr ⟨scd_X12_lastsBanked, List.forall_mem_cons.mpr ⟨scd_X12_banks, List.forall_mem_cons.mpr ⟨scd_X12_stir, List.forall_mem_cons.mpr ⟨scd_X12_everAlight, List.forall_mem_cons.mpr ⟨scd_X12_thereNow, List.forall_mem_cons.mpr ⟨scd_X12_kindle, List.forall_mem_cons.mpr ⟨scd_X12_save, List.forall_mem_cons.mpr ⟨scd_X12_tell, List.forall_mem_cons.mpr ⟨scd_X12_litFor, List.forall_mem_cons.mpr ⟨scd_X12_whichNow, List.forall_mem_cons.mpr ⟨scd_X12_which, List.forall_mem_cons.mpr ⟨scd_X12_look, List.forall_mem_cons.mpr ⟨scd_X12_chance, List.forall_mem_cons.mpr ⟨scd_X12_touch, List.forall_mem_cons.mpr ⟨scd_X12_lone, List.forall_mem_cons.mpr ⟨scd_X12_warmest, List.forall_mem_cons.mpr ⟨scd_X12_hallOf, List.forall_mem_cons.mpr ⟨scd_X12_hall, List.forall_mem_cons.mpr ⟨scd_X12_halls, List.forall_mem_cons.mpr ⟨scd_X12_tower, List.forall_mem_cons.mpr ⟨scd_X12_alight, List.forall_mem_cons.mpr ⟨scd_X12_getsBy, List.forall_mem_cons.mpr ⟨scd_X12_rests, List.forall_mem_cons.mpr ⟨scd_X12_draw, List.forall_mem_cons.mpr ⟨scd_X12_drawsDeed, List.forall_mem_cons.mpr ⟨scd_X12_winters, List.forall_mem_cons.mpr ⟨scd_X12_mark, List.forall_mem_cons.mpr ⟨scd_X12_count, List.forall_mem_cons.mpr ⟨scd_J6_bitCount_0f7a4, List.forall_mem_nil _⟩⟩⟩⟩⟩⟩⟩⟩⟩⟩⟩⟩⟩⟩⟩⟩⟩⟩⟩⟩⟩⟩⟩⟩⟩⟩⟩⟩⟩⟩⟩
def codes : List (List (Nat × AOP)) := codes0 ++ (codes1 ++ (codes2 ++ (codes3 ++ (codes4 ++ (codes5 ++ (codes6))))))
def alk : List (Nat × AOP) → Nat → Option AOP
  | [], _ => none
  | q :: l, pc => cond (Nat.beq q.1 pc) (some q.2) (alk l pc)
theorem alk_mem : ∀ (l : List (Nat × AOP)) (pc : Nat) (op : AOP), alk l pc = some op → (pc, op) ∈ l
  | [], _, _, h => by cases h
  | q :: l, pc, op, h => by
    unfold alk at h
    cases e : Nat.beq q.1 pc with
    | true =>
      rw [e] at h
      cases h
      have e2 := Nat.eq_of_beq_eq_true e
      subst e2
      exact List.mem_cons_self
    | false =>
      rw [e] at h
      exact List.mem_cons_of_mem _ (alk_mem l pc op h)
def fe (k pc : Nat) : Option AOP := alk (codes.getD k []) pc
theorem zip_all : mts.zip codes = mts0.zip codes0 ++ (mts1.zip codes1 ++ (mts2.zip codes2 ++ (mts3.zip codes3 ++ (mts4.zip codes4 ++ (mts5.zip codes5 ++ (mts6.zip codes6)))))) := by
  unfold mts codes
  rw [List.zip_append (show mts0.length = codes0.length by decide +kernel), List.zip_append (show mts1.length = codes1.length by decide +kernel), List.zip_append (show mts2.length = codes2.length by decide +kernel), List.zip_append (show mts3.length = codes3.length by decide +kernel), List.zip_append (show mts4.length = codes4.length by decide +kernel), List.zip_append (show mts5.length = codes5.length by decide +kernel)]
theorem mts_len : mts.length = 271 := by decide +kernel
theorem codes_len : codes.length = 271 := by decide +kernel
theorem fe_ok {w : WD} {l : Launch} (k pc : Nat) (op : AOP) (h : fe k pc = some op) : SndOp w l mt (mt k) pc op ∧ MonOp op := by
  have hall : ∀ q ∈ mts.zip codes, ∀ z ∈ q.2, SndOp w l mt q.1 z.1 z.2 ∧ MonOp z.2 := by
    rw [zip_all]
    exact List.forall_mem_append.mpr ⟨scodes0, List.forall_mem_append.mpr ⟨scodes1, List.forall_mem_append.mpr ⟨scodes2, List.forall_mem_append.mpr ⟨scodes3, List.forall_mem_append.mpr ⟨scodes4, List.forall_mem_append.mpr ⟨scodes5, scodes6⟩⟩⟩⟩⟩⟩
  have hm := alk_mem _ _ _ h
  rcases Nat.lt_or_ge k 271 with hk | hk
  · have h1 : mts[k]? = some (mt k) := by
      unfold mt
      rw [List.getD_eq_getElem?_getD, List.getElem?_eq_getElem (show k < mts.length by rw [mts_len]; exact hk)]; rfl
    have h2 : codes[k]? = some (codes.getD k []) := by
      rw [List.getD_eq_getElem?_getD, List.getElem?_eq_getElem (show k < codes.length by rw [codes_len]; exact hk)]; rfl
    have h3 : (mts.zip codes)[k]? = some (mt k, codes.getD k []) := by
      rw [List.getElem?_zip_eq_some]; exact ⟨h1, h2⟩
    exact hall _ (List.mem_of_getElem? h3) _ hm
  · rw [List.getD_eq_getElem?_getD, List.getElem?_eq_none (show codes.length ≤ k by rw [codes_len]; exact hk)] at hm
    cases hm
theorem mt_own : ∀ k, plainName (mt k).2.1.cls = true ∧ (mt k).1 = (mt k).2.1.cls := by
  intro k
  have hall : ∀ q ∈ mts, plainName q.2.1.cls = true ∧ q.1 = q.2.1.cls := by decide +kernel
  rcases Nat.lt_or_ge k 271 with hk | hk
  · have h1 : mts[k]? = some (mt k) := by
      unfold mt
      rw [List.getD_eq_getElem?_getD, List.getElem?_eq_getElem (show k < mts.length by rw [mts_len]; exact hk)]; rfl
    exact hall _ (List.mem_of_getElem? h1)
  · unfold mt
    rw [List.getD_eq_getElem?_getD, List.getElem?_eq_none (show mts.length ≤ k by rw [mts_len]; exact hk)]
    decide +kernel
/-! ===== without fuel ===== -/
theorem arun_mono : ∀ n d k pc ls st h r, arun mt fe n d k pc ls st h = some r → ∀ j, arun mt fe (n + j) d k pc ls st h = some r := by
  intro n
  induction n with
  | zero => intro d k pc ls st h r hr; cases hr
  | succ n ih =>
    intro d k pc ls st h r hr j
    rw [show n + 1 + j = (n + j) + 1 by omega]
    rw [arun] at hr ⊢
    cases hf : fe k pc with
    | none => rw [hf] at hr; cases hr
    | some op =>
      rw [hf] at hr
      refine (fe_ok (w := (0, fun _ => 0, fun _ => 0, fun _ _ => 0, fun _ => 0, #[])) (l := launch0) k pc op hf).2 _ _ _ _ ls st h r ?_ (fun pc' ls' st' h' r1 hg => ih d k pc' ls' st' h' r1 hg j) hr
      intro k' as h1 r1 hc
      cases d with
      | zero => cases hc
      | succ d' =>
        try dsimp only at hc ⊢
        by_cases hl : (en1 as).length ≤ (mt k').2.2.2.1
        · rw [if_pos hl] at hc ⊢
          exact ih d' k' 0 _ _ h1 r1 hc j
        · rw [if_neg hl] at hc; cases hc
def TT (d k pc : Nat) (ls : ALS) (st : List Value) (h : AHP) (Q : Option Value → AHP → Prop) : Prop := ∃ n r, arun mt fe n d k pc ls st h = some r ∧ Q r.1 r.2
def MM (d k : Nat) (as : List Value) (h : AHP) (Q : Option Value → AHP → Prop) : Prop := (en1 as).length ≤ (mt k).2.2.2.1 ∧ TT d k 0 (en0 (mt k).2.2.2.1 as) [] h Q
section TTS
variable {d k pc pc' : Nat} {ls ls' : ALS} {st st' : List Value} {h h' : AHP} {Q : Option Value → AHP → Prop} {op : AOP}
theorem T_go (hf : fe k pc = some op) (ho : ∀ C G, op C G ls st h = G pc' ls' st' h') : TT d k pc ls st h Q = TT d k pc' ls' st' h' Q := by
  apply propext
  constructor
  · rintro ⟨n, r, h1, h2⟩
    cases n with
    | zero => cases h1
    | succ n => rw [arun, hf] at h1; dsimp only at h1; rw [ho] at h1; exact ⟨n, r, h1, h2⟩
  · rintro ⟨n, r, h1, h2⟩
    exact ⟨n + 1, r, by rw [arun, hf]; dsimp only; rw [ho]; exact h1, h2⟩
theorem T_ite {c : Prop} {dc : Decidable c} {pc2 : Nat} {ls2 : ALS} {st2 : List Value} {h2 : AHP} (hf : fe k pc = some op) (ho : ∀ C G, op C G ls st h = @ite _ c dc (G pc' ls' st' h') (G pc2 ls2 st2 h2)) : TT d k pc ls st h Q = @ite _ c dc (TT d k pc' ls' st' h' Q) (TT d k pc2 ls2 st2 h2 Q) := by
  by_cases hc : c
  · rw [if_pos hc]
    exact T_go hf (fun C G => by rw [ho, if_pos hc])
  · rw [if_neg hc]
    exact T_go hf (fun C G => by rw [ho, if_neg hc])
theorem T_ret {v : Option Value} (hf : fe k pc = some op) (ho : ∀ C G, op C G ls st h = some (v, h')) : TT d k pc ls st h Q = Q v h' := by
  apply propext
  constructor
  · rintro ⟨n, r, h1, h2⟩
    cases n with
    | zero => cases h1
    | succ n => rw [arun, hf] at h1; dsimp only at h1; rw [ho] at h1; cases h1; exact h2
  · intro h2
    exact ⟨1, (v, h'), by rw [arun, hf]; dsimp only; rw [ho], h2⟩
theorem T_call {k' : Nat} {as rest : List Value} (hf : fe k pc = some op) (ho : ∀ C G, op C G ls st h = match C k' as h with | some (v, h2) => G pc' ls (v.toList ++ rest) h2 | none => none) : TT (d + 1) k pc ls st h Q = MM d k' as h (fun v h2 => TT (d + 1) k pc' ls (v.toList ++ rest) h2 Q) := by
  apply propext
  constructor
  · rintro ⟨n, r, h1, h2⟩
    cases n with
    | zero => cases h1
    | succ n =>
      rw [arun, hf] at h1
      try dsimp only at h1
      rw [ho] at h1
      try dsimp only at h1
      by_cases hl : (en1 as).length ≤ (mt k').2.2.2.1
      · rw [if_pos hl] at h1
        cases hc : arun mt fe n d k' 0 (en0 (mt k').2.2.2.1 as) [] h with
        | none => rw [hc] at h1; cases h1
        | some r1 => rw [hc] at h1; exact ⟨hl, n, r1, hc, n, r, h1, h2⟩
      · rw [if_neg hl] at h1; cases h1
  · rintro ⟨hl, n1, r1, a1, n2, r, a2, a3⟩
    refine ⟨n1 + n2 + 1, r, ?_, a3⟩
    rw [arun, hf]
    try dsimp only
    rw [ho]
    try dsimp only
    rw [if_pos hl, arun_mono _ _ _ _ _ _ _ _ a1 n2]
    try dsimp only
    rw [Nat.add_comm n1 n2]
    exact arun_mono _ _ _ _ _ _ _ _ a2 n1
theorem T_mono {Q' : Option Value → AHP → Prop} (hq : ∀ v h, Q v h → Q' v h) (ht : TT d k pc ls st h Q) : TT d k pc ls st h Q' := by
  obtain ⟨n, r, h1, h2⟩ := ht
  exact ⟨n, r, h1, hq _ _ h2⟩
theorem M_mono {as : List Value} {Q' : Option Value → AHP → Prop} (hq : ∀ v h, Q v h → Q' v h) (ht : MM d k as h Q) : MM d k as h Q' := ⟨ht.1, T_mono hq ht.2⟩
end TTS
theorem fe_X0_init : ∀ pc, fe 0 pc = alk cd_X0_init pc := fun _ => rfl
theorem fe_X0_actOf : ∀ pc, fe 1 pc = alk cd_X0_actOf pc := fun _ => rfl
theorem fe_X0_hasEmber : ∀ pc, fe 2 pc = alk cd_X0_hasEmber pc := fun _ => rfl
theorem fe_X0_forget : ∀ pc, fe 3 pc = alk cd_X0_forget pc := fun _ => rfl
theorem fe_X0_add : ∀ pc, fe 4 pc = alk cd_X0_add pc := fun _ => rfl
theorem fe_X1_init : ∀ pc, fe 5 pc = alk cd_X1_init pc := fun _ => rfl
theorem fe_X1_clear : ∀ pc, fe 6 pc = alk cd_X1_clear pc := fun _ => rfl
theorem fe_X1_become : ∀ pc, fe 7 pc = alk cd_X1_become pc := fun _ => rfl
theorem fe_X1_has : ∀ pc, fe 8 pc = alk cd_X1_has pc := fun _ => rfl
theorem fe_X1_isFree : ∀ pc, fe 9 pc = alk cd_X1_isFree pc := fun _ => rfl
theorem fe_X1_lay : ∀ pc, fe 10 pc = alk cd_X1_lay pc := fun _ => rfl
theorem fe_X1_takeOut : ∀ pc, fe 11 pc = alk cd_X1_takeOut pc := fun _ => rfl
theorem fe_X1_takeOutAll : ∀ pc, fe 12 pc = alk cd_X1_takeOutAll pc := fun _ => rfl
theorem fe_X1_giveFullHeat : ∀ pc, fe 13 pc = alk cd_X1_giveFullHeat pc := fun _ => rfl
theorem fe_X1_carry : ∀ pc, fe 14 pc = alk cd_X1_carry pc := fun _ => rfl
theorem fe_X1_stoke : ∀ pc, fe 15 pc = alk cd_X1_stoke pc := fun _ => rfl
theorem fe_X1_addFuel : ∀ pc, fe 16 pc = alk cd_X1_addFuel pc := fun _ => rfl
theorem fe_X1_pass : ∀ pc, fe 17 pc = alk cd_X1_pass pc := fun _ => rfl
theorem fe_X1_litBits : ∀ pc, fe 18 pc = alk cd_X1_litBits pc := fun _ => rfl
theorem fe_X1_ashBits : ∀ pc, fe 19 pc = alk cd_X1_ashBits pc := fun _ => rfl
theorem fe_X1_hereBits : ∀ pc, fe 20 pc = alk cd_X1_hereBits pc := fun _ => rfl
theorem fe_X1_heatOfAll : ∀ pc, fe 21 pc = alk cd_X1_heatOfAll pc := fun _ => rfl
theorem fe_X1_fuelOfAll : ∀ pc, fe 22 pc = alk cd_X1_fuelOfAll pc := fun _ => rfl
theorem fe_X1_heatBeside : ∀ pc, fe 23 pc = alk cd_X1_heatBeside pc := fun _ => rfl
theorem fe_X1_touching : ∀ pc, fe 24 pc = alk cd_X1_touching pc := fun _ => rfl
theorem fe_X1_hangingWith : ∀ pc, fe 25 pc = alk cd_X1_hangingWith pc := fun _ => rfl
theorem fe_X1_stackOf : ∀ pc, fe 26 pc = alk cd_X1_stackOf pc := fun _ => rfl
theorem fe_X1_warm : ∀ pc, fe 27 pc = alk cd_X1_warm pc := fun _ => rfl
theorem fe_X1_burn : ∀ pc, fe 28 pc = alk cd_X1_burn pc := fun _ => rfl
theorem fe_X1_besideOf : ∀ pc, fe 29 pc = alk cd_X1_besideOf pc := fun _ => rfl
theorem fe_X2_init : ∀ pc, fe 30 pc = alk cd_X2_init pc := fun _ => rfl
theorem fe_X2_behind : ∀ pc, fe 31 pc = alk cd_X2_behind pc := fun _ => rfl
theorem fe_X2_watch : ∀ pc, fe 32 pc = alk cd_X2_watch pc := fun _ => rfl
theorem fe_X2_outOf : ∀ pc, fe 33 pc = alk cd_X2_outOf pc := fun _ => rfl
theorem fe_X2_firstLit : ∀ pc, fe 34 pc = alk cd_X2_firstLit pc := fun _ => rfl
theorem fe_X2_longest : ∀ pc, fe 35 pc = alk cd_X2_longest pc := fun _ => rfl
theorem fe_X2_hottestHour : ∀ pc, fe 36 pc = alk cd_X2_hottestHour pc := fun _ => rfl
theorem fe_X2_lastsNow : ∀ pc, fe 37 pc = alk cd_X2_lastsNow pc := fun _ => rfl
theorem fe_X2_bestMove : ∀ pc, fe 38 pc = alk cd_X2_bestMove pc := fun _ => rfl
theorem fe_X2_bestBanking : ∀ pc, fe 39 pc = alk cd_X2_bestBanking pc := fun _ => rfl
theorem fe_X2_bestPoke : ∀ pc, fe 40 pc = alk cd_X2_bestPoke pc := fun _ => rfl
theorem fe_X2_nextFalls : ∀ pc, fe 41 pc = alk cd_X2_nextFalls pc := fun _ => rfl
theorem fe_X2_gainBy : ∀ pc, fe 42 pc = alk cd_X2_gainBy pc := fun _ => rfl
theorem fe_X2_judge : ∀ pc, fe 43 pc = alk cd_X2_judge pc := fun _ => rfl
theorem fe_X2_winter : ∀ pc, fe 44 pc = alk cd_X2_winter pc := fun _ => rfl
theorem fe_X2_tryLine : ∀ pc, fe 45 pc = alk cd_X2_tryLine pc := fun _ => rfl
theorem fe_X2_tend : ∀ pc, fe 46 pc = alk cd_X2_tend pc := fun _ => rfl
theorem fe_X2_draw : ∀ pc, fe 47 pc = alk cd_X2_draw pc := fun _ => rfl
theorem fe_X2_trialLasts : ∀ pc, fe 48 pc = alk cd_X2_trialLasts pc := fun _ => rfl
theorem fe_X3_init : ∀ pc, fe 49 pc = alk cd_X3_init pc := fun _ => rfl
theorem fe_X3_forget : ∀ pc, fe 50 pc = alk cd_X3_forget pc := fun _ => rfl
theorem fe_X3_addEmber : ∀ pc, fe 51 pc = alk cd_X3_addEmber pc := fun _ => rfl
theorem fe_X3_addDraught : ∀ pc, fe 52 pc = alk cd_X3_addDraught pc := fun _ => rfl
theorem fe_X3_emberNamed : ∀ pc, fe 53 pc = alk cd_X3_emberNamed pc := fun _ => rfl
theorem fe_X3_draughtAt : ∀ pc, fe 54 pc = alk cd_X3_draughtAt pc := fun _ => rfl
theorem fe_X4_withLetter : ∀ pc, fe 55 pc = alk cd_X4_withLetter pc := fun _ => rfl
theorem fe_X4_ofLetters : ∀ pc, fe 56 pc = alk cd_X4_ofLetters pc := fun _ => rfl
theorem fe_X5_init : ∀ pc, fe 57 pc = alk cd_X5_init pc := fun _ => rfl
theorem fe_X5_ofFact : ∀ pc, fe 58 pc = alk cd_X5_ofFact pc := fun _ => rfl
theorem fe_X5_add : ∀ pc, fe 59 pc = alk cd_X5_add pc := fun _ => rfl
theorem fe_X5_tells : ∀ pc, fe 60 pc = alk cd_X5_tells pc := fun _ => rfl
theorem fe_X5_join : ∀ pc, fe 61 pc = alk cd_X5_join pc := fun _ => rfl
theorem fe_X6_init : ∀ pc, fe 62 pc = alk cd_X6_init pc := fun _ => rfl
theorem fe_X6_keep : ∀ pc, fe 63 pc = alk cd_X6_keep pc := fun _ => rfl
theorem fe_X6_bringBack : ∀ pc, fe 64 pc = alk cd_X6_bringBack pc := fun _ => rfl
theorem fe_X6_lay : ∀ pc, fe 65 pc = alk cd_X6_lay pc := fun _ => rfl
theorem fe_X6_goBack : ∀ pc, fe 66 pc = alk cd_X6_goBack pc := fun _ => rfl
theorem fe_X6_forget : ∀ pc, fe 67 pc = alk cd_X6_forget pc := fun _ => rfl
theorem fe_X7_init : ∀ pc, fe 68 pc = alk cd_X7_init pc := fun _ => rfl
theorem fe_X7_readGrate : ∀ pc, fe 69 pc = alk cd_X7_readGrate pc := fun _ => rfl
theorem fe_X7_readEvening : ∀ pc, fe 70 pc = alk cd_X7_readEvening pc := fun _ => rfl
theorem fe_X7_wrong : ∀ pc, fe 71 pc = alk cd_X7_wrong pc := fun _ => rfl
theorem fe_X7_takeKey : ∀ pc, fe 72 pc = alk cd_X7_takeKey pc := fun _ => rfl
theorem fe_X7_takeSign : ∀ pc, fe 73 pc = alk cd_X7_takeSign pc := fun _ => rfl
theorem fe_X7_takeNumber : ∀ pc, fe 74 pc = alk cd_X7_takeNumber pc := fun _ => rfl
theorem fe_X7_grateLine : ∀ pc, fe 75 pc = alk cd_X7_grateLine pc := fun _ => rfl
theorem fe_X7_emberLine : ∀ pc, fe 76 pc = alk cd_X7_emberLine pc := fun _ => rfl
theorem fe_X7_draughtLine : ∀ pc, fe 77 pc = alk cd_X7_draughtLine pc := fun _ => rfl
theorem fe_X7_catchesLine : ∀ pc, fe 78 pc = alk cd_X7_catchesLine pc := fun _ => rfl
theorem fe_X7_joined : ∀ pc, fe 79 pc = alk cd_X7_joined pc := fun _ => rfl
theorem fe_X7_levelHere : ∀ pc, fe 80 pc = alk cd_X7_levelHere pc := fun _ => rfl
theorem fe_X7_stepHere : ∀ pc, fe 81 pc = alk cd_X7_stepHere pc := fun _ => rfl
theorem fe_X7_part : ∀ pc, fe 82 pc = alk cd_X7_part pc := fun _ => rfl
theorem fe_X7_eveningLine : ∀ pc, fe 83 pc = alk cd_X7_eveningLine pc := fun _ => rfl
theorem fe_X7_takeEmber : ∀ pc, fe 84 pc = alk cd_X7_takeEmber pc := fun _ => rfl
theorem fe_X8_init : ∀ pc, fe 85 pc = alk cd_X8_init pc := fun _ => rfl
theorem fe_X8_fewestLit : ∀ pc, fe 86 pc = alk cd_X8_fewestLit pc := fun _ => rfl
theorem fe_X8_fewestTaken : ∀ pc, fe 87 pc = alk cd_X8_fewestTaken pc := fun _ => rfl
theorem fe_X8_suspects : ∀ pc, fe 88 pc = alk cd_X8_suspects pc := fun _ => rfl
theorem fe_X8_bestLook : ∀ pc, fe 89 pc = alk cd_X8_bestLook pc := fun _ => rfl
theorem fe_X8_millionths : ∀ pc, fe 90 pc = alk cd_X8_millionths pc := fun _ => rfl
theorem fe_X8_trialGlows : ∀ pc, fe 91 pc = alk cd_X8_trialGlows pc := fun _ => rfl
theorem fe_X8_suspectsSeen : ∀ pc, fe 92 pc = alk cd_X8_suspectsSeen pc := fun _ => rfl
theorem fe_X9_init : ∀ pc, fe 93 pc = alk cd_X9_init pc := fun _ => rfl
theorem fe_X9_put : ∀ pc, fe 94 pc = alk cd_X9_put pc := fun _ => rfl
theorem fe_X9_empty : ∀ pc, fe 95 pc = alk cd_X9_empty pc := fun _ => rfl
theorem fe_X9_toFirst : ∀ pc, fe 96 pc = alk cd_X9_toFirst pc := fun _ => rfl
theorem fe_X9_toNext : ∀ pc, fe 97 pc = alk cd_X9_toNext pc := fun _ => rfl
theorem fe_X9_isSign : ∀ pc, fe 98 pc = alk cd_X9_isSign pc := fun _ => rfl
theorem fe_X9_isBlank : ∀ pc, fe 99 pc = alk cd_X9_isBlank pc := fun _ => rfl
theorem fe_X9_isLetter : ∀ pc, fe 100 pc = alk cd_X9_isLetter pc := fun _ => rfl
theorem fe_X9_isDigit : ∀ pc, fe 101 pc = alk cd_X9_isDigit pc := fun _ => rfl
theorem fe_X9_isOwnSign : ∀ pc, fe 102 pc = alk cd_X9_isOwnSign pc := fun _ => rfl
theorem fe_X10_init : ∀ pc, fe 103 pc = alk cd_X10_init pc := fun _ => rfl
theorem fe_X10_add : ∀ pc, fe 104 pc = alk cd_X10_add pc := fun _ => rfl
theorem fe_X10_become : ∀ pc, fe 105 pc = alk cd_X10_become pc := fun _ => rfl
theorem fe_X10_forget : ∀ pc, fe 106 pc = alk cd_X10_forget pc := fun _ => rfl
theorem fe_X10_agrees : ∀ pc, fe 107 pc = alk cd_X10_agrees pc := fun _ => rfl
theorem fe_X11_init : ∀ pc, fe 108 pc = alk cd_X11_init pc := fun _ => rfl
theorem fe_X11_feed : ∀ pc, fe 109 pc = alk cd_X11_feed pc := fun _ => rfl
theorem fe_X11_grate : ∀ pc, fe 110 pc = alk cd_X11_grate pc := fun _ => rfl
theorem fe_X11_evening : ∀ pc, fe 111 pc = alk cd_X11_evening pc := fun _ => rfl
theorem fe_X11_ember : ∀ pc, fe 112 pc = alk cd_X11_ember pc := fun _ => rfl
theorem fe_X11_cell : ∀ pc, fe 113 pc = alk cd_X11_cell pc := fun _ => rfl
theorem fe_X11_hour : ∀ pc, fe 114 pc = alk cd_X11_hour pc := fun _ => rfl
theorem fe_X11_poke : ∀ pc, fe 115 pc = alk cd_X11_poke pc := fun _ => rfl
theorem fe_X11_tongs : ∀ pc, fe 116 pc = alk cd_X11_tongs pc := fun _ => rfl
theorem fe_X11_fuel : ∀ pc, fe 117 pc = alk cd_X11_fuel pc := fun _ => rfl
theorem fe_X11_bank : ∀ pc, fe 118 pc = alk cd_X11_bank pc := fun _ => rfl
theorem fe_X11_undo : ∀ pc, fe 119 pc = alk cd_X11_undo pc := fun _ => rfl
theorem fe_X11_judged : ∀ pc, fe 120 pc = alk cd_X11_judged pc := fun _ => rfl
theorem fe_X11_out : ∀ pc, fe 121 pc = alk cd_X11_out pc := fun _ => rfl
theorem fe_X11_lasts : ∀ pc, fe 122 pc = alk cd_X11_lasts pc := fun _ => rfl
theorem fe_X11_last : ∀ pc, fe 123 pc = alk cd_X11_last pc := fun _ => rfl
theorem fe_X11_peak : ∀ pc, fe 124 pc = alk cd_X11_peak pc := fun _ => rfl
theorem fe_X11_age : ∀ pc, fe 125 pc = alk cd_X11_age pc := fun _ => rfl
theorem fe_X11_move : ∀ pc, fe 126 pc = alk cd_X11_move pc := fun _ => rfl
theorem fe_X11_banks : ∀ pc, fe 127 pc = alk cd_X11_banks pc := fun _ => rfl
theorem fe_X11_stir : ∀ pc, fe 128 pc = alk cd_X11_stir pc := fun _ => rfl
theorem fe_X11_kindle : ∀ pc, fe 129 pc = alk cd_X11_kindle pc := fun _ => rfl
theorem fe_X11_save : ∀ pc, fe 130 pc = alk cd_X11_save pc := fun _ => rfl
theorem fe_X11_tell : ∀ pc, fe 131 pc = alk cd_X11_tell pc := fun _ => rfl
theorem fe_X11_which : ∀ pc, fe 132 pc = alk cd_X11_which pc := fun _ => rfl
theorem fe_X11_look : ∀ pc, fe 133 pc = alk cd_X11_look pc := fun _ => rfl
theorem fe_X11_chance : ∀ pc, fe 134 pc = alk cd_X11_chance pc := fun _ => rfl
theorem fe_X11_touch : ∀ pc, fe 135 pc = alk cd_X11_touch pc := fun _ => rfl
theorem fe_X11_hall : ∀ pc, fe 136 pc = alk cd_X11_hall pc := fun _ => rfl
theorem fe_X11_halls : ∀ pc, fe 137 pc = alk cd_X11_halls pc := fun _ => rfl
theorem fe_X11_tower : ∀ pc, fe 138 pc = alk cd_X11_tower pc := fun _ => rfl
theorem fe_X11_alight : ∀ pc, fe 139 pc = alk cd_X11_alight pc := fun _ => rfl
theorem fe_X11_caught : ∀ pc, fe 140 pc = alk cd_X11_caught pc := fun _ => rfl
theorem fe_X11_ash : ∀ pc, fe 141 pc = alk cd_X11_ash pc := fun _ => rfl
theorem fe_X11_falls : ∀ pc, fe 142 pc = alk cd_X11_falls pc := fun _ => rfl
theorem fe_X11_spare : ∀ pc, fe 143 pc = alk cd_X11_spare pc := fun _ => rfl
theorem fe_X11_lone : ∀ pc, fe 144 pc = alk cd_X11_lone pc := fun _ => rfl
theorem fe_X11_warmest : ∀ pc, fe 145 pc = alk cd_X11_warmest pc := fun _ => rfl
theorem fe_X11_winters : ∀ pc, fe 146 pc = alk cd_X11_winters pc := fun _ => rfl
theorem fe_X11_mark : ∀ pc, fe 147 pc = alk cd_X11_mark pc := fun _ => rfl
theorem fe_X11_count : ∀ pc, fe 148 pc = alk cd_X11_count pc := fun _ => rfl
theorem fe_X11_beginAnew : ∀ pc, fe 149 pc = alk cd_X11_beginAnew pc := fun _ => rfl
theorem fe_X11_isEmber : ∀ pc, fe 150 pc = alk cd_X11_isEmber pc := fun _ => rfl
theorem fe_X11_isCell : ∀ pc, fe 151 pc = alk cd_X11_isCell pc := fun _ => rfl
theorem fe_X11_isLongView : ∀ pc, fe 152 pc = alk cd_X11_isLongView pc := fun _ => rfl
theorem fe_X11_isGain : ∀ pc, fe 153 pc = alk cd_X11_isGain pc := fun _ => rfl
theorem fe_X11_isAtRest : ∀ pc, fe 154 pc = alk cd_X11_isAtRest pc := fun _ => rfl
theorem fe_X11_gainsByTurning : ∀ pc, fe 155 pc = alk cd_X11_gainsByTurning pc := fun _ => rfl
theorem fe_X11_gainOf : ∀ pc, fe 156 pc = alk cd_X11_gainOf pc := fun _ => rfl
theorem fe_X12_thrown : ∀ pc, fe 157 pc = alk cd_X12_thrown pc := fun _ => rfl
theorem fe_X12_feed : ∀ pc, fe 158 pc = alk cd_X12_feed pc := fun _ => rfl
theorem fe_X12_lay : ∀ pc, fe 159 pc = alk cd_X12_lay pc := fun _ => rfl
theorem fe_X12_init : ∀ pc, fe 160 pc = alk cd_X12_init pc := fun _ => rfl
theorem fe_X12_isLetter : ∀ pc, fe 161 pc = alk cd_X12_isLetter pc := fun _ => rfl
theorem fe_X12_isDigit : ∀ pc, fe 162 pc = alk cd_X12_isDigit pc := fun _ => rfl
theorem fe_X12_rank : ∀ pc, fe 163 pc = alk cd_X12_rank pc := fun _ => rfl
theorem fe_X12_isSignOf : ∀ pc, fe 164 pc = alk cd_X12_isSignOf pc := fun _ => rfl
theorem fe_X12_cutAll : ∀ pc, fe 165 pc = alk cd_X12_cutAll pc := fun _ => rfl
theorem fe_X12_wrong : ∀ pc, fe 166 pc = alk cd_X12_wrong pc := fun _ => rfl
theorem fe_X12_isSign : ∀ pc, fe 167 pc = alk cd_X12_isSign pc := fun _ => rfl
theorem fe_X12_isWord : ∀ pc, fe 168 pc = alk cd_X12_isWord pc := fun _ => rfl
theorem fe_X12_takeSign : ∀ pc, fe 169 pc = alk cd_X12_takeSign pc := fun _ => rfl
theorem fe_X12_hasSign : ∀ pc, fe 170 pc = alk cd_X12_hasSign pc := fun _ => rfl
theorem fe_X12_hasWord : ∀ pc, fe 171 pc = alk cd_X12_hasWord pc := fun _ => rfl
theorem fe_X12_takeWord : ∀ pc, fe 172 pc = alk cd_X12_takeWord pc := fun _ => rfl
theorem fe_X12_within : ∀ pc, fe 173 pc = alk cd_X12_within pc := fun _ => rfl
theorem fe_X12_standsAsAlways : ∀ pc, fe 174 pc = alk cd_X12_standsAsAlways pc := fun _ => rfl
theorem fe_X12_takeNumber : ∀ pc, fe 175 pc = alk cd_X12_takeNumber pc := fun _ => rfl
theorem fe_X12_takeAfter : ∀ pc, fe 176 pc = alk cd_X12_takeAfter pc := fun _ => rfl
theorem fe_X12_wordHere : ∀ pc, fe 177 pc = alk cd_X12_wordHere pc := fun _ => rfl
theorem fe_X12_takeOne : ∀ pc, fe 178 pc = alk cd_X12_takeOne pc := fun _ => rfl
theorem fe_X12_isName : ∀ pc, fe 179 pc = alk cd_X12_isName pc := fun _ => rfl
theorem fe_X12_nameAt : ∀ pc, fe 180 pc = alk cd_X12_nameAt pc := fun _ => rfl
theorem fe_X12_takeTold : ∀ pc, fe 181 pc = alk cd_X12_takeTold pc := fun _ => rfl
theorem fe_X12_grate : ∀ pc, fe 182 pc = alk cd_X12_grate pc := fun _ => rfl
theorem fe_X12_takeCell : ∀ pc, fe 183 pc = alk cd_X12_takeCell pc := fun _ => rfl
theorem fe_X12_readEmber : ∀ pc, fe 184 pc = alk cd_X12_readEmber pc := fun _ => rfl
theorem fe_X12_readOnce : ∀ pc, fe 185 pc = alk cd_X12_readOnce pc := fun _ => rfl
theorem fe_X12_readDraught : ∀ pc, fe 186 pc = alk cd_X12_readDraught pc := fun _ => rfl
theorem fe_X12_evening : ∀ pc, fe 187 pc = alk cd_X12_evening pc := fun _ => rfl
theorem fe_X12_emit : ∀ pc, fe 188 pc = alk cd_X12_emit pc := fun _ => rfl
theorem fe_X12_whole : ∀ pc, fe 189 pc = alk cd_X12_whole pc := fun _ => rfl
theorem fe_X12_test : ∀ pc, fe 190 pc = alk cd_X12_test pc := fun _ => rfl
theorem fe_X12_sums : ∀ pc, fe 191 pc = alk cd_X12_sums pc := fun _ => rfl
theorem fe_X12_products : ∀ pc, fe 192 pc = alk cd_X12_products pc := fun _ => rfl
theorem fe_X12_takePart : ∀ pc, fe 193 pc = alk cd_X12_takePart pc := fun _ => rfl
theorem fe_X12_worthAt : ∀ pc, fe 194 pc = alk cd_X12_worthAt pc := fun _ => rfl
theorem fe_X12_both : ∀ pc, fe 195 pc = alk cd_X12_both pc := fun _ => rfl
theorem fe_X12_copies : ∀ pc, fe 196 pc = alk cd_X12_copies pc := fun _ => rfl
theorem fe_X12_starts : ∀ pc, fe 197 pc = alk cd_X12_starts pc := fun _ => rfl
theorem fe_X12_begins : ∀ pc, fe 198 pc = alk cd_X12_begins pc := fun _ => rfl
theorem fe_X12_keeps : ∀ pc, fe 199 pc = alk cd_X12_keeps pc := fun _ => rfl
theorem fe_X12_embers : ∀ pc, fe 200 pc = alk cd_X12_embers pc := fun _ => rfl
theorem fe_X12_emberOf : ∀ pc, fe 201 pc = alk cd_X12_emberOf pc := fun _ => rfl
theorem fe_X12_isEmber : ∀ pc, fe 202 pc = alk cd_X12_isEmber pc := fun _ => rfl
theorem fe_X12_isThere : ∀ pc, fe 203 pc = alk cd_X12_isThere pc := fun _ => rfl
theorem fe_X12_isAlight : ∀ pc, fe 204 pc = alk cd_X12_isAlight pc := fun _ => rfl
theorem fe_X12_alightNow : ∀ pc, fe 205 pc = alk cd_X12_alightNow pc := fun _ => rfl
theorem fe_X12_lyingIn : ∀ pc, fe 206 pc = alk cd_X12_lyingIn pc := fun _ => rfl
theorem fe_X12_doTouch : ∀ pc, fe 207 pc = alk cd_X12_doTouch pc := fun _ => rfl
theorem fe_X12_touchOf : ∀ pc, fe 208 pc = alk cd_X12_touchOf pc := fun _ => rfl
theorem fe_X12_nearOf : ∀ pc, fe 209 pc = alk cd_X12_nearOf pc := fun _ => rfl
theorem fe_X12_bits : ∀ pc, fe 210 pc = alk cd_X12_bits pc := fun _ => rfl
theorem fe_X12_falls : ∀ pc, fe 211 pc = alk cd_X12_falls pc := fun _ => rfl
theorem fe_X12_vanishes : ∀ pc, fe 212 pc = alk cd_X12_vanishes pc := fun _ => rfl
theorem fe_X12_draughtOf : ∀ pc, fe 213 pc = alk cd_X12_draughtOf pc := fun _ => rfl
theorem fe_X12_passes : ∀ pc, fe 214 pc = alk cd_X12_passes pc := fun _ => rfl
theorem fe_X12_passes_ : ∀ pc, fe 215 pc = alk cd_X12_passes_ pc := fun _ => rfl
theorem fe_X12_heatOfAll : ∀ pc, fe 216 pc = alk cd_X12_heatOfAll pc := fun _ => rfl
theorem fe_X12_pokes : ∀ pc, fe 217 pc = alk cd_X12_pokes pc := fun _ => rfl
theorem fe_X12_feeds : ∀ pc, fe 218 pc = alk cd_X12_feeds pc := fun _ => rfl
theorem fe_X12_ember : ∀ pc, fe 219 pc = alk cd_X12_ember pc := fun _ => rfl
theorem fe_X12_cell : ∀ pc, fe 220 pc = alk cd_X12_cell pc := fun _ => rfl
theorem fe_X12_hour : ∀ pc, fe 221 pc = alk cd_X12_hour pc := fun _ => rfl
theorem fe_X12_poke : ∀ pc, fe 222 pc = alk cd_X12_poke pc := fun _ => rfl
theorem fe_X12_mayCarry : ∀ pc, fe 223 pc = alk cd_X12_mayCarry pc := fun _ => rfl
theorem fe_X12_tongs : ∀ pc, fe 224 pc = alk cd_X12_tongs pc := fun _ => rfl
theorem fe_X12_fuel : ∀ pc, fe 225 pc = alk cd_X12_fuel pc := fun _ => rfl
theorem fe_X12_bank : ∀ pc, fe 226 pc = alk cd_X12_bank pc := fun _ => rfl
theorem fe_X12_undo : ∀ pc, fe 227 pc = alk cd_X12_undo pc := fun _ => rfl
theorem fe_X12_judged : ∀ pc, fe 228 pc = alk cd_X12_judged pc := fun _ => rfl
theorem fe_X12_triesNow : ∀ pc, fe 229 pc = alk cd_X12_triesNow pc := fun _ => rfl
theorem fe_X12_outOf : ∀ pc, fe 230 pc = alk cd_X12_outOf pc := fun _ => rfl
theorem fe_X12_out : ∀ pc, fe 231 pc = alk cd_X12_out pc := fun _ => rfl
theorem fe_X12_last : ∀ pc, fe 232 pc = alk cd_X12_last pc := fun _ => rfl
theorem fe_X12_lastsFor : ∀ pc, fe 233 pc = alk cd_X12_lastsFor pc := fun _ => rfl
theorem fe_X12_lasts : ∀ pc, fe 234 pc = alk cd_X12_lasts pc := fun _ => rfl
theorem fe_X12_caught : ∀ pc, fe 235 pc = alk cd_X12_caught pc := fun _ => rfl
theorem fe_X12_ash : ∀ pc, fe 236 pc = alk cd_X12_ash pc := fun _ => rfl
theorem fe_X12_falls_ : ∀ pc, fe 237 pc = alk cd_X12_falls_ pc := fun _ => rfl
theorem fe_X12_spare : ∀ pc, fe 238 pc = alk cd_X12_spare pc := fun _ => rfl
theorem fe_X12_peak : ∀ pc, fe 239 pc = alk cd_X12_peak pc := fun _ => rfl
theorem fe_X12_age : ∀ pc, fe 240 pc = alk cd_X12_age pc := fun _ => rfl
theorem fe_X12_move : ∀ pc, fe 241 pc = alk cd_X12_move pc := fun _ => rfl
theorem fe_X12_lastsBanked : ∀ pc, fe 242 pc = alk cd_X12_lastsBanked pc := fun _ => rfl
theorem fe_X12_banks : ∀ pc, fe 243 pc = alk cd_X12_banks pc := fun _ => rfl
theorem fe_X12_stir : ∀ pc, fe 244 pc = alk cd_X12_stir pc := fun _ => rfl
theorem fe_X12_everAlight : ∀ pc, fe 245 pc = alk cd_X12_everAlight pc := fun _ => rfl
theorem fe_X12_thereNow : ∀ pc, fe 246 pc = alk cd_X12_thereNow pc := fun _ => rfl
theorem fe_X12_kindle : ∀ pc, fe 247 pc = alk cd_X12_kindle pc := fun _ => rfl
theorem fe_X12_save : ∀ pc, fe 248 pc = alk cd_X12_save pc := fun _ => rfl
theorem fe_X12_tell : ∀ pc, fe 249 pc = alk cd_X12_tell pc := fun _ => rfl
theorem fe_X12_litFor : ∀ pc, fe 250 pc = alk cd_X12_litFor pc := fun _ => rfl
theorem fe_X12_whichNow : ∀ pc, fe 251 pc = alk cd_X12_whichNow pc := fun _ => rfl
theorem fe_X12_which : ∀ pc, fe 252 pc = alk cd_X12_which pc := fun _ => rfl
theorem fe_X12_look : ∀ pc, fe 253 pc = alk cd_X12_look pc := fun _ => rfl
theorem fe_X12_chance : ∀ pc, fe 254 pc = alk cd_X12_chance pc := fun _ => rfl
theorem fe_X12_touch : ∀ pc, fe 255 pc = alk cd_X12_touch pc := fun _ => rfl
theorem fe_X12_lone : ∀ pc, fe 256 pc = alk cd_X12_lone pc := fun _ => rfl
theorem fe_X12_warmest : ∀ pc, fe 257 pc = alk cd_X12_warmest pc := fun _ => rfl
theorem fe_X12_hallOf : ∀ pc, fe 258 pc = alk cd_X12_hallOf pc := fun _ => rfl
theorem fe_X12_hall : ∀ pc, fe 259 pc = alk cd_X12_hall pc := fun _ => rfl
theorem fe_X12_halls : ∀ pc, fe 260 pc = alk cd_X12_halls pc := fun _ => rfl
theorem fe_X12_tower : ∀ pc, fe 261 pc = alk cd_X12_tower pc := fun _ => rfl
theorem fe_X12_alight : ∀ pc, fe 262 pc = alk cd_X12_alight pc := fun _ => rfl
theorem fe_X12_getsBy : ∀ pc, fe 263 pc = alk cd_X12_getsBy pc := fun _ => rfl
theorem fe_X12_rests : ∀ pc, fe 264 pc = alk cd_X12_rests pc := fun _ => rfl
theorem fe_X12_draw : ∀ pc, fe 265 pc = alk cd_X12_draw pc := fun _ => rfl
theorem fe_X12_drawsDeed : ∀ pc, fe 266 pc = alk cd_X12_drawsDeed pc := fun _ => rfl
theorem fe_X12_winters : ∀ pc, fe 267 pc = alk cd_X12_winters pc := fun _ => rfl
theorem fe_X12_mark : ∀ pc, fe 268 pc = alk cd_X12_mark pc := fun _ => rfl
theorem fe_X12_count : ∀ pc, fe 269 pc = alk cd_X12_count pc := fun _ => rfl
theorem fe_J6_bitCount_0f7a4 : ∀ pc, fe 270 pc = alk cd_J6_bitCount_0f7a4 pc := fun _ => rfl
